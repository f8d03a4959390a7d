theorem yN_bd {P : Nat → Prop} {m : Nat} : yN P m ≤ m := by
  induction m with
  | zero => exact Nat.le_refl _
  | succ m ih =>
    by_cases hp : P m
    · rw [yN_t hp]; omega
    · rw [yN_f hp]; omega
theorem z_cnt {P : Nat → Prop} {w k : Nat} {x : Int64} (h : zW P w x) (hk : k < 64) : nI (yN P (64 * w + k)) + ((x.toUInt64 >>> ((nI k).toInt64.toUInt64 &&& Int64.toUInt64 63)).toInt64 &&& 1).toInt32 = nI (yN P (64 * w + (k + 1))) := by
  rw [zb_bit hk, ← Nat.add_assoc]
  by_cases hp : P (64 * w + k)
  · rw [if_pos ((h k hk).mpr hp), yN_t hp]
    exact nI_1 _
  · rw [if_neg (fun q => hp ((h k hk).mp q)), yN_f hp]
    exact Int32.add_zero _
set_option maxHeartbeats 4000000 in
set_option maxRecDepth 100000 in
theorem r_some (l : Launch) (dC : Nat → ClassId) (dI : Nat → Nat → Nat) (h : Nat) (q1 : Nat) (q2 : Nat) (q3 : Nat) (q4 : Nat) (q5 : Nat) (q6 : Nat) (q7 : Nat) (k5 : ClassId) (k6 : ClassId) (k7 : ClassId) (f5 : Nat → Int32) (f6 : Nat → Int64) (f7 : Nat → Int64) (th : Int32) (ts : Int32) (cn : Int32) (lv : Int32) (an : Nat) (md : Int32) (bt : Int32) (sz : Nat) (han : an ≤ 18) (hlit : ∀ j, j < an → yLit (f5 j)) (h7 : zIn f7) : Met l yX1_some wsX1_some ({ frames := 2, cells := 0, slots := 0, locals := 80 }) (va_Pc [.ref h, .int bt] (fun U => U.heap.size = sz ∧ va_P (dC, dI) vwCl [zO h th q1 ts cn q2 q3 q4 lv q5 (nI an) md q6 q7, (q5, .inl (k5, 18, .inl f5)), (q6, .inl (k6, 4096, .inr (.inl f6))), (q7, .inl (k7, 6, .inr (.inl f7)))] U.heap ∧ va_K (dC, dI) vwCl [(k5, .int), (k6, .long), (k7, .long)] U ∧ va_D (fun _ => True) [zO h th q1 ts cn q2 q3 q4 lv q5 (nI an) md q6 q7, (q5, .inl (k5, 18, .inl f5)), (q6, .inl (k6, 4096, .inr (.inl f6))), (q7, .inl (k7, 6, .inr (.inl f7)))])) (va_Qi (fun (r : Int32) (u : Unit) => (r = 1 ∧ ∃ a, a < 262144 ∧ zP f5 f6 an bt a) ∨ (r = 0 ∧ ¬ ∃ a, a < 262144 ∧ zP f5 f6 an bt a)) (fun (u : Unit) (t : State) => va_P (dC, dI) vwCl [zO h th q1 ts cn q2 q3 q4 lv q5 (nI an) md q6 q7, (q5, .inl (k5, 18, .inl f5)), (q6, .inl (k6, 4096, .inr (.inl f6))), (q7, .inl (k7, 6, .inr (.inl f7)))] t.heap ∧ va_K (dC, dI) vwCl [(k5, .int), (k6, .long), (k7, .long)] t ∧ va_D (va_A [zO h th q1 ts cn q2 q3 q4 lv q5 (nI an) md q6 q7, (q5, .inl (k5, 18, .inl f5)), (q6, .inl (k6, 4096, .inr (.inl f6))), (q7, .inl (k7, 6, .inr (.inl f7)))] sz) [zO h th q1 ts cn q2 q3 q4 lv q5 (nI an) md q6 q7, (q5, .inl (k5, 18, .inl f5)), (q6, .inl (k6, 4096, .inr (.inl f6))), (q7, .inl (k7, 6, .inr (.inl f7)))]) (va_A [zO h th q1 ts cn q2 q3 q4 lv q5 (nI an) md q6 q7, (q5, .inl (k5, 18, .inl f5)), (q6, .inl (k6, 4096, .inr (.inl f6))), (q7, .inl (k7, 6, .inr (.inl f7)))] sz)) 0 0 (va_A [zO h th q1 ts cn q2 q3 q4 lv q5 (nI an) md q6 q7, (q5, .inl (k5, 18, .inl f5)), (q6, .inl (k6, 4096, .inr (.inl f6))), (q7, .inl (k7, 6, .inr (.inl f7)))] sz) := by
  refine Met.ofW (cc := cX1_some) (maxL := 4) (ret := (some .boolean)) (by decide) rfl ?_
  intro p e s m args below meth c s₁ B hml hv
  obtain ⟨rfl, hsz, hP, hK, hD0⟩ := hv
  have hx := B.exec
  have hb := B.bytes
  have hr := B.returns
  have hts := atoms_spec (ws := wsX1_some) B.pre
  have htA : ∀ w ∈ wsA, w.before _ s = true := fun w h => hts w (List.mem_cons_of_mem _ h)
  have hown : s.vm.findClass RX1 = some m.cls := findClass_of_methodNamed B.named
  have hlocks := B.notSynchronized
  subst hsz
  have hD := hD0.self (sz := s.heap.size)
  generalize hAe : va_A [zO h th q1 ts cn q2 q3 q4 lv q5 (nI an) md q6 q7, (q5, .inl (k5, 18, .inl f5)), (q6, .inl (k6, 4096, .inr (.inl f6))), (q7, .inl (k7, 6, .inr (.inl f7)))] s.heap.size = A at hD ⊢
  have hA : ∀ q : Nat, s.heap.size ≤ q → A q := fun q h => by rw [← hAe]; exact Or.inr h
  have hS : va_S A s.heap s.heap [] := va_S.rf
  have hP : va_P (dC, dI) vwCl [zO h th q1 ts cn q2 q3 q4 lv q5 (nI an) md q6 q7, (q5, .inl (k5, 18, .inl f5)), (q6, .inl (k6, 4096, .inr (.inl f6))), (q7, .inl (k7, 6, .inr (.inl f7)))] s.heap := hP
  have hl := lv_entry ([.ref h, .int bt]) (n := 4) (Nat.le_of_ble_eq_true rfl)
  rw [lg_entry_eq]
  generalize (lg_sl ([.ref h, .int bt]) ++ List.replicate (4 - (lg_sl ([.ref h, .int bt])).length) Slot.unset).toArray = ls at hl ⊢
  have hl : lv_has ls 4 [(0, .ref h), (1, .int bt)] := hl
  refine lv_iconst (v := 0) hx hb dX1_some_0 (by decide) ?_
  refine lv_istore_n (lv' := [(2, .int 0), (0, .ref h), (1, .int bt)]) hx hb dX1_some_1 rfl hl (by decide) rfl (fun ls hl => ?_)
  refine lv_iconst (v := 0) hx hb dX1_some_2 (by decide) ?_
  refine lv_istore_n (lv' := [(3, .int 0), (2, .int 0), (0, .ref h), (1, .int bt)]) hx hb dX1_some_3 rfl hl (by decide) rfl (fun ls hl => ?_)
  have loop : ∀ (fu w : Nat) (x2 : Int32), w ≤ 4096 → 4097 ≤ w + fu → ((x2 = 0 ∧ ∀ a, a < 64 * w → ¬ zP f5 f6 an bt a) ∨ (x2 = 1 ∧ ∃ a, a < 262144 ∧ zP f5 f6 an bt a)) → ∀ (H : Heap) (locs : List Loc), va_P (dC, dI) vwCl [zO h th q1 ts cn q2 q3 q4 lv q5 (nI an) md q6 q7, (q5, .inl (k5, 18, .inl f5)), (q6, .inl (k6, 4096, .inr (.inl f6))), (q7, .inl (k7, 6, .inr (.inl f7)))] H → va_D A [zO h th q1 ts cn q2 q3 q4 lv q5 (nI an) md q6 q7, (q5, .inl (k5, 18, .inl f5)), (q6, .inl (k6, 4096, .inr (.inl f6))), (q7, .inl (k7, 6, .inr (.inl f7)))] → va_S A s.heap H locs → ∀ (ls : Array Slot), lv_has ls 4 [(3, .int (nI w)), (2, .int x2), (0, .ref h), (1, .int bt)] → W p l e (headSpec wsX1_some ({ frames := 2, cells := 0, slots := 0, locals := 80 })).room s m ([.ref h, .int bt] : List Value).toArray below meth c H locs 0 0 (MQ below (va_Qi (fun (r : Int32) (u : Unit) => (r = 1 ∧ ∃ a, a < 262144 ∧ zP f5 f6 an bt a) ∨ (r = 0 ∧ ¬ ∃ a, a < 262144 ∧ zP f5 f6 an bt a)) (fun (u : Unit) (t : State) => va_P (dC, dI) vwCl [zO h th q1 ts cn q2 q3 q4 lv q5 (nI an) md q6 q7, (q5, .inl (k5, 18, .inl f5)), (q6, .inl (k6, 4096, .inr (.inl f6))), (q7, .inl (k7, 6, .inr (.inl f7)))] t.heap ∧ va_K (dC, dI) vwCl [(k5, .int), (k6, .long), (k7, .long)] t ∧ va_D A [zO h th q1 ts cn q2 q3 q4 lv q5 (nI an) md q6 q7, (q5, .inl (k5, 18, .inl f5)), (q6, .inl (k6, 4096, .inr (.inl f6))), (q7, .inl (k7, 6, .inr (.inl f7)))]) A) ([.ref h, .int bt] : List Value).toArray s 0 0 A) (F0 m 4 ls []) := by
    intro fu
    induction fu with
    | zero =>
      intro w x2 h1 h2
      exact absurd h2 (by omega)
    | succ fu ih =>
      intro w x2 hw hin hI H locs hP hD hS ls hl
      refine lv_iload_n hx hb dX1_some_4 rfl (lv_at hl 0 rfl) ?_
      refine lv_sipush (v := 4096) hx hb dX1_some_5 (by decide) ?_
      refine lv_icmp_ge (tgt := 38) hx hb dX1_some_8 (by decide) (fun cb_28 => ?_) (fun cb_28 => ?_)
      · have hwe : w = 4096 := by
          rcases Nat.lt_or_ge w 4096 with q | q
          · exact absurd cb_28 (nI_ge (b := 4096) q (by omega))
          · omega
        subst hwe
        rcases hI with ⟨rfl, hI⟩ | ⟨rfl, hI⟩
        · refine lv_iload_n hx hb dX1_some_38 rfl (lv_at hl 1 rfl) ?_
          exact W.zret (v := 0) (ty := .boolean) hx hb hr (by decide) (fun t ht hW => ⟨⟨0, (), rfl, Or.inr ⟨rfl, fun ⟨a, h1, h2⟩ => hI a (by omega) h2⟩, by rw [ht]; exact hP, va_K.moved hW.alike hK, hD⟩, hS.F ht⟩) hS.2.2 dX1_some_39
        · refine lv_iload_n hx hb dX1_some_38 rfl (lv_at hl 1 rfl) ?_
          exact W.zret (v := 1) (ty := .boolean) hx hb hr (by decide) (fun t ht hW => ⟨⟨1, (), rfl, Or.inl ⟨rfl, hI⟩, by rw [ht]; exact hP, va_K.moved hW.alike hK, hD⟩, hS.F ht⟩) hS.2.2 dX1_some_39
      · have hlt : w < 4096 := by
          rcases Nat.lt_or_ge w 4096 with q | q
          · exact q
          · exact absurd (nI_le (a := 4096) q (by omega)) cb_28
        rcases hI with ⟨rfl, hI⟩ | ⟨rfl, hI⟩
        · refine lv_iload_n hx hb dX1_some_11 rfl (lv_at hl 1 rfl) ?_
          refine lv_if_ne (tgt := 38) hx hb dX1_some_12 (by decide) (fun cb_29 => ?_) (fun cb_29 => ?_)
          · exact absurd rfl cb_29
          · refine lv_aload_n hx hb dX1_some_15 rfl (lv_at hl 2 rfl) ?_
            refine lv_iload_n hx hb dX1_some_16 rfl (lv_at hl 0 rfl) ?_
            refine lv_iload_n hx hb dX1_some_17 rfl (lv_at hl 3 rfl) ?_
            have hPc := hP.sub (ws' := [zO h th q1 ts cn q2 q3 q4 lv q5 (nI an) md q6 q7, (q5, .inl (k5, 18, .inl f5)), (q6, .inl (k6, 4096, .inr (.inl f6))), (q7, .inl (k7, 6, .inr (.inl f7)))]) [0, 1, 2, 3] rfl
            have hDc := hD.sub (ws' := [zO h th q1 ts cn q2 q3 q4 lv q5 (nI an) md q6 q7, (q5, .inl (k5, 18, .inl f5)), (q6, .inl (k6, 4096, .inr (.inl f6))), (q7, .inl (k7, 6, .inr (.inl f7)))]) [0, 1, 2, 3] (by decide) rfl
            have hKc := hK.sub (tys' := [(k5, .int), (k6, .long), (k7, .long)]) [0, 1, 2] rfl
            have hFc := va_free (wc := [zO h th q1 ts cn q2 q3 q4 lv q5 (nI an) md q6 q7, (q5, .inl (k5, 18, .inl f5)), (q6, .inl (k6, 4096, .inr (.inl f6))), (q7, .inl (k7, 6, .inr (.inl f7)))]) hD hS hA [0, 1, 2, 3] rfl
            refine va_calll (va_runV (As := [.int (nI w), .int bt]) (rest := []) ⟨hx, hb, hml, hown, htA⟩ (r_word l dC dI h q1 q2 q3 q4 q5 q6 q7 k5 k6 k7 f5 f6 f7 th ts cn lv an md w bt H.size hlt han hlit h7) (cwV 2 htA gX1_70 rfl rfl rfl (by decide +kernel) ⟨Nat.le_of_ble_eq_true rfl, Nat.le_of_ble_eq_true rfl⟩) ⟨fun a U g mk q => by obtain ⟨q0, q1, qP, qK, qD⟩ := q; exact ⟨q0, q1, qP, va_K.moved (u := U) (U := U.calling g mk a) (Vm.Alike.refl U.vm) qK, qD⟩, va_recv hKc hPc (ci := 1) (q0 := 0) rfl rfl, fun U hU hW => ⟨rfl, by rw [hU], by rw [hU]; exact hPc, va_K.moved hW.alike hKc, hDc.weaken (fun _ _ _ _ => trivial)⟩⟩ rfl rfl hl.1 rfl (lv_room (Nat.le_of_ble_eq_true rfl)) dX1_some_18 ⟨Nat.zero_le _, Nat.zero_le _⟩) hS (fun q _ h => hFc q h) hFc (fun rw u t H1 locs ht hvm hw hB hz1 hk1 hS => ?_)
            obtain ⟨hP1, hK1, hD1⟩ := hB
            rw [ht] at hP1
            try dsimp only at hw hP1 hD1
            obtain ⟨hP, hD⟩ := va_join (wr := []) (w1 := [zO h th q1 ts cn q2 q3 q4 lv q5 (nI an) md q6 q7, (q5, .inl (k5, 18, .inl f5)), (q6, .inl (k6, 4096, .inr (.inl f6))), (q7, .inl (k7, 6, .inr (.inl f7)))]) hP hD [0, 1, 2, 3] [] rfl rfl (by decide) (by decide) hk1 hFc hP1 hD1
            generalize H1 = H at hP hS ⊢
            have hP : va_P (dC, dI) vwCl [zO h th q1 ts cn q2 q3 q4 lv q5 (nI an) md q6 q7, (q5, .inl (k5, 18, .inl f5)), (q6, .inl (k6, 4096, .inr (.inl f6))), (q7, .inl (k7, 6, .inr (.inl f7)))] H := hP.sub [0, 1, 2, 3] rfl
            have hD : va_D A [zO h th q1 ts cn q2 q3 q4 lv q5 (nI an) md q6 q7, (q5, .inl (k5, 18, .inl f5)), (q6, .inl (k6, 4096, .inr (.inl f6))), (q7, .inl (k7, 6, .inr (.inl f7)))] := hD.sub [0, 1, 2, 3] (by decide) rfl
            refine lv_lconst (v := 0) hx hb dX1_some_21 (by decide) ?_
            refine W.lcmp hx hb dX1_some_22 ?_
            refine lv_if_eq (tgt := 30) hx hb dX1_some_23 (by decide) (fun cb_30 => ?_) (fun cb_30 => ?_)
            · refine lv_iconst (v := 0) hx hb dX1_some_30 (by decide) ?_
              refine lv_istore_n (lv' := [(2, .int 0), (3, .int (nI w)), (0, .ref h), (1, .int bt)]) hx hb dX1_some_31 rfl hl (by decide) rfl (fun ls hl => ?_)
              refine lv_iinc (v := nI (w + 1)) (lv' := [(3, .int (nI (w + 1))), (2, .int 0), (0, .ref h), (1, .int bt)]) hx hb dX1_some_32 hl (k := 1) rfl (nI_1 _) (by decide) rfl (fun ls hl => ?_)
              refine lv_goto (tgt := 4) hx hb dX1_some_35 (by decide) ?_
              refine ih (w + 1) 0 hlt (by omega) (Or.inl ⟨rfl, fun a ha hz => ?_⟩) _ _ hP hD hS ls (lv_sub hl [0, 1, 2, 3] rfl)
              have hno := (zW_z hw).mp ((lg_cmp_eq _ _).mp cb_30)
              rcases Nat.lt_or_ge a (64 * w) with q | q
              · exact hI a q hz
              · refine hno (a - 64 * w) (by omega) ?_
                rw [show 64 * w + (a - 64 * w) = a by omega]; exact hz
            · refine lv_iconst (v := 1) hx hb dX1_some_26 (by decide) ?_
              refine lv_goto (tgt := 31) hx hb dX1_some_27 (by decide) ?_
              refine lv_istore_n (lv' := [(2, .int 1), (3, .int (nI w)), (0, .ref h), (1, .int bt)]) hx hb dX1_some_31 rfl hl (by decide) rfl (fun ls hl => ?_)
              refine lv_iinc (v := nI (w + 1)) (lv' := [(3, .int (nI (w + 1))), (2, .int 1), (0, .ref h), (1, .int bt)]) hx hb dX1_some_32 hl (k := 1) rfl (nI_1 _) (by decide) rfl (fun ls hl => ?_)
              refine lv_goto (tgt := 4) hx hb dX1_some_35 (by decide) ?_
              refine ih (w + 1) 1 hlt (by omega) (Or.inr ⟨rfl, ?_⟩) _ _ hP hD hS ls (lv_sub hl [0, 1, 2, 3] rfl)
              obtain ⟨k, hk, hz⟩ := zb_nz.mp (fun q => cb_30 ((lg_cmp_eq _ _).mpr q))
              exact ⟨64 * w + k, by omega, (hw k hk).mp hz⟩
        · refine lv_iload_n hx hb dX1_some_11 rfl (lv_at hl 1 rfl) ?_
          refine lv_if_ne (tgt := 38) hx hb dX1_some_12 (by decide) (fun cb_31 => ?_) (fun cb_31 => ?_)
          · refine lv_iload_n hx hb dX1_some_38 rfl (lv_at hl 1 rfl) ?_
            exact W.zret (v := 1) (ty := .boolean) hx hb hr (by decide) (fun t ht hW => ⟨⟨1, (), rfl, Or.inl ⟨rfl, hI⟩, by rw [ht]; exact hP, va_K.moved hW.alike hK, hD⟩, hS.F ht⟩) hS.2.2 dX1_some_39
          · exact absurd cb_31 (by decide)
  refine loop 4097 0 0 (by omega) (by omega) (Or.inl ⟨rfl, fun a ha => absurd ha (by omega)⟩) _ _ hP hD hS ls (lv_sub hl [0, 1, 2, 3] rfl)
set_option maxHeartbeats 4000000 in
set_option maxRecDepth 100000 in
theorem r_from (l : Launch) (dC : Nat → ClassId) (dI : Nat → Nat → Nat) (h : Nat) (q1 : Nat) (q2 : Nat) (q3 : Nat) (q4 : Nat) (q5 : Nat) (q6 : Nat) (q7 : Nat) (k5 : ClassId) (k6 : ClassId) (k7 : ClassId) (f5 : Nat → Int32) (f6 : Nat → Int64) (f7 : Nat → Int64) (th : Int32) (ts : Int32) (cn : Int32) (lv : Int32) (an : Nat) (md : Int32) (st : Nat) (sz : Nat) (hst : st ≤ 262144) (han : an ≤ 18) (hlit : ∀ j, j < an → yLit (f5 j)) (h7 : zIn f7) : Met l yX1_from wsX1_from ({ frames := 2, cells := 0, slots := 0, locals := 80 }) (va_Pc [.ref h, .int (nI st)] (fun U => U.heap.size = sz ∧ va_P (dC, dI) vwCl [zO h th q1 ts cn q2 q3 q4 lv q5 (nI an) md q6 q7, (q5, .inl (k5, 18, .inl f5)), (q6, .inl (k6, 4096, .inr (.inl f6))), (q7, .inl (k7, 6, .inr (.inl f7)))] U.heap ∧ va_K (dC, dI) vwCl [(k5, .int), (k6, .long), (k7, .long)] U ∧ va_D (fun _ => True) [zO h th q1 ts cn q2 q3 q4 lv q5 (nI an) md q6 q7, (q5, .inl (k5, 18, .inl f5)), (q6, .inl (k6, 4096, .inr (.inl f6))), (q7, .inl (k7, 6, .inr (.inl f7)))])) (va_Qi (fun (r : Int32) (u : Unit) => yL (zP f5 f6 an (-1)) st r) (fun (u : Unit) (t : State) => va_P (dC, dI) vwCl [zO h th q1 ts cn q2 q3 q4 lv q5 (nI an) md q6 q7, (q5, .inl (k5, 18, .inl f5)), (q6, .inl (k6, 4096, .inr (.inl f6))), (q7, .inl (k7, 6, .inr (.inl f7)))] t.heap ∧ va_K (dC, dI) vwCl [(k5, .int), (k6, .long), (k7, .long)] t ∧ va_D (va_A [zO h th q1 ts cn q2 q3 q4 lv q5 (nI an) md q6 q7, (q5, .inl (k5, 18, .inl f5)), (q6, .inl (k6, 4096, .inr (.inl f6))), (q7, .inl (k7, 6, .inr (.inl f7)))] sz) [zO h th q1 ts cn q2 q3 q4 lv q5 (nI an) md q6 q7, (q5, .inl (k5, 18, .inl f5)), (q6, .inl (k6, 4096, .inr (.inl f6))), (q7, .inl (k7, 6, .inr (.inl f7)))]) (va_A [zO h th q1 ts cn q2 q3 q4 lv q5 (nI an) md q6 q7, (q5, .inl (k5, 18, .inl f5)), (q6, .inl (k6, 4096, .inr (.inl f6))), (q7, .inl (k7, 6, .inr (.inl f7)))] sz)) 0 0 (va_A [zO h th q1 ts cn q2 q3 q4 lv q5 (nI an) md q6 q7, (q5, .inl (k5, 18, .inl f5)), (q6, .inl (k6, 4096, .inr (.inl f6))), (q7, .inl (k7, 6, .inr (.inl f7)))] sz) := by
  refine Met.ofW (cc := cX1_from) (maxL := 6) (ret := (some .int)) (by decide) rfl ?_
  intro p e s m args below meth c s₁ B hml hv
  obtain ⟨rfl, hsz, hP, hK, hD0⟩ := hv
  have hx := B.exec
  have hb := B.bytes
  have hr := B.returns
  have hts := atoms_spec (ws := wsX1_from) B.pre
  have htA : ∀ w ∈ wsA, w.before _ s = true := fun w h => hts w (List.mem_cons_of_mem _ h)
  have hown : s.vm.findClass RX1 = some m.cls := findClass_of_methodNamed B.named
  have hlocks := B.notSynchronized
  subst hsz
  have hD := hD0.self (sz := s.heap.size)
  generalize hAe : va_A [zO h th q1 ts cn q2 q3 q4 lv q5 (nI an) md q6 q7, (q5, .inl (k5, 18, .inl f5)), (q6, .inl (k6, 4096, .inr (.inl f6))), (q7, .inl (k7, 6, .inr (.inl f7)))] s.heap.size = A at hD ⊢
  have hA : ∀ q : Nat, s.heap.size ≤ q → A q := fun q h => by rw [← hAe]; exact Or.inr h
  have hS : va_S A s.heap s.heap [] := va_S.rf
  have hP : va_P (dC, dI) vwCl [zO h th q1 ts cn q2 q3 q4 lv q5 (nI an) md q6 q7, (q5, .inl (k5, 18, .inl f5)), (q6, .inl (k6, 4096, .inr (.inl f6))), (q7, .inl (k7, 6, .inr (.inl f7)))] s.heap := hP
  have hl := lv_entry ([.ref h, .int (nI st)]) (n := 6) (Nat.le_of_ble_eq_true rfl)
  rw [lg_entry_eq]
  generalize (lg_sl ([.ref h, .int (nI st)]) ++ List.replicate (6 - (lg_sl ([.ref h, .int (nI st)])).length) Slot.unset).toArray = ls at hl ⊢
  have hl : lv_has ls 6 [(0, .ref h), (1, .int (nI st))] := hl
  refine lv_iload_n hx hb dX1_from_0 rfl (lv_at hl 1 rfl) ?_
  refine lv_bipush (v := 6) hx hb dX1_from_1 (by decide) ?_
  refine lv_ishr hx hb dX1_from_3 ?_
  refine W.eq (g2 := F0 m 4 ls [.int (nI (st / 64))]) (by rw [pk_shrN (show st < 2 ^ 31 by omega) ((6 : Int32) &&& 31) 6 (by decide)]) ?_
  refine lv_istore_n (lv' := [(2, .int (nI (st / 64))), (0, .ref h), (1, .int (nI st))]) hx hb dX1_from_4 rfl hl (by decide) rfl (fun ls hl => ?_)
  have loop : ∀ (fu w : Nat), w ≤ 4096 → 4097 ≤ w + fu → (∀ a, st ≤ a → a < 64 * w → ¬ zP f5 f6 an (-1) a) → ∀ (H : Heap) (locs : List Loc), va_P (dC, dI) vwCl [zO h th q1 ts cn q2 q3 q4 lv q5 (nI an) md q6 q7, (q5, .inl (k5, 18, .inl f5)), (q6, .inl (k6, 4096, .inr (.inl f6))), (q7, .inl (k7, 6, .inr (.inl f7)))] H → va_D A [zO h th q1 ts cn q2 q3 q4 lv q5 (nI an) md q6 q7, (q5, .inl (k5, 18, .inl f5)), (q6, .inl (k6, 4096, .inr (.inl f6))), (q7, .inl (k7, 6, .inr (.inl f7)))] → va_S A s.heap H locs → ∀ (ls : Array Slot), lv_has ls 6 [(2, .int (nI w)), (0, .ref h), (1, .int (nI st))] → W p l e (headSpec wsX1_from ({ frames := 2, cells := 0, slots := 0, locals := 80 })).room s m ([.ref h, .int (nI st)] : List Value).toArray below meth c H locs 0 0 (MQ below (va_Qi (fun (r : Int32) (u : Unit) => yL (zP f5 f6 an (-1)) st r) (fun (u : Unit) (t : State) => va_P (dC, dI) vwCl [zO h th q1 ts cn q2 q3 q4 lv q5 (nI an) md q6 q7, (q5, .inl (k5, 18, .inl f5)), (q6, .inl (k6, 4096, .inr (.inl f6))), (q7, .inl (k7, 6, .inr (.inl f7)))] t.heap ∧ va_K (dC, dI) vwCl [(k5, .int), (k6, .long), (k7, .long)] t ∧ va_D A [zO h th q1 ts cn q2 q3 q4 lv q5 (nI an) md q6 q7, (q5, .inl (k5, 18, .inl f5)), (q6, .inl (k6, 4096, .inr (.inl f6))), (q7, .inl (k7, 6, .inr (.inl f7)))]) A) ([.ref h, .int (nI st)] : List Value).toArray s 0 0 A) (F0 m 5 ls []) := by
    intro fu
    induction fu with
    | zero =>
      intro w h1 h2
      exact absurd h2 (by omega)
    | succ fu ih =>
      intro w hw hin hI H locs hP hD hS ls hl
      refine lv_iload_n hx hb dX1_from_5 rfl (lv_at hl 0 rfl) ?_
      refine lv_sipush (v := 4096) hx hb dX1_from_6 (by decide) ?_
      refine lv_icmp_ge (tgt := 77) hx hb dX1_from_9 (by decide) (fun cb_32 => ?_) (fun cb_32 => ?_)
      · have hwe : w = 4096 := by
          rcases Nat.lt_or_ge w 4096 with q | q
          · exact absurd cb_32 (nI_ge (b := 4096) q (by omega))
          · omega
        subst hwe
        refine lv_iconst (v := (-1)) hx hb dX1_from_77 (by decide) ?_
        exact W.iret (v := (-1)) hx hb hr (fun t ht hW => ⟨⟨(-1), (), rfl, Or.inl ⟨rfl, fun a h1 h2 => hI a h1 (by omega)⟩, by rw [ht]; exact hP, va_K.moved hW.alike hK, hD⟩, hS.F ht⟩) hS.2.2 dX1_from_78
      · have hlt : w < 4096 := by
          rcases Nat.lt_or_ge w 4096 with q | q
          · exact q
          · exact absurd (nI_le (a := 4096) q (by omega)) cb_32
        refine lv_aload_n hx hb dX1_from_12 rfl (lv_at hl 1 rfl) ?_
        refine lv_iload_n hx hb dX1_from_13 rfl (lv_at hl 0 rfl) ?_
        refine lv_iconst (v := (-1)) hx hb dX1_from_14 (by decide) ?_
        have hPc := hP.sub (ws' := [zO h th q1 ts cn q2 q3 q4 lv q5 (nI an) md q6 q7, (q5, .inl (k5, 18, .inl f5)), (q6, .inl (k6, 4096, .inr (.inl f6))), (q7, .inl (k7, 6, .inr (.inl f7)))]) [0, 1, 2, 3] rfl
        have hDc := hD.sub (ws' := [zO h th q1 ts cn q2 q3 q4 lv q5 (nI an) md q6 q7, (q5, .inl (k5, 18, .inl f5)), (q6, .inl (k6, 4096, .inr (.inl f6))), (q7, .inl (k7, 6, .inr (.inl f7)))]) [0, 1, 2, 3] (by decide) rfl
        have hKc := hK.sub (tys' := [(k5, .int), (k6, .long), (k7, .long)]) [0, 1, 2] rfl
        have hFc := va_free (wc := [zO h th q1 ts cn q2 q3 q4 lv q5 (nI an) md q6 q7, (q5, .inl (k5, 18, .inl f5)), (q6, .inl (k6, 4096, .inr (.inl f6))), (q7, .inl (k7, 6, .inr (.inl f7)))]) hD hS hA [0, 1, 2, 3] rfl
        refine va_calll (va_runV (As := [.int (nI w), .int (-1)]) (rest := []) ⟨hx, hb, hml, hown, htA⟩ (r_word l dC dI h q1 q2 q3 q4 q5 q6 q7 k5 k6 k7 f5 f6 f7 th ts cn lv an md w (-1) H.size hlt han hlit h7) (cwV 2 htA gX1_70 rfl rfl rfl (by decide +kernel) ⟨Nat.le_of_ble_eq_true rfl, Nat.le_of_ble_eq_true rfl⟩) ⟨fun a U g mk q => by obtain ⟨q0, q1, qP, qK, qD⟩ := q; exact ⟨q0, q1, qP, va_K.moved (u := U) (U := U.calling g mk a) (Vm.Alike.refl U.vm) qK, qD⟩, va_recv hKc hPc (ci := 1) (q0 := 0) rfl rfl, fun U hU hW => ⟨rfl, by rw [hU], by rw [hU]; exact hPc, va_K.moved hW.alike hKc, hDc.weaken (fun _ _ _ _ => trivial)⟩⟩ rfl rfl hl.1 rfl (lv_room (Nat.le_of_ble_eq_true rfl)) dX1_from_15 ⟨Nat.zero_le _, Nat.zero_le _⟩) hS (fun q _ h => hFc q h) hFc (fun rw u t H1 locs ht hvm hw hB hz1 hk1 hS => ?_)
        obtain ⟨hP1, hK1, hD1⟩ := hB
        rw [ht] at hP1
        try dsimp only at hw hP1 hD1
        obtain ⟨hP, hD⟩ := va_join (wr := []) (w1 := [zO h th q1 ts cn q2 q3 q4 lv q5 (nI an) md q6 q7, (q5, .inl (k5, 18, .inl f5)), (q6, .inl (k6, 4096, .inr (.inl f6))), (q7, .inl (k7, 6, .inr (.inl f7)))]) hP hD [0, 1, 2, 3] [] rfl rfl (by decide) (by decide) hk1 hFc hP1 hD1
        generalize H1 = H at hP hS ⊢
        have hP : va_P (dC, dI) vwCl [zO h th q1 ts cn q2 q3 q4 lv q5 (nI an) md q6 q7, (q5, .inl (k5, 18, .inl f5)), (q6, .inl (k6, 4096, .inr (.inl f6))), (q7, .inl (k7, 6, .inr (.inl f7)))] H := hP.sub [0, 1, 2, 3] rfl
        have hD : va_D A [zO h th q1 ts cn q2 q3 q4 lv q5 (nI an) md q6 q7, (q5, .inl (k5, 18, .inl f5)), (q6, .inl (k6, 4096, .inr (.inl f6))), (q7, .inl (k7, 6, .inr (.inl f7)))] := hD.sub [0, 1, 2, 3] (by decide) rfl
        refine lv_lstore_n (lv' := [(3, .long rw), (2, .int (nI w)), (0, .ref h), (1, .int (nI st))]) hx hb dX1_from_18 rfl hl (by decide) rfl (fun ls hl => ?_)
        refine lv_iconst (v := 0) hx hb dX1_from_19 (by decide) ?_
        refine lv_istore (lv' := [(5, .int 0), (3, .long rw), (2, .int (nI w)), (0, .ref h), (1, .int (nI st))]) hx hb dX1_from_20 hl (by decide) rfl (fun ls hl => ?_)
        have inner : ∀ (fv k : Nat), k ≤ 64 → 65 ≤ k + fv → (∀ a, st ≤ a → a < 64 * w + k → ¬ zP f5 f6 an (-1) a) → ∀ (ls : Array Slot), lv_has ls 6 [(5, .int (nI k)), (3, .long rw), (2, .int (nI w)), (0, .ref h), (1, .int (nI st))] → W p l e (headSpec wsX1_from ({ frames := 2, cells := 0, slots := 0, locals := 80 })).room s m ([.ref h, .int (nI st)] : List Value).toArray below meth c H locs 0 0 (MQ below (va_Qi (fun (r : Int32) (u : Unit) => yL (zP f5 f6 an (-1)) st r) (fun (u : Unit) (t : State) => va_P (dC, dI) vwCl [zO h th q1 ts cn q2 q3 q4 lv q5 (nI an) md q6 q7, (q5, .inl (k5, 18, .inl f5)), (q6, .inl (k6, 4096, .inr (.inl f6))), (q7, .inl (k7, 6, .inr (.inl f7)))] t.heap ∧ va_K (dC, dI) vwCl [(k5, .int), (k6, .long), (k7, .long)] t ∧ va_D A [zO h th q1 ts cn q2 q3 q4 lv q5 (nI an) md q6 q7, (q5, .inl (k5, 18, .inl f5)), (q6, .inl (k6, 4096, .inr (.inl f6))), (q7, .inl (k7, 6, .inr (.inl f7)))]) A) ([.ref h, .int (nI st)] : List Value).toArray s 0 0 A) (F0 m 22 ls []) := by
          intro fv
          induction fv with
          | zero =>
            intro k h1 h2
            exact absurd h2 (by omega)
          | succ fv ih2 =>
            intro k hk hkn hJ ls hl
            refine lv_iload hx hb dX1_from_22 (lv_at hl 0 rfl) ?_
            refine lv_bipush (v := 64) hx hb dX1_from_24 (by decide) ?_
            refine lv_icmp_ge (tgt := 71) hx hb dX1_from_26 (by decide) (fun cb_33 => ?_) (fun cb_33 => ?_)
            · have hke : k = 64 := by
                rcases Nat.lt_or_ge k 64 with q | q
                · exact absurd cb_33 (nI_ge (b := 64) q (by omega))
                · omega
              refine lv_iinc (v := nI (w + 1)) (lv' := [(2, .int (nI (w + 1))), (5, .int (nI k)), (3, .long rw), (0, .ref h), (1, .int (nI st))]) hx hb dX1_from_71 hl (k := 2) rfl (nI_1 _) (by decide) rfl (fun ls hl => ?_)
              refine lv_goto (tgt := 5) hx hb dX1_from_74 (by decide) ?_
              exact ih (w + 1) hlt (by omega) (fun a h1 h2 => hJ a h1 (by omega)) _ _ hP hD hS ls (lv_sub hl [0, 3, 4] rfl)
            · have hkl : k < 64 := by
                rcases Nat.lt_or_ge k 64 with q | q
                · exact q
                · exact absurd (nI_le (a := 64) q (by omega)) cb_33
              refine lv_lload_n hx hb dX1_from_29 rfl (lv_at hl 1 rfl) ?_
              refine lv_lconst (v := 0) hx hb dX1_from_30 (by decide) ?_
              refine W.lcmp hx hb dX1_from_31 ?_
              refine lv_if_eq (tgt := 71) hx hb dX1_from_32 (by decide) (fun cb_34 => ?_) (fun cb_34 => ?_)
              · refine lv_iinc (v := nI (w + 1)) (lv' := [(2, .int (nI (w + 1))), (5, .int (nI k)), (3, .long rw), (0, .ref h), (1, .int (nI st))]) hx hb dX1_from_71 hl (k := 2) rfl (nI_1 _) (by decide) rfl (fun ls hl => ?_)
                refine lv_goto (tgt := 5) hx hb dX1_from_74 (by decide) ?_
                refine ih (w + 1) hlt (by omega) (fun a h1 h2 hz => ?_) _ _ hP hD hS ls (lv_sub hl [0, 3, 4] rfl)
                have hno := (zW_z hw).mp ((lg_cmp_eq _ _).mp cb_34)
                rcases Nat.lt_or_ge a (64 * w) with q | q
                · exact hI a h1 q hz
                · refine hno (a - 64 * w) (by omega) ?_
                  rw [show 64 * w + (a - 64 * w) = a by omega]; exact hz
              · refine lv_lload_n hx hb dX1_from_35 rfl (lv_at hl 1 rfl) ?_
                refine lv_iload hx hb dX1_from_36 (lv_at hl 0 rfl) ?_
                refine lv_lushr (v := (rw.toUInt64 >>> ((nI k).toInt64.toUInt64 &&& Int64.toUInt64 63)).toInt64) hx hb dX1_from_38 rfl ?_
                refine lv_lconst (v := 1) hx hb dX1_from_39 (by decide) ?_
                refine lv_land hx hb dX1_from_40 ?_
                refine lv_lconst (v := 1) hx hb dX1_from_41 (by decide) ?_
                refine W.lcmp hx hb dX1_from_42 ?_
                refine lv_if_ne (tgt := 65) hx hb dX1_from_43 (by decide) (fun cb_35 => ?_) (fun cb_35 => ?_)
                · have hno : ¬ zP f5 f6 an (-1) (64 * w + k) := fun q => cb_35 ((lg_cmp_eq _ _).mpr (by rw [zb_bit hkl, if_pos ((hw k hkl).mpr q)]))
                  refine lv_iinc (v := nI (k + 1)) (lv' := [(5, .int (nI (k + 1))), (3, .long rw), (2, .int (nI w)), (0, .ref h), (1, .int (nI st))]) hx hb dX1_from_65 hl (k := 0) rfl (nI_1 _) (by decide) rfl (fun ls hl => ?_)
                  refine lv_goto (tgt := 22) hx hb dX1_from_68 (by decide) ?_
                  refine ih2 (k + 1) hkl (by omega) (fun a h1 h2 => ?_) ls (lv_sub hl [0, 1, 2, 3, 4] rfl)
                  by_cases e : a = 64 * w + k
                  · rw [e]; exact hno
                  · exact hJ a h1 (by omega)
                · have hyes : zP f5 f6 an (-1) (64 * w + k) := by
                    have hz := (lg_cmp_eq _ _).mp cb_35
                    rw [zb_bit hkl] at hz
                    refine (hw k hkl).mp ?_
                    cases q : zb rw k
                    · rw [q] at hz; exact absurd hz (by decide)
                    · rfl
                  refine lv_bipush (v := 64) hx hb dX1_from_46 (by decide) ?_
                  refine lv_iload_n hx hb dX1_from_48 rfl (lv_at hl 2 rfl) ?_
                  refine lv_imul hx hb dX1_from_49 ?_
                  refine lv_iload hx hb dX1_from_50 (lv_at hl 0 rfl) ?_
                  refine lv_iadd hx hb dX1_from_52 ?_
                  refine W.eq (g2 := F0 m 53 ls [.int (nI (64 * w + k))]) (by rw [show (64 : Int32) * nI w = nI (64 * w) from pk_mul 64 w, nI_add]) ?_
                  refine lv_iload_n hx hb dX1_from_53 rfl (lv_at hl 4 rfl) ?_
                  refine lv_icmp_lt (tgt := 65) hx hb dX1_from_54 (by decide) (fun cb_36 => ?_) (fun cb_36 => ?_)
                  · refine lv_iinc (v := nI (k + 1)) (lv' := [(5, .int (nI (k + 1))), (3, .long rw), (2, .int (nI w)), (0, .ref h), (1, .int (nI st))]) hx hb dX1_from_65 hl (k := 0) rfl (nI_1 _) (by decide) rfl (fun ls hl => ?_)
                    refine lv_goto (tgt := 22) hx hb dX1_from_68 (by decide) ?_
                    refine ih2 (k + 1) hkl (by omega) (fun a h1 h2 => ?_) ls (lv_sub hl [0, 1, 2, 3, 4] rfl)
                    have : 64 * w + k < st := (nI_ltI (by omega) (by omega)).mp cb_36
                    exact absurd h2 (by omega)
                  · refine lv_bipush (v := 64) hx hb dX1_from_57 (by decide) ?_
                    refine lv_iload_n hx hb dX1_from_59 rfl (lv_at hl 2 rfl) ?_
                    refine lv_imul hx hb dX1_from_60 ?_
                    refine lv_iload hx hb dX1_from_61 (lv_at hl 0 rfl) ?_
                    refine lv_iadd hx hb dX1_from_63 ?_
                    refine W.eq (g2 := F0 m 64 ls [.int (nI (64 * w + k))]) (by rw [show (64 : Int32) * nI w = nI (64 * w) from pk_mul 64 w, nI_add]) ?_
                    have hge : st ≤ 64 * w + k := by
                      rcases Nat.lt_or_ge (64 * w + k) st with q | q
                      · exact absurd (nI_lt q (by omega)) cb_36
                      · exact q
                    exact W.iret (v := nI (64 * w + k)) hx hb hr (fun t ht hW => ⟨⟨nI (64 * w + k), (), rfl, Or.inr ⟨64 * w + k, rfl, hge, by omega, hyes, hJ⟩, by rw [ht]; exact hP, va_K.moved hW.alike hK, hD⟩, hS.F ht⟩) hS.2.2 dX1_from_64
        refine inner 65 0 (by omega) (by omega) (fun a h1 h2 => hI a h1 (by omega)) ls (lv_sub hl [0, 1, 2, 3, 4] rfl)
  exact loop 4097 (st / 64) (by omega) (by omega) (fun a h1 h2 => absurd h2 (by omega)) _ _ hP hD hS ls (lv_sub hl [0, 1, 2] rfl)
