set_option maxHeartbeats 4000000 in
set_option maxRecDepth 100000 in
theorem r_apply (l : Launch) (dC : Nat → ClassId) (dI : Nat → Nat → Nat) (h : Nat) (q1 : Nat) (q2 : Nat) (q3 : Nat) (q4 : Nat) (q5 : Nat) (q6 : Nat) (q7 : Nat) (k2 : ClassId) (k3 : ClassId) (k6 : ClassId) (k7 : ClassId) (f2 : Nat → Int32) (f3 : Nat → Int32) (f6 : Nat → Int64) (f7 : Nat → Int64) (th : Int32) (ts : Int32) (cn : Int32) (lv : Int32) (an : Int32) (md : Int32) (c0 : Nat) (zs : Nat) (sz : Nat) (hc0 : c0 < 400) (hs3 : f3 c0 = nI zs) (hsz : zs ≤ 18) (hlit : ∀ j, j < zs → yLit (f2 (18 * c0 + j))) (h7 : zIn f7) : Met l yX1_apply wsX1_apply ({ frames := 1, cells := 0, slots := 0, locals := 40 }) (va_Pc [.ref h, .int (nI c0)] (fun U => U.heap.size = sz ∧ va_P (dC, dI) vwCl [zO h th q1 ts cn q2 q3 q4 lv q5 an md q6 q7, (q2, .inl (k2, 7200, .inl f2)), (q3, .inl (k3, 400, .inl f3)), (q6, .inl (k6, 4096, .inr (.inl f6))), (q7, .inl (k7, 6, .inr (.inl f7)))] U.heap ∧ va_K (dC, dI) vwCl [(k2, .int), (k3, .int), (k6, .long), (k7, .long)] U ∧ va_D (fun _ => True) [zO h th q1 ts cn q2 q3 q4 lv q5 an md q6 q7, (q2, .inl (k2, 7200, .inl f2)), (q3, .inl (k3, 400, .inl f3)), (q6, .inl (k6, 4096, .inr (.inl f6))), (q7, .inl (k7, 6, .inr (.inl f7)))])) (va_Qv (fun (u : Nat → Int64) => ∀ w, w < 4096 → zW (fun a => zb (f6 w) (a % 64) = true ∧ zC f2 c0 zs a) w (u w)) (fun (u : Nat → Int64) (t : State) => va_P (dC, dI) vwCl [zO h th q1 ts cn q2 q3 q4 lv q5 an md q6 q7, (q2, .inl (k2, 7200, .inl f2)), (q3, .inl (k3, 400, .inl f3)), (q6, .inl (k6, 4096, .inr (.inl u))), (q7, .inl (k7, 6, .inr (.inl f7)))] t.heap ∧ va_K (dC, dI) vwCl [(k2, .int), (k3, .int), (k6, .long), (k7, .long)] t ∧ va_D (va_A [zO h th q1 ts cn q2 q3 q4 lv q5 an md q6 q7, (q2, .inl (k2, 7200, .inl f2)), (q3, .inl (k3, 400, .inl f3)), (q6, .inl (k6, 4096, .inr (.inl f6))), (q7, .inl (k7, 6, .inr (.inl f7)))] sz) [zO h th q1 ts cn q2 q3 q4 lv q5 an md q6 q7, (q2, .inl (k2, 7200, .inl f2)), (q3, .inl (k3, 400, .inl f3)), (q6, .inl (k6, 4096, .inr (.inl u))), (q7, .inl (k7, 6, .inr (.inl f7)))]) (va_A [zO h th q1 ts cn q2 q3 q4 lv q5 an md q6 q7, (q2, .inl (k2, 7200, .inl f2)), (q3, .inl (k3, 400, .inl f3)), (q6, .inl (k6, 4096, .inr (.inl f6))), (q7, .inl (k7, 6, .inr (.inl f7)))] sz)) 0 0 (va_A [zO h th q1 ts cn q2 q3 q4 lv q5 an md q6 q7, (q2, .inl (k2, 7200, .inl f2)), (q3, .inl (k3, 400, .inl f3)), (q6, .inl (k6, 4096, .inr (.inl f6))), (q7, .inl (k7, 6, .inr (.inl f7)))] sz) := by
  refine Met.ofW (cc := cX1_apply) (maxL := 6) (ret := none) (by decide) rfl ?_
  intro p e s m args below meth c s₁ B hml hv
  obtain ⟨rfl, hsz, hP, hK, hD0⟩ := hv
  have hx := B.exec
  have hb := B.bytes
  have hr := B.returns
  have hts := atoms_spec (ws := wsX1_apply) B.pre
  have htA : ∀ w ∈ wsA, w.before _ s = true := fun w h => hts w (List.mem_cons_of_mem _ h)
  have hown : s.vm.findClass RX1 = some m.cls := findClass_of_methodNamed B.named
  have hlocks := B.notSynchronized
  subst hsz
  have hD := hD0.self (sz := s.heap.size)
  generalize hAe : va_A [zO h th q1 ts cn q2 q3 q4 lv q5 an md q6 q7, (q2, .inl (k2, 7200, .inl f2)), (q3, .inl (k3, 400, .inl f3)), (q6, .inl (k6, 4096, .inr (.inl f6))), (q7, .inl (k7, 6, .inr (.inl f7)))] s.heap.size = A at hD ⊢
  have hA : ∀ q : Nat, s.heap.size ≤ q → A q := fun q h => by rw [← hAe]; exact Or.inr h
  have hS : va_S A s.heap s.heap [] := va_S.rf
  have hP : va_P (dC, dI) vwCl [zO h th q1 ts cn q2 q3 q4 lv q5 an md q6 q7, (q2, .inl (k2, 7200, .inl f2)), (q3, .inl (k3, 400, .inl f3)), (q6, .inl (k6, 4096, .inr (.inl f6))), (q7, .inl (k7, 6, .inr (.inl f7)))] s.heap := hP
  have hl := lv_entry ([.ref h, .int (nI c0)]) (n := 6) (Nat.le_of_ble_eq_true rfl)
  rw [lg_entry_eq]
  generalize (lg_sl ([.ref h, .int (nI c0)]) ++ List.replicate (6 - (lg_sl ([.ref h, .int (nI c0)])).length) Slot.unset).toArray = ls at hl ⊢
  have hl : lv_has ls 6 [(0, .ref h), (1, .int (nI c0))] := hl
  refine lv_iconst (v := 0) hx hb dX1_apply_0 (by decide) ?_
  refine lv_istore_n (lv' := [(2, .int 0), (0, .ref h), (1, .int (nI c0))]) hx hb dX1_apply_1 rfl hl (by decide) rfl (fun ls hl => ?_)
  have loop : ∀ (fu w : Nat) (g6 : Nat → Int64), w ≤ 4096 → 4097 ≤ w + fu → (∀ i, i < w → zW (fun a => zb (f6 i) (a % 64) = true ∧ zC f2 c0 zs a) i (g6 i)) → (∀ i, w ≤ i → g6 i = f6 i) → ∀ (H : Heap) (locs : List Loc), va_P (dC, dI) vwCl [zO h th q1 ts cn q2 q3 q4 lv q5 an md q6 q7, (q2, .inl (k2, 7200, .inl f2)), (q3, .inl (k3, 400, .inl f3)), (q6, .inl (k6, 4096, .inr (.inl g6))), (q7, .inl (k7, 6, .inr (.inl f7)))] H → va_D A [zO h th q1 ts cn q2 q3 q4 lv q5 an md q6 q7, (q2, .inl (k2, 7200, .inl f2)), (q3, .inl (k3, 400, .inl f3)), (q6, .inl (k6, 4096, .inr (.inl g6))), (q7, .inl (k7, 6, .inr (.inl f7)))] → va_S A s.heap H locs → ∀ (ls : Array Slot), lv_has ls 6 [(2, .int (nI w)), (0, .ref h), (1, .int (nI c0))] → W p l e (headSpec wsX1_apply ({ frames := 1, cells := 0, slots := 0, locals := 40 })).room s m ([.ref h, .int (nI c0)] : List Value).toArray below meth c H locs 0 0 (MQ below (va_Qv (fun (u : Nat → Int64) => ∀ w, w < 4096 → zW (fun a => zb (f6 w) (a % 64) = true ∧ zC f2 c0 zs a) w (u w)) (fun (u : Nat → Int64) (t : State) => va_P (dC, dI) vwCl [zO h th q1 ts cn q2 q3 q4 lv q5 an md q6 q7, (q2, .inl (k2, 7200, .inl f2)), (q3, .inl (k3, 400, .inl f3)), (q6, .inl (k6, 4096, .inr (.inl u))), (q7, .inl (k7, 6, .inr (.inl f7)))] t.heap ∧ va_K (dC, dI) vwCl [(k2, .int), (k3, .int), (k6, .long), (k7, .long)] t ∧ va_D A [zO h th q1 ts cn q2 q3 q4 lv q5 an md q6 q7, (q2, .inl (k2, 7200, .inl f2)), (q3, .inl (k3, 400, .inl f3)), (q6, .inl (k6, 4096, .inr (.inl u))), (q7, .inl (k7, 6, .inr (.inl f7)))]) A) ([.ref h, .int (nI c0)] : List Value).toArray s 0 0 A) (F0 m 2 ls []) := by
    intro fu
    induction fu with
    | zero =>
      intro w g6 h1 h2
      exact absurd h2 (by omega)
    | succ fu ih =>
      intro w g6 hw hin hI hJ H locs hP hD hS ls hl
      refine lv_iload_n hx hb dX1_apply_2 rfl (lv_at hl 0 rfl) ?_
      refine lv_sipush (v := 4096) hx hb dX1_apply_3 (by decide) ?_
      refine lv_icmp_ge (tgt := 67) hx hb dX1_apply_6 (by decide) (fun cb_21 => ?_) (fun cb_21 => ?_)
      · have hwe : w = 4096 := by
          rcases Nat.lt_or_ge w 4096 with q | q
          · exact absurd cb_21 (nI_ge (b := 4096) q (by omega))
          · omega
        subst hwe
        exact W.vret hx hb hr (fun t ht hW => ⟨⟨g6, rfl, hI, by rw [ht]; exact hP, va_K.moved hW.alike hK, hD⟩, hS.F ht⟩) hS.2.2 dX1_apply_67
      · have hlt : w < 4096 := by
          rcases Nat.lt_or_ge w 4096 with q | q
          · exact q
          · exact absurd (nI_le (a := 4096) q (by omega)) cb_21
        refine lv_lconst (v := 0) hx hb dX1_apply_9 (by decide) ?_
        refine lv_lstore_n (lv' := [(3, .long 0), (2, .int (nI w)), (0, .ref h), (1, .int (nI c0))]) hx hb dX1_apply_10 rfl hl (by decide) rfl (fun ls hl => ?_)
        refine lv_iconst (v := 0) hx hb dX1_apply_11 (by decide) ?_
        refine lv_istore (lv' := [(5, .int 0), (3, .long 0), (2, .int (nI w)), (0, .ref h), (1, .int (nI c0))]) hx hb dX1_apply_12 hl (by decide) rfl (fun ls hl => ?_)
        have inner : ∀ (fv j : Nat) (x3 : Int64), j ≤ zs → zs + 1 ≤ j + fv → zW (zC f2 c0 j) w x3 → ∀ (H : Heap) (locs : List Loc), va_P (dC, dI) vwCl [zO h th q1 ts cn q2 q3 q4 lv q5 an md q6 q7, (q2, .inl (k2, 7200, .inl f2)), (q3, .inl (k3, 400, .inl f3)), (q6, .inl (k6, 4096, .inr (.inl g6))), (q7, .inl (k7, 6, .inr (.inl f7)))] H → va_D A [zO h th q1 ts cn q2 q3 q4 lv q5 an md q6 q7, (q2, .inl (k2, 7200, .inl f2)), (q3, .inl (k3, 400, .inl f3)), (q6, .inl (k6, 4096, .inr (.inl g6))), (q7, .inl (k7, 6, .inr (.inl f7)))] → va_S A s.heap H locs → ∀ (ls : Array Slot), lv_has ls 6 [(5, .int (nI j)), (3, .long x3), (2, .int (nI w)), (0, .ref h), (1, .int (nI c0))] → W p l e (headSpec wsX1_apply ({ frames := 1, cells := 0, slots := 0, locals := 40 })).room s m ([.ref h, .int (nI c0)] : List Value).toArray below meth c H locs 0 0 (MQ below (va_Qv (fun (u : Nat → Int64) => ∀ w, w < 4096 → zW (fun a => zb (f6 w) (a % 64) = true ∧ zC f2 c0 zs a) w (u w)) (fun (u : Nat → Int64) (t : State) => va_P (dC, dI) vwCl [zO h th q1 ts cn q2 q3 q4 lv q5 an md q6 q7, (q2, .inl (k2, 7200, .inl f2)), (q3, .inl (k3, 400, .inl f3)), (q6, .inl (k6, 4096, .inr (.inl u))), (q7, .inl (k7, 6, .inr (.inl f7)))] t.heap ∧ va_K (dC, dI) vwCl [(k2, .int), (k3, .int), (k6, .long), (k7, .long)] t ∧ va_D A [zO h th q1 ts cn q2 q3 q4 lv q5 an md q6 q7, (q2, .inl (k2, 7200, .inl f2)), (q3, .inl (k3, 400, .inl f3)), (q6, .inl (k6, 4096, .inr (.inl u))), (q7, .inl (k7, 6, .inr (.inl f7)))]) A) ([.ref h, .int (nI c0)] : List Value).toArray s 0 0 A) (F0 m 14 ls []) := by
          intro fv
          induction fv with
          | zero =>
            intro j x3 h1 h2
            exact absurd h2 (by omega)
          | succ fv ih2 =>
            intro j x3 hj hjn hX H locs hP hD hS ls hl
            refine lv_iload hx hb dX1_apply_14 (lv_at hl 0 rfl) ?_
            refine lv_aload_n hx hb dX1_apply_16 rfl (lv_at hl 3 rfl) ?_
            refine va_get (D := (dC, dI)) (ci := 1) (v := .ref q3) (C := RX1) (T := TX1) (N := 13) hx hb htA inX1 hown hK hP 0 rfl rfl 5 (by decide) (htA _ lkX1_16) (fun _ h9 => h9) rfl dX1_apply_17 ?_
            refine lv_iload_n hx hb dX1_apply_20 rfl (lv_at hl 4 rfl) ?_
            refine yv_iald hx hb hK hP 2 1 rfl rfl (k := c0) hc0 (by decide) dX1_apply_21 ?_
            refine W.eq (g2 := F0 m 22 ls [.int (nI zs), .int (nI j)]) (by rw [hs3]) ?_
            refine lv_icmp_ge (tgt := 51) hx hb dX1_apply_22 (by decide) (fun cb_22 => ?_) (fun cb_22 => ?_)
            · have hje : j = zs := by
                rcases Nat.lt_or_ge j zs with q | q
                · exact absurd cb_22 (nI_ge q (by omega))
                · omega
              subst hje
              refine lv_aload_n hx hb dX1_apply_51 rfl (lv_at hl 3 rfl) ?_
              refine va_get (D := (dC, dI)) (ci := 1) (v := .ref q6) (C := RX1) (T := TX1) (N := 13) hx hb htA inX1 hown hK hP 0 rfl rfl 11 (by decide) (htA _ lkX1_29) (fun _ h9 => h9) rfl dX1_apply_52 ?_
              refine lv_iload_n hx hb dX1_apply_55 rfl (lv_at hl 2 rfl) ?_
              refine lv_dup2_11 hx hb dX1_apply_56 rfl rfl ?_
              refine yv_lald hx hb hK hP 3 2 rfl rfl (k := w) hlt (by decide) dX1_apply_57 ?_
              refine lv_lload_n hx hb dX1_apply_58 rfl (lv_at hl 1 rfl) ?_
              refine lv_land hx hb dX1_apply_59 ?_
              refine yv_last hx hb hK hP hD hS 3 2 rfl rfl (k := w) hlt (by decide) dX1_apply_60 (fun H locs hP hD hS => ?_)
              have hP : va_P (dC, dI) vwCl [zO h th q1 ts cn q2 q3 q4 lv q5 an md q6 q7, (q2, .inl (k2, 7200, .inl f2)), (q3, .inl (k3, 400, .inl f3)), (q6, .inl (k6, 4096, .inr (.inl (vp_updL g6 w ((g6 w) &&& x3))))), (q7, .inl (k7, 6, .inr (.inl f7)))] H := hP
              have hD : va_D A [zO h th q1 ts cn q2 q3 q4 lv q5 an md q6 q7, (q2, .inl (k2, 7200, .inl f2)), (q3, .inl (k3, 400, .inl f3)), (q6, .inl (k6, 4096, .inr (.inl (vp_updL g6 w ((g6 w) &&& x3))))), (q7, .inl (k7, 6, .inr (.inl f7)))] := hD
              refine lv_iinc (v := nI (w + 1)) (lv' := [(2, .int (nI (w + 1))), (5, .int (nI j)), (3, .long x3), (0, .ref h), (1, .int (nI c0))]) hx hb dX1_apply_61 hl (k := 2) rfl (nI_1 _) (by decide) rfl (fun ls hl => ?_)
              refine lv_goto (tgt := 2) hx hb dX1_apply_64 (by decide) ?_
              refine ih (w + 1) _ hlt (by omega) ?_ ?_ _ _ hP hD hS ls (lv_sub hl [0, 3, 4] rfl)
              · intro i hi
                by_cases e : i = w
                · subst e
                  rw [pk_uLs]
                  refine zW_and ?_ hX
                  intro k hk
                  show zb (g6 i) k = true ↔ zb (f6 i) ((64 * i + k) % 64) = true
                  rw [hJ i (Nat.le_refl _), (z_div hk).2]
                · rw [pk_uLn e]; exact hI i (by omega)
              · intro i hi
                rw [pk_uLn (by omega)]; exact hJ i (by omega)
            · have hjl : j < zs := by
                rcases Nat.lt_or_ge j zs with q | q
                · exact q
                · exact absurd (nI_le q (by omega)) cb_22
              have h72 : 18 * c0 + j < 7200 := by omega
              refine lv_lload_n hx hb dX1_apply_25 rfl (lv_at hl 1 rfl) ?_
              refine lv_aload_n hx hb dX1_apply_26 rfl (lv_at hl 3 rfl) ?_
              refine lv_aload_n hx hb dX1_apply_27 rfl (lv_at hl 3 rfl) ?_
              refine va_get (D := (dC, dI)) (ci := 1) (v := .ref q2) (C := RX1) (T := TX1) (N := 13) hx hb htA inX1 hown hK hP 0 rfl rfl 4 (by decide) (htA _ lkX1_13) (fun _ h9 => h9) rfl dX1_apply_28 ?_
              refine lv_bipush (v := 18) hx hb dX1_apply_31 (by decide) ?_
              refine lv_iload_n hx hb dX1_apply_33 rfl (lv_at hl 4 rfl) ?_
              refine lv_imul hx hb dX1_apply_34 ?_
              refine lv_iload hx hb dX1_apply_35 (lv_at hl 0 rfl) ?_
              refine lv_iadd hx hb dX1_apply_37 ?_
              refine W.eq (g2 := F0 m 38 ls [.int (nI (18 * c0 + j)), .ref q2, .ref h, .long x3]) (by rw [show (18 : Int32) * nI c0 = nI (18 * c0) from pk_mul 18 c0, nI_add]) ?_
              refine yv_iald hx hb hK hP 1 0 rfl rfl (k := (18 * c0 + j)) h72 (by decide) dX1_apply_38 ?_
              refine lv_iload_n hx hb dX1_apply_39 rfl (lv_at hl 2 rfl) ?_
              have hPc := hP.sub (ws' := [zO h th q1 ts cn q2 q3 q4 lv q5 an md q6 q7, (q7, .inl (k7, 6, .inr (.inl f7)))]) [0, 4] rfl
              have hDc := hD.sub (ws' := [zO h th q1 ts cn q2 q3 q4 lv q5 an md q6 q7, (q7, .inl (k7, 6, .inr (.inl f7)))]) [0, 4] (by decide) rfl
              have hKc := hK.sub (tys' := [(k7, .long)]) [3] rfl
              have hFc := va_free (wc := [zO h th q1 ts cn q2 q3 q4 lv q5 an md q6 q7, (q7, .inl (k7, 6, .inr (.inl f7)))]) hD hS hA [0, 4] rfl
              refine va_calll (va_runV (As := [.int (f2 (18 * c0 + j)), .int (nI w)]) (rest := [.long x3]) ⟨hx, hb, hml, hown, htA⟩ (r_truth l dC dI h q1 q2 q3 q4 q5 q6 q7 k7 f7 th ts cn lv an md (f2 (18 * c0 + j)) w H.size hlt (hlit j hjl) h7) (cwV 2 htA gX1_56 rfl rfl rfl (by decide +kernel) ⟨Nat.le_of_ble_eq_true rfl, Nat.le_of_ble_eq_true rfl⟩) ⟨fun a U g mk q => by obtain ⟨q0, q1, qP, qK, qD⟩ := q; exact ⟨q0, q1, qP, va_K.moved (u := U) (U := U.calling g mk a) (Vm.Alike.refl U.vm) qK, qD⟩, va_recv hKc hPc (ci := 1) (q0 := 0) rfl rfl, fun U hU hW => ⟨rfl, by rw [hU], by rw [hU]; exact hPc, va_K.moved hW.alike hKc, hDc.weaken (fun _ _ _ _ => trivial)⟩⟩ rfl rfl hl.1 rfl (lv_room (Nat.le_of_ble_eq_true rfl)) dX1_apply_40 ⟨Nat.zero_le _, Nat.zero_le _⟩) hS (fun q _ h => hFc q h) hFc (fun rt u t H1 locs ht hvm hw hB hz1 hk1 hS => ?_)
              obtain ⟨hP1, hK1, hD1⟩ := hB
              rw [ht] at hP1
              try dsimp only at hw hP1 hD1
              obtain ⟨hP, hD⟩ := va_join (wr := [(q2, .inl (k2, 7200, .inl f2)), (q3, .inl (k3, 400, .inl f3)), (q6, .inl (k6, 4096, .inr (.inl g6)))]) (w1 := [zO h th q1 ts cn q2 q3 q4 lv q5 an md q6 q7, (q7, .inl (k7, 6, .inr (.inl f7)))]) hP hD [0, 4] [1, 2, 3] rfl rfl (by decide) (by decide) hk1 hFc hP1 hD1
              generalize H1 = H at hP hS ⊢
              have hP : va_P (dC, dI) vwCl [zO h th q1 ts cn q2 q3 q4 lv q5 an md q6 q7, (q2, .inl (k2, 7200, .inl f2)), (q3, .inl (k3, 400, .inl f3)), (q6, .inl (k6, 4096, .inr (.inl g6))), (q7, .inl (k7, 6, .inr (.inl f7)))] H := hP.sub [3, 0, 1, 2, 4] rfl
              have hD : va_D A [zO h th q1 ts cn q2 q3 q4 lv q5 an md q6 q7, (q2, .inl (k2, 7200, .inl f2)), (q3, .inl (k3, 400, .inl f3)), (q6, .inl (k6, 4096, .inr (.inl g6))), (q7, .inl (k7, 6, .inr (.inl f7)))] := hD.sub [3, 0, 1, 2, 4] (by decide) rfl
              refine lv_lor hx hb dX1_apply_43 ?_
              refine lv_lstore_n (lv' := [(3, .long (x3 ||| rt)), (5, .int (nI j)), (2, .int (nI w)), (0, .ref h), (1, .int (nI c0))]) hx hb dX1_apply_44 rfl hl (by decide) rfl (fun ls hl => ?_)
              refine lv_iinc (v := nI (j + 1)) (lv' := [(5, .int (nI (j + 1))), (3, .long (x3 ||| rt)), (2, .int (nI w)), (0, .ref h), (1, .int (nI c0))]) hx hb dX1_apply_45 hl (k := 1) rfl (nI_1 _) (by decide) rfl (fun ls hl => ?_)
              refine lv_goto (tgt := 14) hx hb dX1_apply_48 (by decide) ?_
              refine ih2 (j + 1) _ hjl (by omega) ?_ _ _ hP hD hS ls (lv_sub hl [0, 1, 2, 3, 4] rfl)
              refine zW_iff (fun k hk => ?_) (zW_or hX hw)
              constructor
              · rintro (⟨i, h1, h2⟩ | h)
                · exact ⟨i, by omega, h2⟩
                · exact ⟨j, by omega, h⟩
              · rintro ⟨i, h1, h2⟩
                by_cases e : i = j
                · rw [e] at h2; exact Or.inr h2
                · exact Or.inl ⟨i, by omega, h2⟩
        refine inner (zs + 1) 0 0 (by omega) (by omega) ?_ _ _ hP hD hS ls (lv_sub hl [0, 1, 2, 3, 4] rfl)
        exact zW_iff (fun k hk => ⟨False.elim, fun ⟨i, h1, _⟩ => absurd h1 (Nat.not_lt_zero i)⟩) zW_0
  exact loop 4097 0 f6 (by omega) (by omega) (fun i hi => absurd hi (Nat.not_lt_zero i)) (fun i _ => rfl) _ _ hP hD hS ls (lv_sub hl [0, 1, 2] rfl)
