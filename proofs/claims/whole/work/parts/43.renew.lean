set_option maxHeartbeats 4000000 in
set_option maxRecDepth 100000 in
theorem r_renew (l : Launch) (dC : Nat → ClassId) (dI : Nat → Nat → Nat) (h : Nat) (q1 : Nat) (q2 : Nat) (q3 : Nat) (q4 : Nat) (q5 : Nat) (q6 : Nat) (q7 : Nat) (k2 : ClassId) (k3 : ClassId) (k6 : ClassId) (k7 : ClassId) (f2 : Nat → Int32) (f3 : Nat → Int32) (f6 : Nat → Int64) (f7 : Nat → Int64) (th : Int32) (ts : Int32) (cn : Nat) (lv : Int32) (an : Int32) (md : Int32) (zs : Nat → Nat) (sz : Nat) (hcn : cn ≤ 400) (hsz : ∀ c, c < cn → f3 c = nI (zs c) ∧ zs c ≤ 18) (hlit : ∀ c, c < cn → ∀ j, j < zs c → yLit (f2 (18 * c + j))) (h7 : zIn f7) : Met l yX1_renew wsX1_renew ({ frames := 2, cells := 0, slots := 0, locals := 80 }) (va_Pc [.ref h] (fun U => U.heap.size = sz ∧ va_P (dC, dI) vwCl [zO h th q1 ts (nI cn) q2 q3 q4 lv q5 an md q6 q7, (q2, .inl (k2, 7200, .inl f2)), (q3, .inl (k3, 400, .inl f3)), (q6, .inl (k6, 4096, .inr (.inl f6))), (q7, .inl (k7, 6, .inr (.inl f7)))] U.heap ∧ va_K (dC, dI) vwCl [(k2, .int), (k3, .int), (k6, .long), (k7, .long)] U ∧ va_D (fun _ => True) [zO h th q1 ts (nI cn) q2 q3 q4 lv q5 an md q6 q7, (q2, .inl (k2, 7200, .inl f2)), (q3, .inl (k3, 400, .inl f3)), (q6, .inl (k6, 4096, .inr (.inl f6))), (q7, .inl (k7, 6, .inr (.inl f7)))])) (va_Qv (fun (u : Nat → Int64) => ∀ w, w < 4096 → zW (fun a => ∀ c, c < cn → zC f2 c (zs c) a) w (u w)) (fun (u : Nat → Int64) (t : State) => va_P (dC, dI) vwCl [zO h th q1 ts (nI cn) q2 q3 q4 lv q5 an md q6 q7, (q2, .inl (k2, 7200, .inl f2)), (q3, .inl (k3, 400, .inl f3)), (q6, .inl (k6, 4096, .inr (.inl u))), (q7, .inl (k7, 6, .inr (.inl f7)))] t.heap ∧ va_K (dC, dI) vwCl [(k2, .int), (k3, .int), (k6, .long), (k7, .long)] t ∧ va_D (va_A [zO h th q1 ts (nI cn) q2 q3 q4 lv q5 an md q6 q7, (q2, .inl (k2, 7200, .inl f2)), (q3, .inl (k3, 400, .inl f3)), (q6, .inl (k6, 4096, .inr (.inl f6))), (q7, .inl (k7, 6, .inr (.inl f7)))] sz) [zO h th q1 ts (nI cn) q2 q3 q4 lv q5 an md q6 q7, (q2, .inl (k2, 7200, .inl f2)), (q3, .inl (k3, 400, .inl f3)), (q6, .inl (k6, 4096, .inr (.inl u))), (q7, .inl (k7, 6, .inr (.inl f7)))]) (va_A [zO h th q1 ts (nI cn) q2 q3 q4 lv q5 an md q6 q7, (q2, .inl (k2, 7200, .inl f2)), (q3, .inl (k3, 400, .inl f3)), (q6, .inl (k6, 4096, .inr (.inl f6))), (q7, .inl (k7, 6, .inr (.inl f7)))] sz)) 0 0 (va_A [zO h th q1 ts (nI cn) q2 q3 q4 lv q5 an md q6 q7, (q2, .inl (k2, 7200, .inl f2)), (q3, .inl (k3, 400, .inl f3)), (q6, .inl (k6, 4096, .inr (.inl f6))), (q7, .inl (k7, 6, .inr (.inl f7)))] sz) := by
  refine Met.ofW (cc := cX1_renew) (maxL := 2) (ret := none) (by decide) rfl ?_
  intro p e s m args below meth c s₁ B hml hv
  obtain ⟨rfl, hsz, hP, hK, hD0⟩ := hv
  have hx := B.exec
  have hb := B.bytes
  have hr := B.returns
  have hts := atoms_spec (ws := wsX1_renew) B.pre
  have htA : ∀ w ∈ wsA, w.before _ s = true := fun w h => hts w (List.mem_cons_of_mem _ h)
  have hown : s.vm.findClass RX1 = some m.cls := findClass_of_methodNamed B.named
  have hlocks := B.notSynchronized
  subst hsz
  have hD := hD0.self (sz := s.heap.size)
  generalize hAe : va_A [zO h th q1 ts (nI cn) q2 q3 q4 lv q5 an md q6 q7, (q2, .inl (k2, 7200, .inl f2)), (q3, .inl (k3, 400, .inl f3)), (q6, .inl (k6, 4096, .inr (.inl f6))), (q7, .inl (k7, 6, .inr (.inl f7)))] s.heap.size = A at hD ⊢
  have hA : ∀ q : Nat, s.heap.size ≤ q → A q := fun q h => by rw [← hAe]; exact Or.inr h
  have hS : va_S A s.heap s.heap [] := va_S.rf
  have hP : va_P (dC, dI) vwCl [zO h th q1 ts (nI cn) q2 q3 q4 lv q5 an md q6 q7, (q2, .inl (k2, 7200, .inl f2)), (q3, .inl (k3, 400, .inl f3)), (q6, .inl (k6, 4096, .inr (.inl f6))), (q7, .inl (k7, 6, .inr (.inl f7)))] s.heap := hP
  have hl := lv_entry ([.ref h]) (n := 2) (Nat.le_of_ble_eq_true rfl)
  rw [lg_entry_eq]
  generalize (lg_sl ([.ref h]) ++ List.replicate (2 - (lg_sl ([.ref h])).length) Slot.unset).toArray = ls at hl ⊢
  have hl : lv_has ls 2 [(0, .ref h)] := hl
  refine lv_iconst (v := 0) hx hb dX1_renew_0 (by decide) ?_
  refine lv_istore_n (lv' := [(1, .int 0), (0, .ref h)]) hx hb dX1_renew_1 rfl hl (by decide) rfl (fun ls hl => ?_)
  have loop2 : ∀ (fu c9 : Nat) (g6 : Nat → Int64), c9 ≤ cn → cn + 1 ≤ c9 + fu → (∀ w, w < 4096 → zW (fun a => ∀ i, i < c9 → zC f2 i (zs i) a) w (g6 w)) → ∀ (H : Heap) (locs : List Loc), va_P (dC, dI) vwCl [zO h th q1 ts (nI cn) q2 q3 q4 lv q5 an md q6 q7, (q2, .inl (k2, 7200, .inl f2)), (q3, .inl (k3, 400, .inl f3)), (q6, .inl (k6, 4096, .inr (.inl g6))), (q7, .inl (k7, 6, .inr (.inl f7)))] H → va_D A [zO h th q1 ts (nI cn) q2 q3 q4 lv q5 an md q6 q7, (q2, .inl (k2, 7200, .inl f2)), (q3, .inl (k3, 400, .inl f3)), (q6, .inl (k6, 4096, .inr (.inl g6))), (q7, .inl (k7, 6, .inr (.inl f7)))] → va_S A s.heap H locs → ∀ (ls : Array Slot), lv_has ls 2 [(1, .int (nI c9)), (0, .ref h)] → W p l e (headSpec wsX1_renew ({ frames := 2, cells := 0, slots := 0, locals := 80 })).room s m ([.ref h] : List Value).toArray below meth c H locs 0 0 (MQ below (va_Qv (fun (u : Nat → Int64) => ∀ w, w < 4096 → zW (fun a => ∀ c, c < cn → zC f2 c (zs c) a) w (u w)) (fun (u : Nat → Int64) (t : State) => va_P (dC, dI) vwCl [zO h th q1 ts (nI cn) q2 q3 q4 lv q5 an md q6 q7, (q2, .inl (k2, 7200, .inl f2)), (q3, .inl (k3, 400, .inl f3)), (q6, .inl (k6, 4096, .inr (.inl u))), (q7, .inl (k7, 6, .inr (.inl f7)))] t.heap ∧ va_K (dC, dI) vwCl [(k2, .int), (k3, .int), (k6, .long), (k7, .long)] t ∧ va_D A [zO h th q1 ts (nI cn) q2 q3 q4 lv q5 an md q6 q7, (q2, .inl (k2, 7200, .inl f2)), (q3, .inl (k3, 400, .inl f3)), (q6, .inl (k6, 4096, .inr (.inl u))), (q7, .inl (k7, 6, .inr (.inl f7)))]) A) ([.ref h] : List Value).toArray s 0 0 A) (F0 m 26 ls []) := by
    intro fu
    induction fu with
    | zero =>
      intro c9 g6 h1 h2
      exact absurd h2 (by omega)
    | succ fu ih =>
      intro c9 g6 hc hin hI H locs hP hD hS ls hl
      refine lv_iload_n hx hb dX1_renew_26 rfl (lv_at hl 0 rfl) ?_
      refine lv_aload_n hx hb dX1_renew_27 rfl (lv_at hl 1 rfl) ?_
      refine va_get (D := (dC, dI)) (ci := 1) (v := .int (nI cn)) (C := RX1) (T := TX1) (N := 13) hx hb htA inX1 hown hK hP 0 rfl rfl 3 (by decide) (htA _ lkX1_60) (fun _ h9 => h9) rfl dX1_renew_28 ?_
      refine lv_icmp_ge (tgt := 45) hx hb dX1_renew_31 (by decide) (fun cb_23 => ?_) (fun cb_23 => ?_)
      · have hce : c9 = cn := by
          rcases Nat.lt_or_ge c9 cn with q | q
          · exact absurd cb_23 (nI_ge q (by omega))
          · omega
        subst hce
        exact W.vret hx hb hr (fun t ht hW => ⟨⟨g6, rfl, hI, by rw [ht]; exact hP, va_K.moved hW.alike hK, hD⟩, hS.F ht⟩) hS.2.2 dX1_renew_45
      · have hlt : c9 < cn := by
          rcases Nat.lt_or_ge c9 cn with q | q
          · exact q
          · exact absurd (nI_le q (by omega)) cb_23
        refine lv_aload_n hx hb dX1_renew_34 rfl (lv_at hl 1 rfl) ?_
        refine lv_iload_n hx hb dX1_renew_35 rfl (lv_at hl 0 rfl) ?_
        have hPc := hP.sub (ws' := [zO h th q1 ts (nI cn) q2 q3 q4 lv q5 an md q6 q7, (q2, .inl (k2, 7200, .inl f2)), (q3, .inl (k3, 400, .inl f3)), (q6, .inl (k6, 4096, .inr (.inl g6))), (q7, .inl (k7, 6, .inr (.inl f7)))]) [0, 1, 2, 3, 4] rfl
        have hDc := hD.sub (ws' := [zO h th q1 ts (nI cn) q2 q3 q4 lv q5 an md q6 q7, (q2, .inl (k2, 7200, .inl f2)), (q3, .inl (k3, 400, .inl f3)), (q6, .inl (k6, 4096, .inr (.inl g6))), (q7, .inl (k7, 6, .inr (.inl f7)))]) [0, 1, 2, 3, 4] (by decide) rfl
        have hKc := hK.sub (tys' := [(k2, .int), (k3, .int), (k6, .long), (k7, .long)]) [0, 1, 2, 3] rfl
        have hFc := va_free (wc := [zO h th q1 ts (nI cn) q2 q3 q4 lv q5 an md q6 q7, (q2, .inl (k2, 7200, .inl f2)), (q3, .inl (k3, 400, .inl f3)), (q6, .inl (k6, 4096, .inr (.inl g6))), (q7, .inl (k7, 6, .inr (.inl f7)))]) hD hS hA [0, 1, 2, 3, 4] rfl
        refine va_callv (va_runV (As := [.int (nI c9)]) (rest := []) ⟨hx, hb, hml, hown, htA⟩ (r_apply l dC dI h q1 q2 q3 q4 q5 q6 q7 k2 k3 k6 k7 f2 f3 g6 f7 th ts (nI cn) lv an md c9 (zs c9) H.size (by omega) (hsz c9 hlt).1 (hsz c9 hlt).2 (hlit c9 hlt) h7) (cwV 1 htA gX1_63 rfl rfl rfl (by decide +kernel) ⟨Nat.le_of_ble_eq_true rfl, Nat.le_of_ble_eq_true rfl⟩) ⟨fun a U g mk q => by obtain ⟨q0, q1, qP, qK, qD⟩ := q; exact ⟨q0, q1, qP, va_K.moved (u := U) (U := U.calling g mk a) (Vm.Alike.refl U.vm) qK, qD⟩, va_recv hKc hPc (ci := 1) (q0 := 0) rfl rfl, fun U hU hW => ⟨rfl, by rw [hU], by rw [hU]; exact hPc, va_K.moved hW.alike hKc, hDc.weaken (fun _ _ _ _ => trivial)⟩⟩ rfl rfl hl.1 rfl (lv_room (Nat.le_of_ble_eq_true rfl)) dX1_renew_36 ⟨Nat.zero_le _, Nat.zero_le _⟩) hS (fun q _ h => hFc q h) hFc (fun u t H1 locs ht hvm hw hB hz1 hk1 hS => ?_)
        obtain ⟨hP1, hK1, hD1⟩ := hB
        rw [ht] at hP1
        try dsimp only at hw hP1 hD1
        obtain ⟨hP, hD⟩ := va_join (wr := []) (w1 := [zO h th q1 ts (nI cn) q2 q3 q4 lv q5 an md q6 q7, (q2, .inl (k2, 7200, .inl f2)), (q3, .inl (k3, 400, .inl f3)), (q6, .inl (k6, 4096, .inr (.inl u))), (q7, .inl (k7, 6, .inr (.inl f7)))]) hP hD [0, 1, 2, 3, 4] [] rfl rfl (by decide) (by decide) hk1 hFc hP1 hD1
        generalize H1 = H at hP hS ⊢
        have hP : va_P (dC, dI) vwCl [zO h th q1 ts (nI cn) q2 q3 q4 lv q5 an md q6 q7, (q2, .inl (k2, 7200, .inl f2)), (q3, .inl (k3, 400, .inl f3)), (q6, .inl (k6, 4096, .inr (.inl u))), (q7, .inl (k7, 6, .inr (.inl f7)))] H := hP.sub [0, 1, 2, 3, 4] rfl
        have hD : va_D A [zO h th q1 ts (nI cn) q2 q3 q4 lv q5 an md q6 q7, (q2, .inl (k2, 7200, .inl f2)), (q3, .inl (k3, 400, .inl f3)), (q6, .inl (k6, 4096, .inr (.inl u))), (q7, .inl (k7, 6, .inr (.inl f7)))] := hD.sub [0, 1, 2, 3, 4] (by decide) rfl
        refine lv_iinc (v := nI (c9 + 1)) (lv' := [(1, .int (nI (c9 + 1))), (0, .ref h)]) hx hb dX1_renew_39 hl (k := 0) rfl (nI_1 _) (by decide) rfl (fun ls hl => ?_)
        refine lv_goto (tgt := 26) hx hb dX1_renew_42 (by decide) ?_
        refine ih (c9 + 1) _ hlt (by omega) ?_ _ _ hP hD hS ls (lv_sub hl [0, 1] rfl)
        intro w hw4
        refine zW_iff (fun k hk => ?_) (hw w hw4)
        have hz := hI w hw4 k hk
        rw [(z_div hk).2]
        constructor
        · rintro ⟨h1, h2⟩ i hi
          by_cases e : i = c9
          · rw [e]; exact h2
          · exact hz.mp h1 i (by omega)
        · intro q
          exact ⟨hz.mpr (fun i hi => q i (by omega)), q c9 (by omega)⟩
  have loop : ∀ (fu w : Nat) (g6 : Nat → Int64), w ≤ 4096 → 4097 ≤ w + fu → (∀ i, i < w → g6 i = -1) → ∀ (H : Heap) (locs : List Loc), va_P (dC, dI) vwCl [zO h th q1 ts (nI cn) q2 q3 q4 lv q5 an md q6 q7, (q2, .inl (k2, 7200, .inl f2)), (q3, .inl (k3, 400, .inl f3)), (q6, .inl (k6, 4096, .inr (.inl g6))), (q7, .inl (k7, 6, .inr (.inl f7)))] H → va_D A [zO h th q1 ts (nI cn) q2 q3 q4 lv q5 an md q6 q7, (q2, .inl (k2, 7200, .inl f2)), (q3, .inl (k3, 400, .inl f3)), (q6, .inl (k6, 4096, .inr (.inl g6))), (q7, .inl (k7, 6, .inr (.inl f7)))] → va_S A s.heap H locs → ∀ (ls : Array Slot), lv_has ls 2 [(1, .int (nI w)), (0, .ref h)] → W p l e (headSpec wsX1_renew ({ frames := 2, cells := 0, slots := 0, locals := 80 })).room s m ([.ref h] : List Value).toArray below meth c H locs 0 0 (MQ below (va_Qv (fun (u : Nat → Int64) => ∀ w, w < 4096 → zW (fun a => ∀ c, c < cn → zC f2 c (zs c) a) w (u w)) (fun (u : Nat → Int64) (t : State) => va_P (dC, dI) vwCl [zO h th q1 ts (nI cn) q2 q3 q4 lv q5 an md q6 q7, (q2, .inl (k2, 7200, .inl f2)), (q3, .inl (k3, 400, .inl f3)), (q6, .inl (k6, 4096, .inr (.inl u))), (q7, .inl (k7, 6, .inr (.inl f7)))] t.heap ∧ va_K (dC, dI) vwCl [(k2, .int), (k3, .int), (k6, .long), (k7, .long)] t ∧ va_D A [zO h th q1 ts (nI cn) q2 q3 q4 lv q5 an md q6 q7, (q2, .inl (k2, 7200, .inl f2)), (q3, .inl (k3, 400, .inl f3)), (q6, .inl (k6, 4096, .inr (.inl u))), (q7, .inl (k7, 6, .inr (.inl f7)))]) A) ([.ref h] : List Value).toArray s 0 0 A) (F0 m 2 ls []) := by
    intro fu
    induction fu with
    | zero =>
      intro w g6 h1 h2
      exact absurd h2 (by omega)
    | succ fu ih =>
      intro w g6 hw hin hI H locs hP hD hS ls hl
      refine lv_iload_n hx hb dX1_renew_2 rfl (lv_at hl 0 rfl) ?_
      refine lv_sipush (v := 4096) hx hb dX1_renew_3 (by decide) ?_
      refine lv_icmp_ge (tgt := 24) hx hb dX1_renew_6 (by decide) (fun cb_25 => ?_) (fun cb_25 => ?_)
      · have hwe : w = 4096 := by
          rcases Nat.lt_or_ge w 4096 with q | q
          · exact absurd cb_25 (nI_ge (b := 4096) q (by omega))
          · omega
        subst hwe
        refine lv_iconst (v := 0) hx hb dX1_renew_24 (by decide) ?_
        refine lv_istore_n (lv' := [(1, .int 0), (0, .ref h)]) hx hb dX1_renew_25 rfl hl (by decide) rfl (fun ls hl => ?_)
        refine loop2 (cn + 1) 0 g6 (by omega) (by omega) ?_ _ _ hP hD hS ls (lv_sub hl [0, 1] rfl)
        intro w hw4
        rw [hI w hw4]
        exact zW_iff (fun k hk => ⟨fun _ i hi => absurd hi (Nat.not_lt_zero i), fun _ => trivial⟩) zW_m1
      · have hlt : w < 4096 := by
          rcases Nat.lt_or_ge w 4096 with q | q
          · exact q
          · exact absurd (nI_le (a := 4096) q (by omega)) cb_25
        refine lv_aload_n hx hb dX1_renew_9 rfl (lv_at hl 1 rfl) ?_
        refine va_get (D := (dC, dI)) (ci := 1) (v := .ref q6) (C := RX1) (T := TX1) (N := 13) hx hb htA inX1 hown hK hP 0 rfl rfl 11 (by decide) (htA _ lkX1_29) (fun _ h9 => h9) rfl dX1_renew_10 ?_
        refine lv_iload_n hx hb dX1_renew_13 rfl (lv_at hl 0 rfl) ?_
        refine lv_ldc2 (own := RX1) (v := (-1)) hx hb hown (htA _ lkX1_54) dX1_renew_14 ?_
        refine yv_last hx hb hK hP hD hS 3 2 rfl rfl (k := w) hlt (by decide) dX1_renew_17 (fun H locs hP hD hS => ?_)
        have hP : va_P (dC, dI) vwCl [zO h th q1 ts (nI cn) q2 q3 q4 lv q5 an md q6 q7, (q2, .inl (k2, 7200, .inl f2)), (q3, .inl (k3, 400, .inl f3)), (q6, .inl (k6, 4096, .inr (.inl (vp_updL g6 w (-1))))), (q7, .inl (k7, 6, .inr (.inl f7)))] H := hP
        have hD : va_D A [zO h th q1 ts (nI cn) q2 q3 q4 lv q5 an md q6 q7, (q2, .inl (k2, 7200, .inl f2)), (q3, .inl (k3, 400, .inl f3)), (q6, .inl (k6, 4096, .inr (.inl (vp_updL g6 w (-1))))), (q7, .inl (k7, 6, .inr (.inl f7)))] := hD
        refine lv_iinc (v := nI (w + 1)) (lv' := [(1, .int (nI (w + 1))), (0, .ref h)]) hx hb dX1_renew_18 hl (k := 0) rfl (nI_1 _) (by decide) rfl (fun ls hl => ?_)
        refine lv_goto (tgt := 2) hx hb dX1_renew_21 (by decide) ?_
        refine ih (w + 1) _ hlt (by omega) ?_ _ _ hP hD hS ls (lv_sub hl [0, 1] rfl)
        intro i hi
        by_cases e : i = w
        · rw [e, pk_uLs]
        · rw [pk_uLn e]; exact hI i (by omega)
  exact loop 4097 0 f6 (by omega) (by omega) (fun i hi => absurd hi (Nat.not_lt_zero i)) _ _ hP hD hS ls (lv_sub hl [0, 1] rfl)
set_option maxHeartbeats 4000000 in
set_option maxRecDepth 100000 in
theorem r_word (l : Launch) (dC : Nat → ClassId) (dI : Nat → Nat → Nat) (h : Nat) (q1 : Nat) (q2 : Nat) (q3 : Nat) (q4 : Nat) (q5 : Nat) (q6 : Nat) (q7 : Nat) (k5 : ClassId) (k6 : ClassId) (k7 : ClassId) (f5 : Nat → Int32) (f6 : Nat → Int64) (f7 : Nat → Int64) (th : Int32) (ts : Int32) (cn : Int32) (lv : Int32) (an : Nat) (md : Int32) (w : Nat) (bt : Int32) (sz : Nat) (hw4 : w < 4096) (han : an ≤ 18) (hlit : ∀ j, j < an → yLit (f5 j)) (h7 : zIn f7) : Met l yX1_word wsX1_word ({ frames := 1, cells := 0, slots := 0, locals := 40 }) (va_Pc [.ref h, .int (nI w), .int bt] (fun U => U.heap.size = sz ∧ va_P (dC, dI) vwCl [zO h th q1 ts cn q2 q3 q4 lv q5 (nI an) md q6 q7, (q5, .inl (k5, 18, .inl f5)), (q6, .inl (k6, 4096, .inr (.inl f6))), (q7, .inl (k7, 6, .inr (.inl f7)))] U.heap ∧ va_K (dC, dI) vwCl [(k5, .int), (k6, .long), (k7, .long)] U ∧ va_D (fun _ => True) [zO h th q1 ts cn q2 q3 q4 lv q5 (nI an) md q6 q7, (q5, .inl (k5, 18, .inl f5)), (q6, .inl (k6, 4096, .inr (.inl f6))), (q7, .inl (k7, 6, .inr (.inl f7)))])) (va_Ql (fun (r : Int64) (u : Unit) => zW (zP f5 f6 an bt) w r) (fun (u : Unit) (t : State) => va_P (dC, dI) vwCl [zO h th q1 ts cn q2 q3 q4 lv q5 (nI an) md q6 q7, (q5, .inl (k5, 18, .inl f5)), (q6, .inl (k6, 4096, .inr (.inl f6))), (q7, .inl (k7, 6, .inr (.inl f7)))] t.heap ∧ va_K (dC, dI) vwCl [(k5, .int), (k6, .long), (k7, .long)] t ∧ va_D (va_A [zO h th q1 ts cn q2 q3 q4 lv q5 (nI an) md q6 q7, (q5, .inl (k5, 18, .inl f5)), (q6, .inl (k6, 4096, .inr (.inl f6))), (q7, .inl (k7, 6, .inr (.inl f7)))] sz) [zO h th q1 ts cn q2 q3 q4 lv q5 (nI an) md q6 q7, (q5, .inl (k5, 18, .inl f5)), (q6, .inl (k6, 4096, .inr (.inl f6))), (q7, .inl (k7, 6, .inr (.inl f7)))]) (va_A [zO h th q1 ts cn q2 q3 q4 lv q5 (nI an) md q6 q7, (q5, .inl (k5, 18, .inl f5)), (q6, .inl (k6, 4096, .inr (.inl f6))), (q7, .inl (k7, 6, .inr (.inl f7)))] sz)) 0 0 (va_A [zO h th q1 ts cn q2 q3 q4 lv q5 (nI an) md q6 q7, (q5, .inl (k5, 18, .inl f5)), (q6, .inl (k6, 4096, .inr (.inl f6))), (q7, .inl (k7, 6, .inr (.inl f7)))] sz) := by
  refine Met.ofW (cc := cX1_word) (maxL := 6) (ret := (some .long)) (by decide) rfl ?_
  intro p e s m args below meth c s₁ B hml hv
  obtain ⟨rfl, hsz, hP, hK, hD0⟩ := hv
  have hx := B.exec
  have hb := B.bytes
  have hr := B.returns
  have hts := atoms_spec (ws := wsX1_word) B.pre
  have htA : ∀ w ∈ wsA, w.before _ s = true := fun w h => hts w (List.mem_cons_of_mem _ h)
  have hown : s.vm.findClass RX1 = some m.cls := findClass_of_methodNamed B.named
  have hlocks := B.notSynchronized
  subst hsz
  have hD := hD0.self (sz := s.heap.size)
  generalize hAe : va_A [zO h th q1 ts cn q2 q3 q4 lv q5 (nI an) md q6 q7, (q5, .inl (k5, 18, .inl f5)), (q6, .inl (k6, 4096, .inr (.inl f6))), (q7, .inl (k7, 6, .inr (.inl f7)))] s.heap.size = A at hD ⊢
  have hA : ∀ q : Nat, s.heap.size ≤ q → A q := fun q h => by rw [← hAe]; exact Or.inr h
  have hS : va_S A s.heap s.heap [] := va_S.rf
  have hP : va_P (dC, dI) vwCl [zO h th q1 ts cn q2 q3 q4 lv q5 (nI an) md q6 q7, (q5, .inl (k5, 18, .inl f5)), (q6, .inl (k6, 4096, .inr (.inl f6))), (q7, .inl (k7, 6, .inr (.inl f7)))] s.heap := hP
  have hl := lv_entry ([.ref h, .int (nI w), .int bt]) (n := 6) (Nat.le_of_ble_eq_true rfl)
  rw [lg_entry_eq]
  generalize (lg_sl ([.ref h, .int (nI w), .int bt]) ++ List.replicate (6 - (lg_sl ([.ref h, .int (nI w), .int bt])).length) Slot.unset).toArray = ls at hl ⊢
  have hl : lv_has ls 6 [(0, .ref h), (1, .int (nI w)), (2, .int bt)] := hl
  refine lv_aload_n hx hb dX1_word_0 rfl (lv_at hl 0 rfl) ?_
  refine va_get (D := (dC, dI)) (ci := 1) (v := .ref q6) (C := RX1) (T := TX1) (N := 13) hx hb htA inX1 hown hK hP 0 rfl rfl 11 (by decide) (htA _ lkX1_29) (fun _ h9 => h9) rfl dX1_word_1 ?_
  refine lv_iload_n hx hb dX1_word_4 rfl (lv_at hl 1 rfl) ?_
  refine yv_lald hx hb hK hP 2 1 rfl rfl (k := w) hw4 (by decide) dX1_word_5 ?_
  refine lv_lstore_n (lv' := [(3, .long (f6 w)), (0, .ref h), (1, .int (nI w)), (2, .int bt)]) hx hb dX1_word_6 rfl hl (by decide) rfl (fun ls hl => ?_)
  refine lv_iconst (v := 0) hx hb dX1_word_7 (by decide) ?_
  refine lv_istore (lv' := [(5, .int 0), (3, .long (f6 w)), (0, .ref h), (1, .int (nI w)), (2, .int bt)]) hx hb dX1_word_8 hl (by decide) rfl (fun ls hl => ?_)
  have loop : ∀ (fu j : Nat) (x3 : Int64), j ≤ an → an + 1 ≤ j + fu → zW (zP f5 f6 j bt) w x3 → ∀ (H : Heap) (locs : List Loc), va_P (dC, dI) vwCl [zO h th q1 ts cn q2 q3 q4 lv q5 (nI an) md q6 q7, (q5, .inl (k5, 18, .inl f5)), (q6, .inl (k6, 4096, .inr (.inl f6))), (q7, .inl (k7, 6, .inr (.inl f7)))] H → va_D A [zO h th q1 ts cn q2 q3 q4 lv q5 (nI an) md q6 q7, (q5, .inl (k5, 18, .inl f5)), (q6, .inl (k6, 4096, .inr (.inl f6))), (q7, .inl (k7, 6, .inr (.inl f7)))] → va_S A s.heap H locs → ∀ (ls : Array Slot), lv_has ls 6 [(5, .int (nI j)), (3, .long x3), (0, .ref h), (1, .int (nI w)), (2, .int bt)] → W p l e (headSpec wsX1_word ({ frames := 1, cells := 0, slots := 0, locals := 40 })).room s m ([.ref h, .int (nI w), .int bt] : List Value).toArray below meth c H locs 0 0 (MQ below (va_Ql (fun (r : Int64) (u : Unit) => zW (zP f5 f6 an bt) w r) (fun (u : Unit) (t : State) => va_P (dC, dI) vwCl [zO h th q1 ts cn q2 q3 q4 lv q5 (nI an) md q6 q7, (q5, .inl (k5, 18, .inl f5)), (q6, .inl (k6, 4096, .inr (.inl f6))), (q7, .inl (k7, 6, .inr (.inl f7)))] t.heap ∧ va_K (dC, dI) vwCl [(k5, .int), (k6, .long), (k7, .long)] t ∧ va_D A [zO h th q1 ts cn q2 q3 q4 lv q5 (nI an) md q6 q7, (q5, .inl (k5, 18, .inl f5)), (q6, .inl (k6, 4096, .inr (.inl f6))), (q7, .inl (k7, 6, .inr (.inl f7)))]) A) ([.ref h, .int (nI w), .int bt] : List Value).toArray s 0 0 A) (F0 m 10 ls []) := by
    intro fu
    induction fu with
    | zero =>
      intro j x3 h1 h2
      exact absurd h2 (by omega)
    | succ fu ih =>
      intro j x3 hj hin hX H locs hP hD hS ls hl
      refine lv_iload hx hb dX1_word_10 (lv_at hl 0 rfl) ?_
      refine lv_aload_n hx hb dX1_word_12 rfl (lv_at hl 2 rfl) ?_
      refine va_get (D := (dC, dI)) (ci := 1) (v := .int (nI an)) (C := RX1) (T := TX1) (N := 13) hx hb htA inX1 hown hK hP 0 rfl rfl 9 (by decide) (htA _ lkX1_67) (fun _ h9 => h9) rfl dX1_word_13 ?_
      refine lv_icmp_ge (tgt := 52) hx hb dX1_word_16 (by decide) (fun cb_26 => ?_) (fun cb_26 => ?_)
      · have hje : j = an := by
          rcases Nat.lt_or_ge j an with q | q
          · exact absurd cb_26 (nI_ge q (by omega))
          · omega
        subst hje
        refine lv_lload_n hx hb dX1_word_52 rfl (lv_at hl 1 rfl) ?_
        exact W.lret (v := x3) hx hb hr (fun t ht hW => ⟨⟨x3, (), rfl, hX, by rw [ht]; exact hP, va_K.moved hW.alike hK, hD⟩, hS.F ht⟩) hS.2.2 dX1_word_53
      · have hlt : j < an := by
          rcases Nat.lt_or_ge j an with q | q
          · exact q
          · exact absurd (nI_le q (by omega)) cb_26
        have hj18 : j < 18 := by omega
        refine lv_lload_n hx hb dX1_word_19 rfl (lv_at hl 1 rfl) ?_
        refine lv_iload hx hb dX1_word_20 (lv_at hl 0 rfl) ?_
        refine lv_iload_n hx hb dX1_word_22 rfl (lv_at hl 4 rfl) ?_
        refine lv_icmp_ne (tgt := 32) hx hb dX1_word_23 (by decide) (fun cb_27 => ?_) (fun cb_27 => ?_)
        · refine lv_aload_n hx hb dX1_word_32 rfl (lv_at hl 2 rfl) ?_
          refine lv_aload_n hx hb dX1_word_33 rfl (lv_at hl 2 rfl) ?_
          refine va_get (D := (dC, dI)) (ci := 1) (v := .ref q5) (C := RX1) (T := TX1) (N := 13) hx hb htA inX1 hown hK hP 0 rfl rfl 8 (by decide) (htA _ lkX1_22) (fun _ h9 => h9) rfl dX1_word_34 ?_
          refine lv_iload hx hb dX1_word_37 (lv_at hl 0 rfl) ?_
          refine yv_iald hx hb hK hP 1 0 rfl rfl (k := j) hj18 (by decide) dX1_word_39 ?_
          refine lv_iload_n hx hb dX1_word_40 rfl (lv_at hl 3 rfl) ?_
          have hPc := hP.sub (ws' := [zO h th q1 ts cn q2 q3 q4 lv q5 (nI an) md q6 q7, (q7, .inl (k7, 6, .inr (.inl f7)))]) [0, 3] rfl
          have hDc := hD.sub (ws' := [zO h th q1 ts cn q2 q3 q4 lv q5 (nI an) md q6 q7, (q7, .inl (k7, 6, .inr (.inl f7)))]) [0, 3] (by decide) rfl
          have hKc := hK.sub (tys' := [(k7, .long)]) [2] rfl
          have hFc := va_free (wc := [zO h th q1 ts cn q2 q3 q4 lv q5 (nI an) md q6 q7, (q7, .inl (k7, 6, .inr (.inl f7)))]) hD hS hA [0, 3] rfl
          refine va_calll (va_runV (As := [.int (f5 j), .int (nI w)]) (rest := [.long x3]) ⟨hx, hb, hml, hown, htA⟩ (r_truth l dC dI h q1 q2 q3 q4 q5 q6 q7 k7 f7 th ts cn lv (nI an) md (f5 j) w H.size hw4 (hlit j hlt) h7) (cwV 2 htA gX1_56 rfl rfl rfl (by decide +kernel) ⟨Nat.le_of_ble_eq_true rfl, Nat.le_of_ble_eq_true rfl⟩) ⟨fun a U g mk q => by obtain ⟨q0, q1, qP, qK, qD⟩ := q; exact ⟨q0, q1, qP, va_K.moved (u := U) (U := U.calling g mk a) (Vm.Alike.refl U.vm) qK, qD⟩, va_recv hKc hPc (ci := 1) (q0 := 0) rfl rfl, fun U hU hW => ⟨rfl, by rw [hU], by rw [hU]; exact hPc, va_K.moved hW.alike hKc, hDc.weaken (fun _ _ _ _ => trivial)⟩⟩ rfl rfl hl.1 rfl (lv_room (Nat.le_of_ble_eq_true rfl)) dX1_word_41 ⟨Nat.zero_le _, Nat.zero_le _⟩) hS (fun q _ h => hFc q h) hFc (fun rt u t H1 locs ht hvm hw hB hz1 hk1 hS => ?_)
          obtain ⟨hP1, hK1, hD1⟩ := hB
          rw [ht] at hP1
          try dsimp only at hw hP1 hD1
          obtain ⟨hP, hD⟩ := va_join (wr := [(q5, .inl (k5, 18, .inl f5)), (q6, .inl (k6, 4096, .inr (.inl f6)))]) (w1 := [zO h th q1 ts cn q2 q3 q4 lv q5 (nI an) md q6 q7, (q7, .inl (k7, 6, .inr (.inl f7)))]) hP hD [0, 3] [1, 2] rfl rfl (by decide) (by decide) hk1 hFc hP1 hD1
          generalize H1 = H at hP hS ⊢
          have hP : va_P (dC, dI) vwCl [zO h th q1 ts cn q2 q3 q4 lv q5 (nI an) md q6 q7, (q5, .inl (k5, 18, .inl f5)), (q6, .inl (k6, 4096, .inr (.inl f6))), (q7, .inl (k7, 6, .inr (.inl f7)))] H := hP.sub [2, 0, 1, 3] rfl
          have hD : va_D A [zO h th q1 ts cn q2 q3 q4 lv q5 (nI an) md q6 q7, (q5, .inl (k5, 18, .inl f5)), (q6, .inl (k6, 4096, .inr (.inl f6))), (q7, .inl (k7, 6, .inr (.inl f7)))] := hD.sub [2, 0, 1, 3] (by decide) rfl
          refine lv_land hx hb dX1_word_44 ?_
          refine lv_lstore_n (lv' := [(3, .long (x3 &&& rt)), (5, .int (nI j)), (0, .ref h), (1, .int (nI w)), (2, .int bt)]) hx hb dX1_word_45 rfl hl (by decide) rfl (fun ls hl => ?_)
          refine lv_iinc (v := nI (j + 1)) (lv' := [(5, .int (nI (j + 1))), (3, .long (x3 &&& rt)), (0, .ref h), (1, .int (nI w)), (2, .int bt)]) hx hb dX1_word_46 hl (k := 1) rfl (nI_1 _) (by decide) rfl (fun ls hl => ?_)
          refine lv_goto (tgt := 10) hx hb dX1_word_49 (by decide) ?_
          refine ih (j + 1) _ hlt (by omega) ?_ _ _ hP hD hS ls (lv_sub hl [0, 1, 2, 3, 4] rfl)
          refine zW_iff (fun k hk => ?_) (zW_and hX hw)
          constructor
          · rintro ⟨⟨h1, h2⟩, h3⟩
            refine ⟨h1, fun i hi hne => ?_⟩
            by_cases e : i = j
            · rw [e]; exact h3
            · exact h2 i (by omega) hne
          · rintro ⟨h1, h2⟩
            exact ⟨⟨h1, fun i hi hne => h2 i (by omega) hne⟩, h2 j (by omega) cb_27⟩
        · refine lv_ldc2 (own := RX1) (v := (-1)) hx hb hown (htA _ lkX1_54) dX1_word_26 ?_
          refine lv_goto (tgt := 44) hx hb dX1_word_29 (by decide) ?_
          refine lv_land hx hb dX1_word_44 ?_
          refine lv_lstore_n (lv' := [(3, .long (x3 &&& (-1))), (5, .int (nI j)), (0, .ref h), (1, .int (nI w)), (2, .int bt)]) hx hb dX1_word_45 rfl hl (by decide) rfl (fun ls hl => ?_)
          refine lv_iinc (v := nI (j + 1)) (lv' := [(5, .int (nI (j + 1))), (3, .long (x3 &&& (-1))), (0, .ref h), (1, .int (nI w)), (2, .int bt)]) hx hb dX1_word_46 hl (k := 1) rfl (nI_1 _) (by decide) rfl (fun ls hl => ?_)
          refine lv_goto (tgt := 10) hx hb dX1_word_49 (by decide) ?_
          refine ih (j + 1) _ hlt (by omega) ?_ _ _ hP hD hS ls (lv_sub hl [0, 1, 2, 3, 4] rfl)
          refine zW_iff (fun k hk => ?_) (zW_and hX zW_m1)
          constructor
          · rintro ⟨⟨h1, h2⟩, -⟩
            refine ⟨h1, fun i hi hne => ?_⟩
            by_cases e : i = j
            · rw [e] at hne; exact absurd cb_27 hne
            · exact h2 i (by omega) hne
          · rintro ⟨h1, h2⟩
            exact ⟨⟨h1, fun i hi hne => h2 i (by omega) hne⟩, trivial⟩
  refine loop (an + 1) 0 _ (by omega) (by omega) ?_ _ _ hP hD hS ls (lv_sub hl [0, 1, 2, 3, 4] rfl)
  intro k hk
  unfold zP
  rw [(z_div hk).1, (z_div hk).2]
  exact ⟨fun q => ⟨q, fun i hi => absurd hi (Nat.not_lt_zero i)⟩, fun q => q.1⟩
