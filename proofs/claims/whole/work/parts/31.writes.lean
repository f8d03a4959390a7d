set_option maxHeartbeats 4000000 in
set_option maxRecDepth 100000 in
theorem c_put (l : Launch) (hl9 : l.stackTraces = false) (dC : Nat → ClassId) (dI : Nat → Nat → Nat) (h : Nat) (q1 : Nat) (q2 : Nat) (q3 : Nat) (q4 : Nat) (q5 : Nat) (q6 : Nat) (k1 : ClassId) (k2 : ClassId) (k3 : ClassId) (k4 : ClassId) (k5 : ClassId) (k6 : ClassId) (f1 : Nat → Int32) (f2 : Nat → Int32) (f3 : Nat → Int32) (f4 : Nat → Int32) (f5 : Nat → Int32) (f6 : Nat → Int32) (cc : Nat) (lv : Nat) (ac : Nat) (tc : Nat) (ty : Int32) (tn : Int32) (md : Int32) (p0 : Int32) (sz : Nat) (htc : tc ≤ 18) : vx_Met l yX0_put wsX0_put ({ frames := 6, cells := 1, slots := 6, locals := 100 }) (va_Pc [.ref h, .int p0] (fun U => U.heap.size = sz ∧ va_P (dC, dI) vwCl [yO h q1 q2 q3 q4 q5 q6 (nI cc) (nI lv) (nI ac) (nI tc) ty tn md, (q1, .inl (k1, 419, .inl f1)), (q2, .inl (k2, 419, .inl f2)), (q3, .inl (k3, 41, .inl f3)), (q4, .inl (k4, 18, .inl f4)), (q5, .inl (k5, 18, .inl f5)), (q6, .inl (k6, 18, .inl f6))] U.heap ∧ va_K (dC, dI) vwCl [(k1, .int), (k2, .int), (k3, .int), (k4, .int), (k5, .int), (k6, .int)] U ∧ va_D (fun _ => True) [yO h q1 q2 q3 q4 q5 q6 (nI cc) (nI lv) (nI ac) (nI tc) ty tn md, (q1, .inl (k1, 419, .inl f1)), (q2, .inl (k2, 419, .inl f2)), (q3, .inl (k3, 41, .inl f3)), (q4, .inl (k4, 18, .inl f4)), (q5, .inl (k5, 18, .inl f5)), (q6, .inl (k6, 18, .inl f6))] ∧ yEx (va_A [yO h q1 q2 q3 q4 q5 q6 (nI cc) (nI lv) (nI ac) (nI tc) ty tn md, (q1, .inl (k1, 419, .inl f1)), (q2, .inl (k2, 419, .inl f2)), (q3, .inl (k3, 41, .inl f3)), (q4, .inl (k4, 18, .inl f4)), (q5, .inl (k5, 18, .inl f5)), (q6, .inl (k6, 18, .inl f6))] sz) U U.heap)) (va_Qi (fun (r : Int32) (u : Unit) => yLit p0 ∧ tc < 18 ∧ r = nI (tc + 1)) (fun (u : Unit) (t : State) => va_P (dC, dI) vwCl [yO h q1 q2 q3 q4 q5 q6 (nI cc) (nI lv) (nI ac) (nI (tc + 1)) (ty ||| yYes p0) (tn ||| yNo p0) md, (q1, .inl (k1, 419, .inl f1)), (q2, .inl (k2, 419, .inl f2)), (q3, .inl (k3, 41, .inl f3)), (q4, .inl (k4, 18, .inl f4)), (q5, .inl (k5, 18, .inl f5)), (q6, .inl (k6, 18, .inl f6))] t.heap ∧ va_K (dC, dI) vwCl [(k1, .int), (k2, .int), (k3, .int), (k4, .int), (k5, .int), (k6, .int)] t ∧ va_D (va_A [yO h q1 q2 q3 q4 q5 q6 (nI cc) (nI lv) (nI ac) (nI tc) ty tn md, (q1, .inl (k1, 419, .inl f1)), (q2, .inl (k2, 419, .inl f2)), (q3, .inl (k3, 41, .inl f3)), (q4, .inl (k4, 18, .inl f4)), (q5, .inl (k5, 18, .inl f5)), (q6, .inl (k6, 18, .inl f6))] sz) [yO h q1 q2 q3 q4 q5 q6 (nI cc) (nI lv) (nI ac) (nI (tc + 1)) (ty ||| yYes p0) (tn ||| yNo p0) md, (q1, .inl (k1, 419, .inl f1)), (q2, .inl (k2, 419, .inl f2)), (q3, .inl (k3, 41, .inl f3)), (q4, .inl (k4, 18, .inl f4)), (q5, .inl (k5, 18, .inl f5)), (q6, .inl (k6, 18, .inl f6))]) (va_A [yO h q1 q2 q3 q4 q5 q6 (nI cc) (nI lv) (nI ac) (nI tc) ty tn md, (q1, .inl (k1, 419, .inl f1)), (q2, .inl (k2, 419, .inl f2)), (q3, .inl (k3, 41, .inl f3)), (q4, .inl (k4, 18, .inl f4)), (q5, .inl (k5, 18, .inl f5)), (q6, .inl (k6, 18, .inl f6))] sz)) (vx_X (fun (u : Unit) => True) (fun (E : String) (u : Unit) (t : State) => ((E = "java/lang/IllegalArgumentException" ∧ ¬ yLit p0) ∨ (E = "java/lang/IllegalStateException" ∧ yLit p0 ∧ 18 ≤ tc)) ∧ va_P (dC, dI) vwCl [yO h q1 q2 q3 q4 q5 q6 (nI cc) (nI lv) (nI ac) (nI tc) ty tn md, (q1, .inl (k1, 419, .inl f1)), (q2, .inl (k2, 419, .inl f2)), (q3, .inl (k3, 41, .inl f3)), (q4, .inl (k4, 18, .inl f4)), (q5, .inl (k5, 18, .inl f5)), (q6, .inl (k6, 18, .inl f6))] t.heap ∧ va_K (dC, dI) vwCl [(k1, .int), (k2, .int), (k3, .int), (k4, .int), (k5, .int), (k6, .int)] t ∧ va_D (va_A [yO h q1 q2 q3 q4 q5 q6 (nI cc) (nI lv) (nI ac) (nI tc) ty tn md, (q1, .inl (k1, 419, .inl f1)), (q2, .inl (k2, 419, .inl f2)), (q3, .inl (k3, 41, .inl f3)), (q4, .inl (k4, 18, .inl f4)), (q5, .inl (k5, 18, .inl f5)), (q6, .inl (k6, 18, .inl f6))] sz) [yO h q1 q2 q3 q4 q5 q6 (nI cc) (nI lv) (nI ac) (nI tc) ty tn md, (q1, .inl (k1, 419, .inl f1)), (q2, .inl (k2, 419, .inl f2)), (q3, .inl (k3, 41, .inl f3)), (q4, .inl (k4, 18, .inl f4)), (q5, .inl (k5, 18, .inl f5)), (q6, .inl (k6, 18, .inl f6))]) (va_A [yO h q1 q2 q3 q4 q5 q6 (nI cc) (nI lv) (nI ac) (nI tc) ty tn md, (q1, .inl (k1, 419, .inl f1)), (q2, .inl (k2, 419, .inl f2)), (q3, .inl (k3, 41, .inl f3)), (q4, .inl (k4, 18, .inl f4)), (q5, .inl (k5, 18, .inl f5)), (q6, .inl (k6, 18, .inl f6))] sz)) 1 6 (va_A [yO h q1 q2 q3 q4 q5 q6 (nI cc) (nI lv) (nI ac) (nI tc) ty tn md, (q1, .inl (k1, 419, .inl f1)), (q2, .inl (k2, 419, .inl f2)), (q3, .inl (k3, 41, .inl f3)), (q4, .inl (k4, 18, .inl f4)), (q5, .inl (k5, 18, .inl f5)), (q6, .inl (k6, 18, .inl f6))] sz) := by
  refine vx_ofW (cc := cX0_put) (maxL := 2) (ret := (some .int)) (by decide) rfl ?_
  intro p e s m args below meth c s₁ B hml hEx hv
  obtain ⟨rfl, hsz, hP, hK, hD0, hEX⟩ := hv
  have hx := B.exec
  have hb := B.bytes
  have hr := B.returns
  have hts := atoms_spec (ws := wsX0_put) B.pre
  have htA : ∀ w ∈ wsA, w.before _ s = true := fun w h => hts w (List.mem_cons_of_mem _ h)
  have hown : s.vm.findClass RX0 = some m.cls := findClass_of_methodNamed B.named
  have hlocks := B.notSynchronized
  subst hsz
  have hD := hD0.self (sz := s.heap.size)
  generalize hAe : va_A [yO h q1 q2 q3 q4 q5 q6 (nI cc) (nI lv) (nI ac) (nI tc) ty tn md, (q1, .inl (k1, 419, .inl f1)), (q2, .inl (k2, 419, .inl f2)), (q3, .inl (k3, 41, .inl f3)), (q4, .inl (k4, 18, .inl f4)), (q5, .inl (k5, 18, .inl f5)), (q6, .inl (k6, 18, .inl f6))] s.heap.size = A at hD hEX ⊢
  have hA : ∀ q : Nat, s.heap.size ≤ q → A q := fun q h => by rw [← hAe]; exact Or.inr h
  have hS : va_S A s.heap s.heap [] := va_S.rf
  have hP : va_P (dC, dI) vwCl [yO h q1 q2 q3 q4 q5 q6 (nI cc) (nI lv) (nI ac) (nI tc) ty tn md, (q1, .inl (k1, 419, .inl f1)), (q2, .inl (k2, 419, .inl f2)), (q3, .inl (k3, 41, .inl f3)), (q4, .inl (k4, 18, .inl f4)), (q5, .inl (k5, 18, .inl f5)), (q6, .inl (k6, 18, .inl f6))] s.heap := hP
  have hl := lv_entry ([.ref h, .int p0]) (n := 2) (Nat.le_of_ble_eq_true rfl)
  rw [lg_entry_eq]
  generalize (lg_sl ([.ref h, .int p0]) ++ List.replicate (2 - (lg_sl ([.ref h, .int p0])).length) Slot.unset).toArray = ls at hl ⊢
  have hl : lv_has ls 2 [(0, .ref h), (1, .int p0)] := hl
  refine lv_iload_n hx hb dX0_put_0 rfl (lv_at hl 1 rfl) ?_
  have hPc := hP.sub (ws' := []) [] rfl
  have hDc := hD.sub (ws' := []) [] (by decide) rfl
  have hKc := hK.sub (tys' := []) [] rfl
  have hFc := va_free (wc := []) hD hS hA [] rfl
  refine va_calli (va_runS (As := [.int p0]) (rest := []) ⟨hx, hb, hml, hown, htA⟩ (c_isLiteral l dC dI p0 s.heap.size) (va_cwS 1 htA gX0_32 rfl rfl rfl (by decide +kernel) ⟨Nat.le_of_ble_eq_true rfl, Nat.le_of_ble_eq_true rfl⟩) ⟨fun a U g mk q => by obtain ⟨q0, q1, qP, qK, qD⟩ := q; exact ⟨q0, q1, qP, va_K.moved (u := U) (U := U.calling g mk a) (Vm.Alike.refl U.vm) qK, qD⟩, fun U hU hW => ⟨rfl, by rw [hU], by rw [hU]; exact hPc, va_K.moved hW.alike hKc, hDc.weaken (fun _ _ _ _ => trivial)⟩⟩ rfl rfl hl.1 rfl (lv_room (Nat.le_of_ble_eq_true rfl)) dX0_put_1 ⟨Nat.zero_le _, Nat.zero_le _⟩) hS (fun q _ h => hFc q h) hFc (fun rl u t H1 locs ht hvm hw hB hz1 hk1 hS => ?_)
  obtain ⟨hP1, hK1, hD1⟩ := hB
  rw [ht] at hP1
  try dsimp only at hw hP1 hD1
  obtain ⟨hP, hD⟩ := va_join (wr := [yO h q1 q2 q3 q4 q5 q6 (nI cc) (nI lv) (nI ac) (nI tc) ty tn md, (q1, .inl (k1, 419, .inl f1)), (q2, .inl (k2, 419, .inl f2)), (q3, .inl (k3, 41, .inl f3)), (q4, .inl (k4, 18, .inl f4)), (q5, .inl (k5, 18, .inl f5)), (q6, .inl (k6, 18, .inl f6))]) (w1 := []) hP hD [] [0, 1, 2, 3, 4, 5, 6] rfl rfl (by decide) (by decide) hk1 hFc hP1 hD1
  generalize H1 = H at hP hS ⊢
  have hP : va_P (dC, dI) vwCl [yO h q1 q2 q3 q4 q5 q6 (nI cc) (nI lv) (nI ac) (nI tc) ty tn md, (q1, .inl (k1, 419, .inl f1)), (q2, .inl (k2, 419, .inl f2)), (q3, .inl (k3, 41, .inl f3)), (q4, .inl (k4, 18, .inl f4)), (q5, .inl (k5, 18, .inl f5)), (q6, .inl (k6, 18, .inl f6))] H := hP.sub [0, 1, 2, 3, 4, 5, 6] rfl
  have hD : va_D A [yO h q1 q2 q3 q4 q5 q6 (nI cc) (nI lv) (nI ac) (nI tc) ty tn md, (q1, .inl (k1, 419, .inl f1)), (q2, .inl (k2, 419, .inl f2)), (q3, .inl (k3, 41, .inl f3)), (q4, .inl (k4, 18, .inl f4)), (q5, .inl (k5, 18, .inl f5)), (q6, .inl (k6, 18, .inl f6))] := hD.sub [0, 1, 2, 3, 4, 5, 6] (by decide) rfl
  rcases hw with ⟨rfl, hl1⟩ | ⟨rfl, hl1⟩
  · refine lv_if_ne (tgt := 17) hx hb dX0_put_4 (by decide) (fun cb_30 => ?_) (fun cb_30 => ?_)
    · refine lv_aload_n hx hb dX0_put_17 rfl (lv_at hl 0 rfl) ?_
      refine va_get (D := (dC, dI)) (ci := 0) (v := .int (nI tc)) (C := RX0) (T := TX0) (N := 13) hx hb htA inX0 hown hK hP 0 rfl rfl 9 (by decide) (htA _ lkX0_43) (fun _ h9 => h9) rfl dX0_put_18 ?_
      refine lv_bipush (v := 18) hx hb dX0_put_21 (by decide) ?_
      refine lv_icmp_lt (tgt := 36) hx hb dX0_put_23 (by decide) (fun cb_32 => ?_) (fun cb_32 => ?_)
      · have h18 : tc < 18 := by
          rcases Nat.lt_or_ge tc 18 with q | q
          · exact q
          · exact absurd cb_32 (nI_nlt q (by omega))
        refine lv_aload_n hx hb dX0_put_36 rfl (lv_at hl 0 rfl) ?_
        refine lv_dup hx hb dX0_put_37 rfl ?_
        refine va_get (D := (dC, dI)) (ci := 0) (v := .int ty) (C := RX0) (T := TX0) (N := 13) hx hb htA inX0 hown hK hP 0 rfl rfl 10 (by decide) (htA _ lkX0_51) (fun _ h9 => h9) rfl dX0_put_38 ?_
        refine lv_iload_n hx hb dX0_put_41 rfl (lv_at hl 1 rfl) ?_
        have hPc := hP.sub (ws' := []) [] rfl
        have hDc := hD.sub (ws' := []) [] (by decide) rfl
        have hKc := hK.sub (tys' := []) [] rfl
        have hFc := va_free (wc := []) hD hS hA [] rfl
        refine va_calli (va_runS (As := [.int p0]) (rest := [.int ty, .ref h]) ⟨hx, hb, hml, hown, htA⟩ (c_yesMask l dC dI p0 H.size) (va_cwS 1 htA gX0_54 rfl rfl rfl (by decide +kernel) ⟨Nat.le_of_ble_eq_true rfl, Nat.le_of_ble_eq_true rfl⟩) ⟨fun a U g mk q => by obtain ⟨q0, q1, qP, qK, qD⟩ := q; exact ⟨q0, q1, qP, va_K.moved (u := U) (U := U.calling g mk a) (Vm.Alike.refl U.vm) qK, qD⟩, fun U hU hW => ⟨rfl, by rw [hU], by rw [hU]; exact hPc, va_K.moved hW.alike hKc, hDc.weaken (fun _ _ _ _ => trivial)⟩⟩ rfl rfl hl.1 rfl (lv_room (Nat.le_of_ble_eq_true rfl)) dX0_put_42 ⟨Nat.zero_le _, Nat.zero_le _⟩) hS (fun q _ h => hFc q h) hFc (fun ry u t H1 locs ht hvm hw hB hz1 hk1 hS => ?_)
        obtain ⟨hP1, hK1, hD1⟩ := hB
        rw [ht] at hP1
        try dsimp only at hw hP1 hD1
        obtain ⟨hP, hD⟩ := va_join (wr := [yO h q1 q2 q3 q4 q5 q6 (nI cc) (nI lv) (nI ac) (nI tc) ty tn md, (q1, .inl (k1, 419, .inl f1)), (q2, .inl (k2, 419, .inl f2)), (q3, .inl (k3, 41, .inl f3)), (q4, .inl (k4, 18, .inl f4)), (q5, .inl (k5, 18, .inl f5)), (q6, .inl (k6, 18, .inl f6))]) (w1 := []) hP hD [] [0, 1, 2, 3, 4, 5, 6] rfl rfl (by decide) (by decide) hk1 hFc hP1 hD1
        generalize H1 = H at hP hS ⊢
        have hP : va_P (dC, dI) vwCl [yO h q1 q2 q3 q4 q5 q6 (nI cc) (nI lv) (nI ac) (nI tc) ty tn md, (q1, .inl (k1, 419, .inl f1)), (q2, .inl (k2, 419, .inl f2)), (q3, .inl (k3, 41, .inl f3)), (q4, .inl (k4, 18, .inl f4)), (q5, .inl (k5, 18, .inl f5)), (q6, .inl (k6, 18, .inl f6))] H := hP.sub [0, 1, 2, 3, 4, 5, 6] rfl
        have hD : va_D A [yO h q1 q2 q3 q4 q5 q6 (nI cc) (nI lv) (nI ac) (nI tc) ty tn md, (q1, .inl (k1, 419, .inl f1)), (q2, .inl (k2, 419, .inl f2)), (q3, .inl (k3, 41, .inl f3)), (q4, .inl (k4, 18, .inl f4)), (q5, .inl (k5, 18, .inl f5)), (q6, .inl (k6, 18, .inl f6))] := hD.sub [0, 1, 2, 3, 4, 5, 6] (by decide) rfl
        obtain rfl := hw
        refine lv_ior hx hb dX0_put_45 ?_
        refine va_put (D := (dC, dI)) (ci := 0) (v := .int (ty ||| (yYes p0))) (ty := .int) (C := RX0) (T := TX0) (N := 13) hx hb htA inX0 tyX0 tyX0_ok nX0 hown hK hP hD hS 0 rfl rfl 10 (by decide) (htA _ lkX0_51) (fun _ h9 => h9) rfl (by decide +kernel) rfl rfl (Nat.le_of_ble_eq_true rfl) dX0_put_46 (fun H locs hP hD hS => ?_)
        have hP : va_P (dC, dI) vwCl [yO h q1 q2 q3 q4 q5 q6 (nI cc) (nI lv) (nI ac) (nI tc) (ty ||| (yYes p0)) tn md, (q1, .inl (k1, 419, .inl f1)), (q2, .inl (k2, 419, .inl f2)), (q3, .inl (k3, 41, .inl f3)), (q4, .inl (k4, 18, .inl f4)), (q5, .inl (k5, 18, .inl f5)), (q6, .inl (k6, 18, .inl f6))] H := hP
        have hD : va_D A [yO h q1 q2 q3 q4 q5 q6 (nI cc) (nI lv) (nI ac) (nI tc) (ty ||| (yYes p0)) tn md, (q1, .inl (k1, 419, .inl f1)), (q2, .inl (k2, 419, .inl f2)), (q3, .inl (k3, 41, .inl f3)), (q4, .inl (k4, 18, .inl f4)), (q5, .inl (k5, 18, .inl f5)), (q6, .inl (k6, 18, .inl f6))] := hD
        refine lv_aload_n hx hb dX0_put_49 rfl (lv_at hl 0 rfl) ?_
        refine lv_dup hx hb dX0_put_50 rfl ?_
        refine va_get (D := (dC, dI)) (ci := 0) (v := .int tn) (C := RX0) (T := TX0) (N := 13) hx hb htA inX0 hown hK hP 0 rfl rfl 11 (by decide) (htA _ lkX0_58) (fun _ h9 => h9) rfl dX0_put_51 ?_
        refine lv_iload_n hx hb dX0_put_54 rfl (lv_at hl 1 rfl) ?_
        have hPc := hP.sub (ws' := []) [] rfl
        have hDc := hD.sub (ws' := []) [] (by decide) rfl
        have hKc := hK.sub (tys' := []) [] rfl
        have hFc := va_free (wc := []) hD hS hA [] rfl
        refine va_calli (va_runS (As := [.int p0]) (rest := [.int tn, .ref h]) ⟨hx, hb, hml, hown, htA⟩ (c_noMask l dC dI p0 H.size) (va_cwS 1 htA gX0_61 rfl rfl rfl (by decide +kernel) ⟨Nat.le_of_ble_eq_true rfl, Nat.le_of_ble_eq_true rfl⟩) ⟨fun a U g mk q => by obtain ⟨q0, q1, qP, qK, qD⟩ := q; exact ⟨q0, q1, qP, va_K.moved (u := U) (U := U.calling g mk a) (Vm.Alike.refl U.vm) qK, qD⟩, fun U hU hW => ⟨rfl, by rw [hU], by rw [hU]; exact hPc, va_K.moved hW.alike hKc, hDc.weaken (fun _ _ _ _ => trivial)⟩⟩ rfl rfl hl.1 rfl (lv_room (Nat.le_of_ble_eq_true rfl)) dX0_put_55 ⟨Nat.zero_le _, Nat.zero_le _⟩) hS (fun q _ h => hFc q h) hFc (fun rn u t H1 locs ht hvm hw hB hz1 hk1 hS => ?_)
        obtain ⟨hP1, hK1, hD1⟩ := hB
        rw [ht] at hP1
        try dsimp only at hw hP1 hD1
        obtain ⟨hP, hD⟩ := va_join (wr := [yO h q1 q2 q3 q4 q5 q6 (nI cc) (nI lv) (nI ac) (nI tc) (ty ||| (yYes p0)) tn md, (q1, .inl (k1, 419, .inl f1)), (q2, .inl (k2, 419, .inl f2)), (q3, .inl (k3, 41, .inl f3)), (q4, .inl (k4, 18, .inl f4)), (q5, .inl (k5, 18, .inl f5)), (q6, .inl (k6, 18, .inl f6))]) (w1 := []) hP hD [] [0, 1, 2, 3, 4, 5, 6] rfl rfl (by decide) (by decide) hk1 hFc hP1 hD1
        generalize H1 = H at hP hS ⊢
        have hP : va_P (dC, dI) vwCl [yO h q1 q2 q3 q4 q5 q6 (nI cc) (nI lv) (nI ac) (nI tc) (ty ||| (yYes p0)) tn md, (q1, .inl (k1, 419, .inl f1)), (q2, .inl (k2, 419, .inl f2)), (q3, .inl (k3, 41, .inl f3)), (q4, .inl (k4, 18, .inl f4)), (q5, .inl (k5, 18, .inl f5)), (q6, .inl (k6, 18, .inl f6))] H := hP.sub [0, 1, 2, 3, 4, 5, 6] rfl
        have hD : va_D A [yO h q1 q2 q3 q4 q5 q6 (nI cc) (nI lv) (nI ac) (nI tc) (ty ||| (yYes p0)) tn md, (q1, .inl (k1, 419, .inl f1)), (q2, .inl (k2, 419, .inl f2)), (q3, .inl (k3, 41, .inl f3)), (q4, .inl (k4, 18, .inl f4)), (q5, .inl (k5, 18, .inl f5)), (q6, .inl (k6, 18, .inl f6))] := hD.sub [0, 1, 2, 3, 4, 5, 6] (by decide) rfl
        obtain rfl := hw
        refine lv_ior hx hb dX0_put_58 ?_
        refine va_put (D := (dC, dI)) (ci := 0) (v := .int (tn ||| (yNo p0))) (ty := .int) (C := RX0) (T := TX0) (N := 13) hx hb htA inX0 tyX0 tyX0_ok nX0 hown hK hP hD hS 0 rfl rfl 11 (by decide) (htA _ lkX0_58) (fun _ h9 => h9) rfl (by decide +kernel) rfl rfl (Nat.le_of_ble_eq_true rfl) dX0_put_59 (fun H locs hP hD hS => ?_)
        have hP : va_P (dC, dI) vwCl [yO h q1 q2 q3 q4 q5 q6 (nI cc) (nI lv) (nI ac) (nI tc) (ty ||| (yYes p0)) (tn ||| (yNo p0)) md, (q1, .inl (k1, 419, .inl f1)), (q2, .inl (k2, 419, .inl f2)), (q3, .inl (k3, 41, .inl f3)), (q4, .inl (k4, 18, .inl f4)), (q5, .inl (k5, 18, .inl f5)), (q6, .inl (k6, 18, .inl f6))] H := hP
        have hD : va_D A [yO h q1 q2 q3 q4 q5 q6 (nI cc) (nI lv) (nI ac) (nI tc) (ty ||| (yYes p0)) (tn ||| (yNo p0)) md, (q1, .inl (k1, 419, .inl f1)), (q2, .inl (k2, 419, .inl f2)), (q3, .inl (k3, 41, .inl f3)), (q4, .inl (k4, 18, .inl f4)), (q5, .inl (k5, 18, .inl f5)), (q6, .inl (k6, 18, .inl f6))] := hD
        refine lv_aload_n hx hb dX0_put_62 rfl (lv_at hl 0 rfl) ?_
        refine lv_dup hx hb dX0_put_63 rfl ?_
        refine va_get (D := (dC, dI)) (ci := 0) (v := .int (nI tc)) (C := RX0) (T := TX0) (N := 13) hx hb htA inX0 hown hK hP 0 rfl rfl 9 (by decide) (htA _ lkX0_43) (fun _ h9 => h9) rfl dX0_put_64 ?_
        refine lv_iconst (v := 1) hx hb dX0_put_67 (by decide) ?_
        refine lv_iadd hx hb dX0_put_68 ?_
        refine W.eq (g2 := F0 m 69 ls [.int (nI (tc + 1)), .ref h]) (by rw [nI_1]) ?_
        refine va_put (D := (dC, dI)) (ci := 0) (v := .int (nI (tc + 1))) (ty := .int) (C := RX0) (T := TX0) (N := 13) hx hb htA inX0 tyX0 tyX0_ok nX0 hown hK hP hD hS 0 rfl rfl 9 (by decide) (htA _ lkX0_43) (fun _ h9 => h9) rfl (by decide +kernel) rfl rfl (Nat.le_of_ble_eq_true rfl) dX0_put_69 (fun H locs hP hD hS => ?_)
        have hP : va_P (dC, dI) vwCl [yO h q1 q2 q3 q4 q5 q6 (nI cc) (nI lv) (nI ac) (nI (tc + 1)) (ty ||| (yYes p0)) (tn ||| (yNo p0)) md, (q1, .inl (k1, 419, .inl f1)), (q2, .inl (k2, 419, .inl f2)), (q3, .inl (k3, 41, .inl f3)), (q4, .inl (k4, 18, .inl f4)), (q5, .inl (k5, 18, .inl f5)), (q6, .inl (k6, 18, .inl f6))] H := hP
        have hD : va_D A [yO h q1 q2 q3 q4 q5 q6 (nI cc) (nI lv) (nI ac) (nI (tc + 1)) (ty ||| (yYes p0)) (tn ||| (yNo p0)) md, (q1, .inl (k1, 419, .inl f1)), (q2, .inl (k2, 419, .inl f2)), (q3, .inl (k3, 41, .inl f3)), (q4, .inl (k4, 18, .inl f4)), (q5, .inl (k5, 18, .inl f5)), (q6, .inl (k6, 18, .inl f6))] := hD
        refine lv_aload_n hx hb dX0_put_72 rfl (lv_at hl 0 rfl) ?_
        refine va_get (D := (dC, dI)) (ci := 0) (v := .int (nI (tc + 1))) (C := RX0) (T := TX0) (N := 13) hx hb htA inX0 hown hK hP 0 rfl rfl 9 (by decide) (htA _ lkX0_43) (fun _ h9 => h9) rfl dX0_put_73 ?_
        refine W.widen (k := 1) (n := 6) (by omega) (by omega) ?_
        refine vx_ret ?_
        exact W.iret (v := nI (tc + 1)) hx hb hr (fun t ht hW => ⟨⟨nI (tc + 1), (), rfl, ⟨hl1, h18, rfl⟩, by rw [ht]; exact hP, va_K.moved hW.alike hK, hD⟩, hS.F ht⟩) hS.2.2 dX0_put_76
      · have h18 : 18 ≤ tc := by
          rcases Nat.lt_or_ge tc 18 with q | q
          · exact absurd (nI_lt q (by omega)) cb_32
          · exact q
        obtain ⟨sa9, hstr⟩ := hEX.2.2.2 (48, "the tape is full") (by decide)
        exact vx_throwS (own := RX0) (cls := "java/lang/IllegalStateException") (text := "the tape is full") (names := ["java/lang/RuntimeException", "java/lang/Exception"]) hx hb hl9 hown (by decide +kernel) (by decide +kernel) (htA _ lkX0_46) (htA _ ini_IllegalStateException) hstr (vx_hat (L := vx_atS RX0 50 "java/lang/IllegalStateException" ["java/lang/RuntimeException", "java/lang/Exception"]) (B := [.castable "java/lang/IllegalStateException" "java/lang/IllegalStateException", .declares ⟨"java/lang/RuntimeException", "<init>", "(Ljava/lang/String;)V"⟩, .declares ⟨"java/lang/Exception", "<init>", "(Ljava/lang/String;)V"⟩, .declares ⟨"java/lang/Throwable", "<init>", "(Ljava/lang/String;)V"⟩]) (fun w hw => htA w (at_ISE w hw)) (by decide +kernel) (vx_c (va_Nw.use rfl (hEX.2.2.1 (.castable "java/lang/IllegalStateException" "java/lang/IllegalStateException") (by decide +kernel))) (vx_c (va_Nw.use rfl (hEX.2.2.1 (.declares ⟨"java/lang/RuntimeException", "<init>", "(Ljava/lang/String;)V"⟩) (by decide +kernel))) (vx_c (va_Nw.use rfl (hEX.2.2.1 (.declares ⟨"java/lang/Exception", "<init>", "(Ljava/lang/String;)V"⟩) (by decide +kernel))) (vx_c (va_Nw.use rfl (hEX.2.2.1 (.declares ⟨"java/lang/Throwable", "<init>", "(Ljava/lang/String;)V"⟩) (by decide +kernel))) (vx_n)))))) (by decide +kernel) hEX.1 hEX.2.1 hS (hl.1.trans hml.symm) dX0_put_26 dX0_put_29 dX0_put_30 dX0_put_32 dX0_put_35 (fun x hx => (hEx x hx).elim) (Nat.le_of_ble_eq_true rfl) (Nat.le_of_ble_eq_true rfl) (Nat.le_of_ble_eq_true rfl) (Nat.le_of_ble_eq_true rfl) hlocks (fun t ha hsz hk => ⟨(), trivial, ⟨Or.inr ⟨rfl, hl1, h18⟩, hP.kept (fun k q hq => hk q.1 (hP k q hq).lt), va_K.moved ha hK, hD⟩, Nat.le_trans hS.1 hsz, fun q h1 h2 => (hk q (Nat.lt_of_lt_of_le h1 hS.1)).trans (hS.2.1 q h1 h2)⟩) hS.2.2 (Nat.le_of_ble_eq_true rfl) (Nat.le_of_ble_eq_true rfl)
    · exact absurd cb_30 (by decide)
  · refine lv_if_ne (tgt := 17) hx hb dX0_put_4 (by decide) (fun cb_31 => ?_) (fun cb_31 => ?_)
    · exact absurd rfl cb_31
    · obtain ⟨sa9, hstr⟩ := hEX.2.2.2 (38, "no literal") (by decide)
      exact vx_throwS (own := RX0) (cls := "java/lang/IllegalArgumentException") (text := "no literal") (names := ["java/lang/RuntimeException", "java/lang/Exception"]) hx hb hl9 hown (by decide +kernel) (by decide +kernel) (htA _ lkX0_36) (htA _ ini_IllegalArgumentException) hstr (vx_hat (L := vx_atS RX0 40 "java/lang/IllegalArgumentException" ["java/lang/RuntimeException", "java/lang/Exception"]) (B := [.castable "java/lang/IllegalArgumentException" "java/lang/IllegalArgumentException", .declares ⟨"java/lang/RuntimeException", "<init>", "(Ljava/lang/String;)V"⟩, .declares ⟨"java/lang/Exception", "<init>", "(Ljava/lang/String;)V"⟩, .declares ⟨"java/lang/Throwable", "<init>", "(Ljava/lang/String;)V"⟩]) (fun w hw => htA w (at_IAE w hw)) (by decide +kernel) (vx_c (va_Nw.use rfl (hEX.2.2.1 (.castable "java/lang/IllegalArgumentException" "java/lang/IllegalArgumentException") (by decide +kernel))) (vx_c (va_Nw.use rfl (hEX.2.2.1 (.declares ⟨"java/lang/RuntimeException", "<init>", "(Ljava/lang/String;)V"⟩) (by decide +kernel))) (vx_c (va_Nw.use rfl (hEX.2.2.1 (.declares ⟨"java/lang/Exception", "<init>", "(Ljava/lang/String;)V"⟩) (by decide +kernel))) (vx_c (va_Nw.use rfl (hEX.2.2.1 (.declares ⟨"java/lang/Throwable", "<init>", "(Ljava/lang/String;)V"⟩) (by decide +kernel))) (vx_n)))))) (by decide +kernel) hEX.1 hEX.2.1 hS (hl.1.trans hml.symm) dX0_put_7 dX0_put_10 dX0_put_11 dX0_put_13 dX0_put_16 (fun x hx => (hEx x hx).elim) (Nat.le_of_ble_eq_true rfl) (Nat.le_of_ble_eq_true rfl) (Nat.le_of_ble_eq_true rfl) (Nat.le_of_ble_eq_true rfl) hlocks (fun t ha hsz hk => ⟨(), trivial, ⟨Or.inl ⟨rfl, hl1⟩, hP.kept (fun k q hq => hk q.1 (hP k q hq).lt), va_K.moved ha hK, hD⟩, Nat.le_trans hS.1 hsz, fun q h1 h2 => (hk q (Nat.lt_of_lt_of_le h1 hS.1)).trans (hS.2.1 q h1 h2)⟩) hS.2.2 (Nat.le_of_ble_eq_true rfl) (Nat.le_of_ble_eq_true rfl)
set_option maxHeartbeats 4000000 in
set_option maxRecDepth 100000 in
theorem c_add (l : Launch) (hl9 : l.stackTraces = false) (dC : Nat → ClassId) (dI : Nat → Nat → Nat) (h : Nat) (q1 : Nat) (q2 : Nat) (q3 : Nat) (q4 : Nat) (q5 : Nat) (q6 : Nat) (k1 : ClassId) (k2 : ClassId) (k3 : ClassId) (k4 : ClassId) (k5 : ClassId) (k6 : ClassId) (f1 : Nat → Int32) (f2 : Nat → Int32) (f3 : Nat → Int32) (f4 : Nat → Int32) (f5 : Nat → Int32) (f6 : Nat → Int32) (cc : Nat) (lv : Nat) (ac : Nat) (tc : Nat) (ty : Int32) (tn : Int32) (md : Int32) (sz : Nat) (hcc : cc ≤ 400) : vx_Met l yX0_add wsX0_add ({ frames := 6, cells := 1, slots := 6, locals := 100 }) (va_Pc [.ref h] (fun U => U.heap.size = sz ∧ va_P (dC, dI) vwCl [yO h q1 q2 q3 q4 q5 q6 (nI cc) (nI lv) (nI ac) (nI tc) ty tn md, (q1, .inl (k1, 419, .inl f1)), (q2, .inl (k2, 419, .inl f2)), (q3, .inl (k3, 41, .inl f3)), (q4, .inl (k4, 18, .inl f4)), (q5, .inl (k5, 18, .inl f5)), (q6, .inl (k6, 18, .inl f6))] U.heap ∧ va_K (dC, dI) vwCl [(k1, .int), (k2, .int), (k3, .int), (k4, .int), (k5, .int), (k6, .int)] U ∧ va_D (fun _ => True) [yO h q1 q2 q3 q4 q5 q6 (nI cc) (nI lv) (nI ac) (nI tc) ty tn md, (q1, .inl (k1, 419, .inl f1)), (q2, .inl (k2, 419, .inl f2)), (q3, .inl (k3, 41, .inl f3)), (q4, .inl (k4, 18, .inl f4)), (q5, .inl (k5, 18, .inl f5)), (q6, .inl (k6, 18, .inl f6))] ∧ yEx (va_A [yO h q1 q2 q3 q4 q5 q6 (nI cc) (nI lv) (nI ac) (nI tc) ty tn md, (q1, .inl (k1, 419, .inl f1)), (q2, .inl (k2, 419, .inl f2)), (q3, .inl (k3, 41, .inl f3)), (q4, .inl (k4, 18, .inl f4)), (q5, .inl (k5, 18, .inl f5)), (q6, .inl (k6, 18, .inl f6))] sz) U U.heap)) (va_Qi (fun (r : Int32) (u : Unit) => cc < 400 ∧ r = nI (cc + 1)) (fun (u : Unit) (t : State) => va_P (dC, dI) vwCl [yO h q1 q2 q3 q4 q5 q6 (nI (cc + 1)) (nI lv) (nI ac) 0 0 0 (-1), (q1, .inl (k1, 419, .inl (upd f1 cc ty))), (q2, .inl (k2, 419, .inl (upd f2 cc tn))), (q3, .inl (k3, 41, .inl f3)), (q4, .inl (k4, 18, .inl f4)), (q5, .inl (k5, 18, .inl f5)), (q6, .inl (k6, 18, .inl f6))] t.heap ∧ va_K (dC, dI) vwCl [(k1, .int), (k2, .int), (k3, .int), (k4, .int), (k5, .int), (k6, .int)] t ∧ va_D (va_A [yO h q1 q2 q3 q4 q5 q6 (nI cc) (nI lv) (nI ac) (nI tc) ty tn md, (q1, .inl (k1, 419, .inl f1)), (q2, .inl (k2, 419, .inl f2)), (q3, .inl (k3, 41, .inl f3)), (q4, .inl (k4, 18, .inl f4)), (q5, .inl (k5, 18, .inl f5)), (q6, .inl (k6, 18, .inl f6))] sz) [yO h q1 q2 q3 q4 q5 q6 (nI (cc + 1)) (nI lv) (nI ac) 0 0 0 (-1), (q1, .inl (k1, 419, .inl (upd f1 cc ty))), (q2, .inl (k2, 419, .inl (upd f2 cc tn))), (q3, .inl (k3, 41, .inl f3)), (q4, .inl (k4, 18, .inl f4)), (q5, .inl (k5, 18, .inl f5)), (q6, .inl (k6, 18, .inl f6))]) (va_A [yO h q1 q2 q3 q4 q5 q6 (nI cc) (nI lv) (nI ac) (nI tc) ty tn md, (q1, .inl (k1, 419, .inl f1)), (q2, .inl (k2, 419, .inl f2)), (q3, .inl (k3, 41, .inl f3)), (q4, .inl (k4, 18, .inl f4)), (q5, .inl (k5, 18, .inl f5)), (q6, .inl (k6, 18, .inl f6))] sz)) (vx_X (fun (u : Unit) => True) (fun (E : String) (u : Unit) (t : State) => (E = "java/lang/IllegalStateException" ∧ 400 ≤ cc) ∧ va_P (dC, dI) vwCl [yO h q1 q2 q3 q4 q5 q6 (nI cc) (nI lv) (nI ac) (nI tc) ty tn md, (q1, .inl (k1, 419, .inl f1)), (q2, .inl (k2, 419, .inl f2)), (q3, .inl (k3, 41, .inl f3)), (q4, .inl (k4, 18, .inl f4)), (q5, .inl (k5, 18, .inl f5)), (q6, .inl (k6, 18, .inl f6))] t.heap ∧ va_K (dC, dI) vwCl [(k1, .int), (k2, .int), (k3, .int), (k4, .int), (k5, .int), (k6, .int)] t ∧ va_D (va_A [yO h q1 q2 q3 q4 q5 q6 (nI cc) (nI lv) (nI ac) (nI tc) ty tn md, (q1, .inl (k1, 419, .inl f1)), (q2, .inl (k2, 419, .inl f2)), (q3, .inl (k3, 41, .inl f3)), (q4, .inl (k4, 18, .inl f4)), (q5, .inl (k5, 18, .inl f5)), (q6, .inl (k6, 18, .inl f6))] sz) [yO h q1 q2 q3 q4 q5 q6 (nI cc) (nI lv) (nI ac) (nI tc) ty tn md, (q1, .inl (k1, 419, .inl f1)), (q2, .inl (k2, 419, .inl f2)), (q3, .inl (k3, 41, .inl f3)), (q4, .inl (k4, 18, .inl f4)), (q5, .inl (k5, 18, .inl f5)), (q6, .inl (k6, 18, .inl f6))]) (va_A [yO h q1 q2 q3 q4 q5 q6 (nI cc) (nI lv) (nI ac) (nI tc) ty tn md, (q1, .inl (k1, 419, .inl f1)), (q2, .inl (k2, 419, .inl f2)), (q3, .inl (k3, 41, .inl f3)), (q4, .inl (k4, 18, .inl f4)), (q5, .inl (k5, 18, .inl f5)), (q6, .inl (k6, 18, .inl f6))] sz)) 1 6 (va_A [yO h q1 q2 q3 q4 q5 q6 (nI cc) (nI lv) (nI ac) (nI tc) ty tn md, (q1, .inl (k1, 419, .inl f1)), (q2, .inl (k2, 419, .inl f2)), (q3, .inl (k3, 41, .inl f3)), (q4, .inl (k4, 18, .inl f4)), (q5, .inl (k5, 18, .inl f5)), (q6, .inl (k6, 18, .inl f6))] sz) := by
  refine vx_ofW (cc := cX0_add) (maxL := 1) (ret := (some .int)) (by decide) rfl ?_
  intro p e s m args below meth c s₁ B hml hEx hv
  obtain ⟨rfl, hsz, hP, hK, hD0, hEX⟩ := hv
  have hx := B.exec
  have hb := B.bytes
  have hr := B.returns
  have hts := atoms_spec (ws := wsX0_add) B.pre
  have htA : ∀ w ∈ wsA, w.before _ s = true := fun w h => hts w (List.mem_cons_of_mem _ h)
  have hown : s.vm.findClass RX0 = some m.cls := findClass_of_methodNamed B.named
  have hlocks := B.notSynchronized
  subst hsz
  have hD := hD0.self (sz := s.heap.size)
  generalize hAe : va_A [yO h q1 q2 q3 q4 q5 q6 (nI cc) (nI lv) (nI ac) (nI tc) ty tn md, (q1, .inl (k1, 419, .inl f1)), (q2, .inl (k2, 419, .inl f2)), (q3, .inl (k3, 41, .inl f3)), (q4, .inl (k4, 18, .inl f4)), (q5, .inl (k5, 18, .inl f5)), (q6, .inl (k6, 18, .inl f6))] s.heap.size = A at hD hEX ⊢
  have hA : ∀ q : Nat, s.heap.size ≤ q → A q := fun q h => by rw [← hAe]; exact Or.inr h
  have hS : va_S A s.heap s.heap [] := va_S.rf
  have hP : va_P (dC, dI) vwCl [yO h q1 q2 q3 q4 q5 q6 (nI cc) (nI lv) (nI ac) (nI tc) ty tn md, (q1, .inl (k1, 419, .inl f1)), (q2, .inl (k2, 419, .inl f2)), (q3, .inl (k3, 41, .inl f3)), (q4, .inl (k4, 18, .inl f4)), (q5, .inl (k5, 18, .inl f5)), (q6, .inl (k6, 18, .inl f6))] s.heap := hP
  have hl := lv_entry ([.ref h]) (n := 1) (Nat.le_of_ble_eq_true rfl)
  rw [lg_entry_eq]
  generalize (lg_sl ([.ref h]) ++ List.replicate (1 - (lg_sl ([.ref h])).length) Slot.unset).toArray = ls at hl ⊢
  have hl : lv_has ls 1 [(0, .ref h)] := hl
  refine lv_aload_n hx hb dX0_add_0 rfl (lv_at hl 0 rfl) ?_
  refine va_get (D := (dC, dI)) (ci := 0) (v := .int (nI cc)) (C := RX0) (T := TX0) (N := 13) hx hb htA inX0 hown hK hP 0 rfl rfl 6 (by decide) (htA _ lkX0_64) (fun _ h9 => h9) rfl dX0_add_1 ?_
  refine lv_sipush (v := 400) hx hb dX0_add_4 (by decide) ?_
  refine lv_icmp_lt (tgt := 20) hx hb dX0_add_7 (by decide) (fun cb_33 => ?_) (fun cb_33 => ?_)
  · have h4 : cc < 400 := by
      rcases Nat.lt_or_ge cc 400 with q | q
      · exact q
      · exact absurd cb_33 (nI_nlt q (by omega))
    refine lv_aload_n hx hb dX0_add_20 rfl (lv_at hl 0 rfl) ?_
    refine lv_aload_n hx hb dX0_add_21 rfl (lv_at hl 0 rfl) ?_
    refine va_get (D := (dC, dI)) (ci := 0) (v := .int (nI cc)) (C := RX0) (T := TX0) (N := 13) hx hb htA inX0 hown hK hP 0 rfl rfl 6 (by decide) (htA _ lkX0_64) (fun _ h9 => h9) rfl dX0_add_22 ?_
    refine lv_aload_n hx hb dX0_add_25 rfl (lv_at hl 0 rfl) ?_
    refine va_get (D := (dC, dI)) (ci := 0) (v := .int ty) (C := RX0) (T := TX0) (N := 13) hx hb htA inX0 hown hK hP 0 rfl rfl 10 (by decide) (htA _ lkX0_51) (fun _ h9 => h9) rfl dX0_add_26 ?_
    refine lv_aload_n hx hb dX0_add_29 rfl (lv_at hl 0 rfl) ?_
    refine va_get (D := (dC, dI)) (ci := 0) (v := .int tn) (C := RX0) (T := TX0) (N := 13) hx hb htA inX0 hown hK hP 0 rfl rfl 11 (by decide) (htA _ lkX0_58) (fun _ h9 => h9) rfl dX0_add_30 ?_
    have hPc := hP.sub (ws' := [yO h q1 q2 q3 q4 q5 q6 (nI cc) (nI lv) (nI ac) (nI tc) ty tn md, (q1, .inl (k1, 419, .inl f1)), (q2, .inl (k2, 419, .inl f2))]) [0, 1, 2] rfl
    have hDc := hD.sub (ws' := [yO h q1 q2 q3 q4 q5 q6 (nI cc) (nI lv) (nI ac) (nI tc) ty tn md, (q1, .inl (k1, 419, .inl f1)), (q2, .inl (k2, 419, .inl f2))]) [0, 1, 2] (by decide) rfl
    have hKc := hK.sub (tys' := [(k1, .int), (k2, .int)]) [0, 1] rfl
    have hFc := va_free (wc := [yO h q1 q2 q3 q4 q5 q6 (nI cc) (nI lv) (nI ac) (nI tc) ty tn md, (q1, .inl (k1, 419, .inl f1)), (q2, .inl (k2, 419, .inl f2))]) hD hS hA [0, 1, 2] rfl
    refine va_callv (va_runV (As := [.int (nI cc), .int ty, .int tn]) (rest := []) ⟨hx, hb, hml, hown, htA⟩ (c_writeRow l dC dI h q1 q2 q3 q4 q5 q6 k1 k2 f1 f2 (nI cc) (nI lv) (nI ac) (nI tc) ty tn md cc ty tn s.heap.size (by omega)) (cwV 3 htA gX0_69 rfl rfl rfl (by decide +kernel) ⟨Nat.le_of_ble_eq_true rfl, Nat.le_of_ble_eq_true rfl⟩) ⟨fun a U g mk q => by obtain ⟨q0, q1, qP, qK, qD⟩ := q; exact ⟨q0, q1, qP, va_K.moved (u := U) (U := U.calling g mk a) (Vm.Alike.refl U.vm) qK, qD⟩, va_recv hKc hPc (ci := 0) (q0 := 0) rfl rfl, fun U hU hW => ⟨rfl, by rw [hU], by rw [hU]; exact hPc, va_K.moved hW.alike hKc, hDc.weaken (fun _ _ _ _ => trivial)⟩⟩ rfl rfl hl.1 rfl (lv_room (Nat.le_of_ble_eq_true rfl)) dX0_add_33 ⟨Nat.zero_le _, Nat.zero_le _⟩) hS (fun q _ h => hFc q h) hFc (fun u t H1 locs ht hvm hw hB hz1 hk1 hS => ?_)
    obtain ⟨d1, d2⟩ := u
    obtain ⟨hP1, hK1, hD1⟩ := hB
    rw [ht] at hP1
    try dsimp only at hw hP1 hD1
    obtain ⟨hP, hD⟩ := va_join (wr := [(q3, .inl (k3, 41, .inl f3)), (q4, .inl (k4, 18, .inl f4)), (q5, .inl (k5, 18, .inl f5)), (q6, .inl (k6, 18, .inl f6))]) (w1 := [yO h q1 q2 q3 q4 q5 q6 (nI cc) (nI lv) (nI ac) (nI tc) ty tn md, (q1, .inl (k1, 419, .inl d1)), (q2, .inl (k2, 419, .inl d2))]) hP hD [0, 1, 2] [3, 4, 5, 6] rfl rfl (by decide) (by decide) hk1 hFc hP1 hD1
    generalize H1 = H at hP hS ⊢
    have hP : va_P (dC, dI) vwCl [yO h q1 q2 q3 q4 q5 q6 (nI cc) (nI lv) (nI ac) (nI tc) ty tn md, (q1, .inl (k1, 419, .inl d1)), (q2, .inl (k2, 419, .inl d2)), (q3, .inl (k3, 41, .inl f3)), (q4, .inl (k4, 18, .inl f4)), (q5, .inl (k5, 18, .inl f5)), (q6, .inl (k6, 18, .inl f6))] H := hP.sub [4, 5, 6, 0, 1, 2, 3] rfl
    have hD : va_D A [yO h q1 q2 q3 q4 q5 q6 (nI cc) (nI lv) (nI ac) (nI tc) ty tn md, (q1, .inl (k1, 419, .inl d1)), (q2, .inl (k2, 419, .inl d2)), (q3, .inl (k3, 41, .inl f3)), (q4, .inl (k4, 18, .inl f4)), (q5, .inl (k5, 18, .inl f5)), (q6, .inl (k6, 18, .inl f6))] := hD.sub [4, 5, 6, 0, 1, 2, 3] (by decide) rfl
    obtain ⟨rfl, rfl⟩ := hw
    refine lv_aload_n hx hb dX0_add_36 rfl (lv_at hl 0 rfl) ?_
    refine lv_dup hx hb dX0_add_37 rfl ?_
    refine va_get (D := (dC, dI)) (ci := 0) (v := .int (nI cc)) (C := RX0) (T := TX0) (N := 13) hx hb htA inX0 hown hK hP 0 rfl rfl 6 (by decide) (htA _ lkX0_64) (fun _ h9 => h9) rfl dX0_add_38 ?_
    refine lv_iconst (v := 1) hx hb dX0_add_41 (by decide) ?_
    refine lv_iadd hx hb dX0_add_42 ?_
    refine W.eq (g2 := F0 m 43 ls [.int (nI (cc + 1)), .ref h]) (by rw [nI_1]) ?_
    refine va_put (D := (dC, dI)) (ci := 0) (v := .int (nI (cc + 1))) (ty := .int) (C := RX0) (T := TX0) (N := 13) hx hb htA inX0 tyX0 tyX0_ok nX0 hown hK hP hD hS 0 rfl rfl 6 (by decide) (htA _ lkX0_64) (fun _ h9 => h9) rfl (by decide +kernel) rfl rfl (Nat.le_of_ble_eq_true rfl) dX0_add_43 (fun H locs hP hD hS => ?_)
    have hP : va_P (dC, dI) vwCl [yO h q1 q2 q3 q4 q5 q6 (nI (cc + 1)) (nI lv) (nI ac) (nI tc) ty tn md, (q1, .inl (k1, 419, .inl (upd f1 cc ty))), (q2, .inl (k2, 419, .inl (upd f2 cc tn))), (q3, .inl (k3, 41, .inl f3)), (q4, .inl (k4, 18, .inl f4)), (q5, .inl (k5, 18, .inl f5)), (q6, .inl (k6, 18, .inl f6))] H := hP
    have hD : va_D A [yO h q1 q2 q3 q4 q5 q6 (nI (cc + 1)) (nI lv) (nI ac) (nI tc) ty tn md, (q1, .inl (k1, 419, .inl (upd f1 cc ty))), (q2, .inl (k2, 419, .inl (upd f2 cc tn))), (q3, .inl (k3, 41, .inl f3)), (q4, .inl (k4, 18, .inl f4)), (q5, .inl (k5, 18, .inl f5)), (q6, .inl (k6, 18, .inl f6))] := hD
    refine lv_aload_n hx hb dX0_add_46 rfl (lv_at hl 0 rfl) ?_
    refine lv_iconst (v := 0) hx hb dX0_add_47 (by decide) ?_
    refine va_put (D := (dC, dI)) (ci := 0) (v := .int 0) (ty := .int) (C := RX0) (T := TX0) (N := 13) hx hb htA inX0 tyX0 tyX0_ok nX0 hown hK hP hD hS 0 rfl rfl 9 (by decide) (htA _ lkX0_43) (fun _ h9 => h9) rfl (by decide +kernel) rfl rfl (Nat.le_of_ble_eq_true rfl) dX0_add_48 (fun H locs hP hD hS => ?_)
    have hP : va_P (dC, dI) vwCl [yO h q1 q2 q3 q4 q5 q6 (nI (cc + 1)) (nI lv) (nI ac) 0 ty tn md, (q1, .inl (k1, 419, .inl (upd f1 cc ty))), (q2, .inl (k2, 419, .inl (upd f2 cc tn))), (q3, .inl (k3, 41, .inl f3)), (q4, .inl (k4, 18, .inl f4)), (q5, .inl (k5, 18, .inl f5)), (q6, .inl (k6, 18, .inl f6))] H := hP
    have hD : va_D A [yO h q1 q2 q3 q4 q5 q6 (nI (cc + 1)) (nI lv) (nI ac) 0 ty tn md, (q1, .inl (k1, 419, .inl (upd f1 cc ty))), (q2, .inl (k2, 419, .inl (upd f2 cc tn))), (q3, .inl (k3, 41, .inl f3)), (q4, .inl (k4, 18, .inl f4)), (q5, .inl (k5, 18, .inl f5)), (q6, .inl (k6, 18, .inl f6))] := hD
    refine lv_aload_n hx hb dX0_add_51 rfl (lv_at hl 0 rfl) ?_
    refine lv_iconst (v := 0) hx hb dX0_add_52 (by decide) ?_
    refine va_put (D := (dC, dI)) (ci := 0) (v := .int 0) (ty := .int) (C := RX0) (T := TX0) (N := 13) hx hb htA inX0 tyX0 tyX0_ok nX0 hown hK hP hD hS 0 rfl rfl 10 (by decide) (htA _ lkX0_51) (fun _ h9 => h9) rfl (by decide +kernel) rfl rfl (Nat.le_of_ble_eq_true rfl) dX0_add_53 (fun H locs hP hD hS => ?_)
    have hP : va_P (dC, dI) vwCl [yO h q1 q2 q3 q4 q5 q6 (nI (cc + 1)) (nI lv) (nI ac) 0 0 tn md, (q1, .inl (k1, 419, .inl (upd f1 cc ty))), (q2, .inl (k2, 419, .inl (upd f2 cc tn))), (q3, .inl (k3, 41, .inl f3)), (q4, .inl (k4, 18, .inl f4)), (q5, .inl (k5, 18, .inl f5)), (q6, .inl (k6, 18, .inl f6))] H := hP
    have hD : va_D A [yO h q1 q2 q3 q4 q5 q6 (nI (cc + 1)) (nI lv) (nI ac) 0 0 tn md, (q1, .inl (k1, 419, .inl (upd f1 cc ty))), (q2, .inl (k2, 419, .inl (upd f2 cc tn))), (q3, .inl (k3, 41, .inl f3)), (q4, .inl (k4, 18, .inl f4)), (q5, .inl (k5, 18, .inl f5)), (q6, .inl (k6, 18, .inl f6))] := hD
    refine lv_aload_n hx hb dX0_add_56 rfl (lv_at hl 0 rfl) ?_
    refine lv_iconst (v := 0) hx hb dX0_add_57 (by decide) ?_
    refine va_put (D := (dC, dI)) (ci := 0) (v := .int 0) (ty := .int) (C := RX0) (T := TX0) (N := 13) hx hb htA inX0 tyX0 tyX0_ok nX0 hown hK hP hD hS 0 rfl rfl 11 (by decide) (htA _ lkX0_58) (fun _ h9 => h9) rfl (by decide +kernel) rfl rfl (Nat.le_of_ble_eq_true rfl) dX0_add_58 (fun H locs hP hD hS => ?_)
    have hP : va_P (dC, dI) vwCl [yO h q1 q2 q3 q4 q5 q6 (nI (cc + 1)) (nI lv) (nI ac) 0 0 0 md, (q1, .inl (k1, 419, .inl (upd f1 cc ty))), (q2, .inl (k2, 419, .inl (upd f2 cc tn))), (q3, .inl (k3, 41, .inl f3)), (q4, .inl (k4, 18, .inl f4)), (q5, .inl (k5, 18, .inl f5)), (q6, .inl (k6, 18, .inl f6))] H := hP
    have hD : va_D A [yO h q1 q2 q3 q4 q5 q6 (nI (cc + 1)) (nI lv) (nI ac) 0 0 0 md, (q1, .inl (k1, 419, .inl (upd f1 cc ty))), (q2, .inl (k2, 419, .inl (upd f2 cc tn))), (q3, .inl (k3, 41, .inl f3)), (q4, .inl (k4, 18, .inl f4)), (q5, .inl (k5, 18, .inl f5)), (q6, .inl (k6, 18, .inl f6))] := hD
    refine lv_aload_n hx hb dX0_add_61 rfl (lv_at hl 0 rfl) ?_
    refine lv_iconst (v := (-1)) hx hb dX0_add_62 (by decide) ?_
    refine va_put (D := (dC, dI)) (ci := 0) (v := .int (-1)) (ty := .int) (C := RX0) (T := TX0) (N := 13) hx hb htA inX0 tyX0 tyX0_ok nX0 hown hK hP hD hS 0 rfl rfl 12 (by decide) (htA _ lkX0_28) (fun _ h9 => h9) rfl (by decide +kernel) rfl rfl (Nat.le_of_ble_eq_true rfl) dX0_add_63 (fun H locs hP hD hS => ?_)
    have hP : va_P (dC, dI) vwCl [yO h q1 q2 q3 q4 q5 q6 (nI (cc + 1)) (nI lv) (nI ac) 0 0 0 (-1), (q1, .inl (k1, 419, .inl (upd f1 cc ty))), (q2, .inl (k2, 419, .inl (upd f2 cc tn))), (q3, .inl (k3, 41, .inl f3)), (q4, .inl (k4, 18, .inl f4)), (q5, .inl (k5, 18, .inl f5)), (q6, .inl (k6, 18, .inl f6))] H := hP
    have hD : va_D A [yO h q1 q2 q3 q4 q5 q6 (nI (cc + 1)) (nI lv) (nI ac) 0 0 0 (-1), (q1, .inl (k1, 419, .inl (upd f1 cc ty))), (q2, .inl (k2, 419, .inl (upd f2 cc tn))), (q3, .inl (k3, 41, .inl f3)), (q4, .inl (k4, 18, .inl f4)), (q5, .inl (k5, 18, .inl f5)), (q6, .inl (k6, 18, .inl f6))] := hD
    refine lv_aload_n hx hb dX0_add_66 rfl (lv_at hl 0 rfl) ?_
    refine va_get (D := (dC, dI)) (ci := 0) (v := .int (nI (cc + 1))) (C := RX0) (T := TX0) (N := 13) hx hb htA inX0 hown hK hP 0 rfl rfl 6 (by decide) (htA _ lkX0_64) (fun _ h9 => h9) rfl dX0_add_67 ?_
    refine W.widen (k := 1) (n := 6) (by omega) (by omega) ?_
    refine vx_ret ?_
    exact W.iret (v := nI (cc + 1)) hx hb hr (fun t ht hW => ⟨⟨nI (cc + 1), (), rfl, ⟨h4, rfl⟩, by rw [ht]; exact hP, va_K.moved hW.alike hK, hD⟩, hS.F ht⟩) hS.2.2 dX0_add_70
  · have h4 : 400 ≤ cc := by
      rcases Nat.lt_or_ge cc 400 with q | q
      · exact absurd (nI_lt q (by omega)) cb_33
      · exact q
    obtain ⟨sa9, hstr⟩ := hEX.2.2.2 (67, "the yard is full") (by decide)
    exact vx_throwS (own := RX0) (cls := "java/lang/IllegalStateException") (text := "the yard is full") (names := ["java/lang/RuntimeException", "java/lang/Exception"]) hx hb hl9 hown (by decide +kernel) (by decide +kernel) (htA _ lkX0_46) (htA _ ini_IllegalStateException) hstr (vx_hat (L := vx_atS RX0 50 "java/lang/IllegalStateException" ["java/lang/RuntimeException", "java/lang/Exception"]) (B := [.castable "java/lang/IllegalStateException" "java/lang/IllegalStateException", .declares ⟨"java/lang/RuntimeException", "<init>", "(Ljava/lang/String;)V"⟩, .declares ⟨"java/lang/Exception", "<init>", "(Ljava/lang/String;)V"⟩, .declares ⟨"java/lang/Throwable", "<init>", "(Ljava/lang/String;)V"⟩]) (fun w hw => htA w (at_ISE w hw)) (by decide +kernel) (vx_c (va_Nw.use rfl (hEX.2.2.1 (.castable "java/lang/IllegalStateException" "java/lang/IllegalStateException") (by decide +kernel))) (vx_c (va_Nw.use rfl (hEX.2.2.1 (.declares ⟨"java/lang/RuntimeException", "<init>", "(Ljava/lang/String;)V"⟩) (by decide +kernel))) (vx_c (va_Nw.use rfl (hEX.2.2.1 (.declares ⟨"java/lang/Exception", "<init>", "(Ljava/lang/String;)V"⟩) (by decide +kernel))) (vx_c (va_Nw.use rfl (hEX.2.2.1 (.declares ⟨"java/lang/Throwable", "<init>", "(Ljava/lang/String;)V"⟩) (by decide +kernel))) (vx_n)))))) (by decide +kernel) hEX.1 hEX.2.1 hS (hl.1.trans hml.symm) dX0_add_10 dX0_add_13 dX0_add_14 dX0_add_16 dX0_add_19 (fun x hx => (hEx x hx).elim) (Nat.le_of_ble_eq_true rfl) (Nat.le_of_ble_eq_true rfl) (Nat.le_of_ble_eq_true rfl) (Nat.le_of_ble_eq_true rfl) hlocks (fun t ha hsz hk => ⟨(), trivial, ⟨⟨rfl, h4⟩, hP.kept (fun k q hq => hk q.1 (hP k q hq).lt), va_K.moved ha hK, hD⟩, Nat.le_trans hS.1 hsz, fun q h1 h2 => (hk q (Nat.lt_of_lt_of_le h1 hS.1)).trans (hS.2.1 q h1 h2)⟩) hS.2.2 (Nat.le_of_ble_eq_true rfl) (Nat.le_of_ble_eq_true rfl)
set_option maxHeartbeats 4000000 in
set_option maxRecDepth 100000 in
theorem c_open (l : Launch) (hl9 : l.stackTraces = false) (dC : Nat → ClassId) (dI : Nat → Nat → Nat) (h : Nat) (q1 : Nat) (q2 : Nat) (q3 : Nat) (q4 : Nat) (q5 : Nat) (q6 : Nat) (k1 : ClassId) (k2 : ClassId) (k3 : ClassId) (k4 : ClassId) (k5 : ClassId) (k6 : ClassId) (f1 : Nat → Int32) (f2 : Nat → Int32) (f3 : Nat → Int32) (f4 : Nat → Int32) (f5 : Nat → Int32) (f6 : Nat → Int32) (cc : Nat) (lv : Nat) (ac : Nat) (tc : Nat) (ty : Int32) (tn : Int32) (md : Int32) (sz : Nat) (hlv : lv ≤ 40) : vx_Met l yX0_open wsX0_open ({ frames := 6, cells := 1, slots := 6, locals := 100 }) (va_Pc [.ref h] (fun U => U.heap.size = sz ∧ va_P (dC, dI) vwCl [yO h q1 q2 q3 q4 q5 q6 (nI cc) (nI lv) (nI ac) (nI tc) ty tn md, (q1, .inl (k1, 419, .inl f1)), (q2, .inl (k2, 419, .inl f2)), (q3, .inl (k3, 41, .inl f3)), (q4, .inl (k4, 18, .inl f4)), (q5, .inl (k5, 18, .inl f5)), (q6, .inl (k6, 18, .inl f6))] U.heap ∧ va_K (dC, dI) vwCl [(k1, .int), (k2, .int), (k3, .int), (k4, .int), (k5, .int), (k6, .int)] U ∧ va_D (fun _ => True) [yO h q1 q2 q3 q4 q5 q6 (nI cc) (nI lv) (nI ac) (nI tc) ty tn md, (q1, .inl (k1, 419, .inl f1)), (q2, .inl (k2, 419, .inl f2)), (q3, .inl (k3, 41, .inl f3)), (q4, .inl (k4, 18, .inl f4)), (q5, .inl (k5, 18, .inl f5)), (q6, .inl (k6, 18, .inl f6))] ∧ yEx (va_A [yO h q1 q2 q3 q4 q5 q6 (nI cc) (nI lv) (nI ac) (nI tc) ty tn md, (q1, .inl (k1, 419, .inl f1)), (q2, .inl (k2, 419, .inl f2)), (q3, .inl (k3, 41, .inl f3)), (q4, .inl (k4, 18, .inl f4)), (q5, .inl (k5, 18, .inl f5)), (q6, .inl (k6, 18, .inl f6))] sz) U U.heap)) (va_Qi (fun (r : Int32) (u : Unit) => lv < 40 ∧ r = nI (lv + 1)) (fun (u : Unit) (t : State) => va_P (dC, dI) vwCl [yO h q1 q2 q3 q4 q5 q6 (nI cc) (nI (lv + 1)) (nI ac) (nI tc) ty tn (-1), (q1, .inl (k1, 419, .inl f1)), (q2, .inl (k2, 419, .inl f2)), (q3, .inl (k3, 41, .inl (upd f3 (lv + 1) (nI cc)))), (q4, .inl (k4, 18, .inl f4)), (q5, .inl (k5, 18, .inl f5)), (q6, .inl (k6, 18, .inl f6))] t.heap ∧ va_K (dC, dI) vwCl [(k1, .int), (k2, .int), (k3, .int), (k4, .int), (k5, .int), (k6, .int)] t ∧ va_D (va_A [yO h q1 q2 q3 q4 q5 q6 (nI cc) (nI lv) (nI ac) (nI tc) ty tn md, (q1, .inl (k1, 419, .inl f1)), (q2, .inl (k2, 419, .inl f2)), (q3, .inl (k3, 41, .inl f3)), (q4, .inl (k4, 18, .inl f4)), (q5, .inl (k5, 18, .inl f5)), (q6, .inl (k6, 18, .inl f6))] sz) [yO h q1 q2 q3 q4 q5 q6 (nI cc) (nI (lv + 1)) (nI ac) (nI tc) ty tn (-1), (q1, .inl (k1, 419, .inl f1)), (q2, .inl (k2, 419, .inl f2)), (q3, .inl (k3, 41, .inl (upd f3 (lv + 1) (nI cc)))), (q4, .inl (k4, 18, .inl f4)), (q5, .inl (k5, 18, .inl f5)), (q6, .inl (k6, 18, .inl f6))]) (va_A [yO h q1 q2 q3 q4 q5 q6 (nI cc) (nI lv) (nI ac) (nI tc) ty tn md, (q1, .inl (k1, 419, .inl f1)), (q2, .inl (k2, 419, .inl f2)), (q3, .inl (k3, 41, .inl f3)), (q4, .inl (k4, 18, .inl f4)), (q5, .inl (k5, 18, .inl f5)), (q6, .inl (k6, 18, .inl f6))] sz)) (vx_X (fun (u : Unit) => True) (fun (E : String) (u : Unit) (t : State) => (E = "java/lang/IllegalStateException" ∧ 40 ≤ lv) ∧ va_P (dC, dI) vwCl [yO h q1 q2 q3 q4 q5 q6 (nI cc) (nI lv) (nI ac) (nI tc) ty tn md, (q1, .inl (k1, 419, .inl f1)), (q2, .inl (k2, 419, .inl f2)), (q3, .inl (k3, 41, .inl f3)), (q4, .inl (k4, 18, .inl f4)), (q5, .inl (k5, 18, .inl f5)), (q6, .inl (k6, 18, .inl f6))] t.heap ∧ va_K (dC, dI) vwCl [(k1, .int), (k2, .int), (k3, .int), (k4, .int), (k5, .int), (k6, .int)] t ∧ va_D (va_A [yO h q1 q2 q3 q4 q5 q6 (nI cc) (nI lv) (nI ac) (nI tc) ty tn md, (q1, .inl (k1, 419, .inl f1)), (q2, .inl (k2, 419, .inl f2)), (q3, .inl (k3, 41, .inl f3)), (q4, .inl (k4, 18, .inl f4)), (q5, .inl (k5, 18, .inl f5)), (q6, .inl (k6, 18, .inl f6))] sz) [yO h q1 q2 q3 q4 q5 q6 (nI cc) (nI lv) (nI ac) (nI tc) ty tn md, (q1, .inl (k1, 419, .inl f1)), (q2, .inl (k2, 419, .inl f2)), (q3, .inl (k3, 41, .inl f3)), (q4, .inl (k4, 18, .inl f4)), (q5, .inl (k5, 18, .inl f5)), (q6, .inl (k6, 18, .inl f6))]) (va_A [yO h q1 q2 q3 q4 q5 q6 (nI cc) (nI lv) (nI ac) (nI tc) ty tn md, (q1, .inl (k1, 419, .inl f1)), (q2, .inl (k2, 419, .inl f2)), (q3, .inl (k3, 41, .inl f3)), (q4, .inl (k4, 18, .inl f4)), (q5, .inl (k5, 18, .inl f5)), (q6, .inl (k6, 18, .inl f6))] sz)) 1 6 (va_A [yO h q1 q2 q3 q4 q5 q6 (nI cc) (nI lv) (nI ac) (nI tc) ty tn md, (q1, .inl (k1, 419, .inl f1)), (q2, .inl (k2, 419, .inl f2)), (q3, .inl (k3, 41, .inl f3)), (q4, .inl (k4, 18, .inl f4)), (q5, .inl (k5, 18, .inl f5)), (q6, .inl (k6, 18, .inl f6))] sz) := by
  refine vx_ofW (cc := cX0_open) (maxL := 1) (ret := (some .int)) (by decide) rfl ?_
  intro p e s m args below meth c s₁ B hml hEx hv
  obtain ⟨rfl, hsz, hP, hK, hD0, hEX⟩ := hv
  have hx := B.exec
  have hb := B.bytes
  have hr := B.returns
  have hts := atoms_spec (ws := wsX0_open) B.pre
  have htA : ∀ w ∈ wsA, w.before _ s = true := fun w h => hts w (List.mem_cons_of_mem _ h)
  have hown : s.vm.findClass RX0 = some m.cls := findClass_of_methodNamed B.named
  have hlocks := B.notSynchronized
  subst hsz
  have hD := hD0.self (sz := s.heap.size)
  generalize hAe : va_A [yO h q1 q2 q3 q4 q5 q6 (nI cc) (nI lv) (nI ac) (nI tc) ty tn md, (q1, .inl (k1, 419, .inl f1)), (q2, .inl (k2, 419, .inl f2)), (q3, .inl (k3, 41, .inl f3)), (q4, .inl (k4, 18, .inl f4)), (q5, .inl (k5, 18, .inl f5)), (q6, .inl (k6, 18, .inl f6))] s.heap.size = A at hD hEX ⊢
  have hA : ∀ q : Nat, s.heap.size ≤ q → A q := fun q h => by rw [← hAe]; exact Or.inr h
  have hS : va_S A s.heap s.heap [] := va_S.rf
  have hP : va_P (dC, dI) vwCl [yO h q1 q2 q3 q4 q5 q6 (nI cc) (nI lv) (nI ac) (nI tc) ty tn md, (q1, .inl (k1, 419, .inl f1)), (q2, .inl (k2, 419, .inl f2)), (q3, .inl (k3, 41, .inl f3)), (q4, .inl (k4, 18, .inl f4)), (q5, .inl (k5, 18, .inl f5)), (q6, .inl (k6, 18, .inl f6))] s.heap := hP
  have hl := lv_entry ([.ref h]) (n := 1) (Nat.le_of_ble_eq_true rfl)
  rw [lg_entry_eq]
  generalize (lg_sl ([.ref h]) ++ List.replicate (1 - (lg_sl ([.ref h])).length) Slot.unset).toArray = ls at hl ⊢
  have hl : lv_has ls 1 [(0, .ref h)] := hl
  refine lv_aload_n hx hb dX0_open_0 rfl (lv_at hl 0 rfl) ?_
  refine va_get (D := (dC, dI)) (ci := 0) (v := .int (nI lv)) (C := RX0) (T := TX0) (N := 13) hx hb htA inX0 hown hK hP 0 rfl rfl 7 (by decide) (htA _ lkX0_73) (fun _ h9 => h9) rfl dX0_open_1 ?_
  refine lv_bipush (v := 40) hx hb dX0_open_4 (by decide) ?_
  refine lv_icmp_lt (tgt := 19) hx hb dX0_open_6 (by decide) (fun cb_35 => ?_) (fun cb_35 => ?_)
  · have h4 : lv < 40 := by
      rcases Nat.lt_or_ge lv 40 with q | q
      · exact q
      · exact absurd cb_35 (nI_nlt q (by omega))
    have h41 : lv + 1 < 41 := by omega
    refine lv_aload_n hx hb dX0_open_19 rfl (lv_at hl 0 rfl) ?_
    refine lv_dup hx hb dX0_open_20 rfl ?_
    refine va_get (D := (dC, dI)) (ci := 0) (v := .int (nI lv)) (C := RX0) (T := TX0) (N := 13) hx hb htA inX0 hown hK hP 0 rfl rfl 7 (by decide) (htA _ lkX0_73) (fun _ h9 => h9) rfl dX0_open_21 ?_
    refine lv_iconst (v := 1) hx hb dX0_open_24 (by decide) ?_
    refine lv_iadd hx hb dX0_open_25 ?_
    refine W.eq (g2 := F0 m 26 ls [.int (nI (lv + 1)), .ref h]) (by rw [nI_1]) ?_
    refine va_put (D := (dC, dI)) (ci := 0) (v := .int (nI (lv + 1))) (ty := .int) (C := RX0) (T := TX0) (N := 13) hx hb htA inX0 tyX0 tyX0_ok nX0 hown hK hP hD hS 0 rfl rfl 7 (by decide) (htA _ lkX0_73) (fun _ h9 => h9) rfl (by decide +kernel) rfl rfl (Nat.le_of_ble_eq_true rfl) dX0_open_26 (fun H locs hP hD hS => ?_)
    have hP : va_P (dC, dI) vwCl [yO h q1 q2 q3 q4 q5 q6 (nI cc) (nI (lv + 1)) (nI ac) (nI tc) ty tn md, (q1, .inl (k1, 419, .inl f1)), (q2, .inl (k2, 419, .inl f2)), (q3, .inl (k3, 41, .inl f3)), (q4, .inl (k4, 18, .inl f4)), (q5, .inl (k5, 18, .inl f5)), (q6, .inl (k6, 18, .inl f6))] H := hP
    have hD : va_D A [yO h q1 q2 q3 q4 q5 q6 (nI cc) (nI (lv + 1)) (nI ac) (nI tc) ty tn md, (q1, .inl (k1, 419, .inl f1)), (q2, .inl (k2, 419, .inl f2)), (q3, .inl (k3, 41, .inl f3)), (q4, .inl (k4, 18, .inl f4)), (q5, .inl (k5, 18, .inl f5)), (q6, .inl (k6, 18, .inl f6))] := hD
    refine lv_aload_n hx hb dX0_open_29 rfl (lv_at hl 0 rfl) ?_
    refine va_get (D := (dC, dI)) (ci := 0) (v := .ref q3) (C := RX0) (T := TX0) (N := 13) hx hb htA inX0 hown hK hP 0 rfl rfl 2 (by decide) (htA _ lkX0_16) (fun _ h9 => h9) rfl dX0_open_30 ?_
    refine lv_aload_n hx hb dX0_open_33 rfl (lv_at hl 0 rfl) ?_
    refine va_get (D := (dC, dI)) (ci := 0) (v := .int (nI (lv + 1))) (C := RX0) (T := TX0) (N := 13) hx hb htA inX0 hown hK hP 0 rfl rfl 7 (by decide) (htA _ lkX0_73) (fun _ h9 => h9) rfl dX0_open_34 ?_
    refine lv_aload_n hx hb dX0_open_37 rfl (lv_at hl 0 rfl) ?_
    refine va_get (D := (dC, dI)) (ci := 0) (v := .int (nI cc)) (C := RX0) (T := TX0) (N := 13) hx hb htA inX0 hown hK hP 0 rfl rfl 6 (by decide) (htA _ lkX0_64) (fun _ h9 => h9) rfl dX0_open_38 ?_
    refine yv_iast hx hb hK hP hD hS 3 2 rfl rfl (k := (lv + 1)) h41 (by decide) dX0_open_41 (fun H locs hP hD hS => ?_)
    have hP : va_P (dC, dI) vwCl [yO h q1 q2 q3 q4 q5 q6 (nI cc) (nI (lv + 1)) (nI ac) (nI tc) ty tn md, (q1, .inl (k1, 419, .inl f1)), (q2, .inl (k2, 419, .inl f2)), (q3, .inl (k3, 41, .inl (upd f3 (lv + 1) (nI cc)))), (q4, .inl (k4, 18, .inl f4)), (q5, .inl (k5, 18, .inl f5)), (q6, .inl (k6, 18, .inl f6))] H := hP
    have hD : va_D A [yO h q1 q2 q3 q4 q5 q6 (nI cc) (nI (lv + 1)) (nI ac) (nI tc) ty tn md, (q1, .inl (k1, 419, .inl f1)), (q2, .inl (k2, 419, .inl f2)), (q3, .inl (k3, 41, .inl (upd f3 (lv + 1) (nI cc)))), (q4, .inl (k4, 18, .inl f4)), (q5, .inl (k5, 18, .inl f5)), (q6, .inl (k6, 18, .inl f6))] := hD
    refine lv_aload_n hx hb dX0_open_42 rfl (lv_at hl 0 rfl) ?_
    refine lv_iconst (v := (-1)) hx hb dX0_open_43 (by decide) ?_
    refine va_put (D := (dC, dI)) (ci := 0) (v := .int (-1)) (ty := .int) (C := RX0) (T := TX0) (N := 13) hx hb htA inX0 tyX0 tyX0_ok nX0 hown hK hP hD hS 0 rfl rfl 12 (by decide) (htA _ lkX0_28) (fun _ h9 => h9) rfl (by decide +kernel) rfl rfl (Nat.le_of_ble_eq_true rfl) dX0_open_44 (fun H locs hP hD hS => ?_)
    have hP : va_P (dC, dI) vwCl [yO h q1 q2 q3 q4 q5 q6 (nI cc) (nI (lv + 1)) (nI ac) (nI tc) ty tn (-1), (q1, .inl (k1, 419, .inl f1)), (q2, .inl (k2, 419, .inl f2)), (q3, .inl (k3, 41, .inl (upd f3 (lv + 1) (nI cc)))), (q4, .inl (k4, 18, .inl f4)), (q5, .inl (k5, 18, .inl f5)), (q6, .inl (k6, 18, .inl f6))] H := hP
    have hD : va_D A [yO h q1 q2 q3 q4 q5 q6 (nI cc) (nI (lv + 1)) (nI ac) (nI tc) ty tn (-1), (q1, .inl (k1, 419, .inl f1)), (q2, .inl (k2, 419, .inl f2)), (q3, .inl (k3, 41, .inl (upd f3 (lv + 1) (nI cc)))), (q4, .inl (k4, 18, .inl f4)), (q5, .inl (k5, 18, .inl f5)), (q6, .inl (k6, 18, .inl f6))] := hD
    refine lv_aload_n hx hb dX0_open_47 rfl (lv_at hl 0 rfl) ?_
    refine va_get (D := (dC, dI)) (ci := 0) (v := .int (nI (lv + 1))) (C := RX0) (T := TX0) (N := 13) hx hb htA inX0 hown hK hP 0 rfl rfl 7 (by decide) (htA _ lkX0_73) (fun _ h9 => h9) rfl dX0_open_48 ?_
    refine W.widen (k := 1) (n := 6) (by omega) (by omega) ?_
    refine vx_ret ?_
    exact W.iret (v := nI (lv + 1)) hx hb hr (fun t ht hW => ⟨⟨nI (lv + 1), (), rfl, ⟨h4, rfl⟩, by rw [ht]; exact hP, va_K.moved hW.alike hK, hD⟩, hS.F ht⟩) hS.2.2 dX0_open_51
  · have h4 : 40 ≤ lv := by
      rcases Nat.lt_or_ge lv 40 with q | q
      · exact absurd (nI_lt q (by omega)) cb_35
      · exact q
    obtain ⟨sa9, hstr⟩ := hEX.2.2.2 (76, "no level above this one") (by decide)
    exact vx_throwS (own := RX0) (cls := "java/lang/IllegalStateException") (text := "no level above this one") (names := ["java/lang/RuntimeException", "java/lang/Exception"]) hx hb hl9 hown (by decide +kernel) (by decide +kernel) (htA _ lkX0_46) (htA _ ini_IllegalStateException) hstr (vx_hat (L := vx_atS RX0 50 "java/lang/IllegalStateException" ["java/lang/RuntimeException", "java/lang/Exception"]) (B := [.castable "java/lang/IllegalStateException" "java/lang/IllegalStateException", .declares ⟨"java/lang/RuntimeException", "<init>", "(Ljava/lang/String;)V"⟩, .declares ⟨"java/lang/Exception", "<init>", "(Ljava/lang/String;)V"⟩, .declares ⟨"java/lang/Throwable", "<init>", "(Ljava/lang/String;)V"⟩]) (fun w hw => htA w (at_ISE w hw)) (by decide +kernel) (vx_c (va_Nw.use rfl (hEX.2.2.1 (.castable "java/lang/IllegalStateException" "java/lang/IllegalStateException") (by decide +kernel))) (vx_c (va_Nw.use rfl (hEX.2.2.1 (.declares ⟨"java/lang/RuntimeException", "<init>", "(Ljava/lang/String;)V"⟩) (by decide +kernel))) (vx_c (va_Nw.use rfl (hEX.2.2.1 (.declares ⟨"java/lang/Exception", "<init>", "(Ljava/lang/String;)V"⟩) (by decide +kernel))) (vx_c (va_Nw.use rfl (hEX.2.2.1 (.declares ⟨"java/lang/Throwable", "<init>", "(Ljava/lang/String;)V"⟩) (by decide +kernel))) (vx_n)))))) (by decide +kernel) hEX.1 hEX.2.1 hS (hl.1.trans hml.symm) dX0_open_9 dX0_open_12 dX0_open_13 dX0_open_15 dX0_open_18 (fun x hx => (hEx x hx).elim) (Nat.le_of_ble_eq_true rfl) (Nat.le_of_ble_eq_true rfl) (Nat.le_of_ble_eq_true rfl) (Nat.le_of_ble_eq_true rfl) hlocks (fun t ha hsz hk => ⟨(), trivial, ⟨⟨rfl, h4⟩, hP.kept (fun k q hq => hk q.1 (hP k q hq).lt), va_K.moved ha hK, hD⟩, Nat.le_trans hS.1 hsz, fun q h1 h2 => (hk q (Nat.lt_of_lt_of_le h1 hS.1)).trans (hS.2.1 q h1 h2)⟩) hS.2.2 (Nat.le_of_ble_eq_true rfl) (Nat.le_of_ble_eq_true rfl)
set_option maxHeartbeats 4000000 in
set_option maxRecDepth 100000 in
theorem c_close (l : Launch) (hl9 : l.stackTraces = false) (dC : Nat → ClassId) (dI : Nat → Nat → Nat) (h : Nat) (q1 : Nat) (q2 : Nat) (q3 : Nat) (q4 : Nat) (q5 : Nat) (q6 : Nat) (k1 : ClassId) (k2 : ClassId) (k3 : ClassId) (k4 : ClassId) (k5 : ClassId) (k6 : ClassId) (f1 : Nat → Int32) (f2 : Nat → Int32) (f3 : Nat → Int32) (f4 : Nat → Int32) (f5 : Nat → Int32) (f6 : Nat → Int32) (cc : Nat) (lv : Nat) (ac : Nat) (tc : Nat) (ty : Int32) (tn : Int32) (md : Int32) (sz : Nat) (hlv : lv ≤ 40) : vx_Met l yX0_close wsX0_close ({ frames := 6, cells := 1, slots := 6, locals := 100 }) (va_Pc [.ref h] (fun U => U.heap.size = sz ∧ va_P (dC, dI) vwCl [yO h q1 q2 q3 q4 q5 q6 (nI cc) (nI lv) (nI ac) (nI tc) ty tn md, (q1, .inl (k1, 419, .inl f1)), (q2, .inl (k2, 419, .inl f2)), (q3, .inl (k3, 41, .inl f3)), (q4, .inl (k4, 18, .inl f4)), (q5, .inl (k5, 18, .inl f5)), (q6, .inl (k6, 18, .inl f6))] U.heap ∧ va_K (dC, dI) vwCl [(k1, .int), (k2, .int), (k3, .int), (k4, .int), (k5, .int), (k6, .int)] U ∧ va_D (fun _ => True) [yO h q1 q2 q3 q4 q5 q6 (nI cc) (nI lv) (nI ac) (nI tc) ty tn md, (q1, .inl (k1, 419, .inl f1)), (q2, .inl (k2, 419, .inl f2)), (q3, .inl (k3, 41, .inl f3)), (q4, .inl (k4, 18, .inl f4)), (q5, .inl (k5, 18, .inl f5)), (q6, .inl (k6, 18, .inl f6))] ∧ yEx (va_A [yO h q1 q2 q3 q4 q5 q6 (nI cc) (nI lv) (nI ac) (nI tc) ty tn md, (q1, .inl (k1, 419, .inl f1)), (q2, .inl (k2, 419, .inl f2)), (q3, .inl (k3, 41, .inl f3)), (q4, .inl (k4, 18, .inl f4)), (q5, .inl (k5, 18, .inl f5)), (q6, .inl (k6, 18, .inl f6))] sz) U U.heap)) (va_Qi (fun (r : Int32) (u : Unit) => ∃ l0, lv = l0 + 1 ∧ r = nI cc - f3 lv) (fun (u : Unit) (t : State) => va_P (dC, dI) vwCl [yO h q1 q2 q3 q4 q5 q6 (f3 lv) (nI (lv - 1)) (nI ac) (nI tc) ty tn (-1), (q1, .inl (k1, 419, .inl f1)), (q2, .inl (k2, 419, .inl f2)), (q3, .inl (k3, 41, .inl f3)), (q4, .inl (k4, 18, .inl f4)), (q5, .inl (k5, 18, .inl f5)), (q6, .inl (k6, 18, .inl f6))] t.heap ∧ va_K (dC, dI) vwCl [(k1, .int), (k2, .int), (k3, .int), (k4, .int), (k5, .int), (k6, .int)] t ∧ va_D (va_A [yO h q1 q2 q3 q4 q5 q6 (nI cc) (nI lv) (nI ac) (nI tc) ty tn md, (q1, .inl (k1, 419, .inl f1)), (q2, .inl (k2, 419, .inl f2)), (q3, .inl (k3, 41, .inl f3)), (q4, .inl (k4, 18, .inl f4)), (q5, .inl (k5, 18, .inl f5)), (q6, .inl (k6, 18, .inl f6))] sz) [yO h q1 q2 q3 q4 q5 q6 (f3 lv) (nI (lv - 1)) (nI ac) (nI tc) ty tn (-1), (q1, .inl (k1, 419, .inl f1)), (q2, .inl (k2, 419, .inl f2)), (q3, .inl (k3, 41, .inl f3)), (q4, .inl (k4, 18, .inl f4)), (q5, .inl (k5, 18, .inl f5)), (q6, .inl (k6, 18, .inl f6))]) (va_A [yO h q1 q2 q3 q4 q5 q6 (nI cc) (nI lv) (nI ac) (nI tc) ty tn md, (q1, .inl (k1, 419, .inl f1)), (q2, .inl (k2, 419, .inl f2)), (q3, .inl (k3, 41, .inl f3)), (q4, .inl (k4, 18, .inl f4)), (q5, .inl (k5, 18, .inl f5)), (q6, .inl (k6, 18, .inl f6))] sz)) (vx_X (fun (u : Unit) => True) (fun (E : String) (u : Unit) (t : State) => (E = "java/lang/IllegalStateException" ∧ lv = 0) ∧ va_P (dC, dI) vwCl [yO h q1 q2 q3 q4 q5 q6 (nI cc) (nI lv) (nI ac) (nI tc) ty tn md, (q1, .inl (k1, 419, .inl f1)), (q2, .inl (k2, 419, .inl f2)), (q3, .inl (k3, 41, .inl f3)), (q4, .inl (k4, 18, .inl f4)), (q5, .inl (k5, 18, .inl f5)), (q6, .inl (k6, 18, .inl f6))] t.heap ∧ va_K (dC, dI) vwCl [(k1, .int), (k2, .int), (k3, .int), (k4, .int), (k5, .int), (k6, .int)] t ∧ va_D (va_A [yO h q1 q2 q3 q4 q5 q6 (nI cc) (nI lv) (nI ac) (nI tc) ty tn md, (q1, .inl (k1, 419, .inl f1)), (q2, .inl (k2, 419, .inl f2)), (q3, .inl (k3, 41, .inl f3)), (q4, .inl (k4, 18, .inl f4)), (q5, .inl (k5, 18, .inl f5)), (q6, .inl (k6, 18, .inl f6))] sz) [yO h q1 q2 q3 q4 q5 q6 (nI cc) (nI lv) (nI ac) (nI tc) ty tn md, (q1, .inl (k1, 419, .inl f1)), (q2, .inl (k2, 419, .inl f2)), (q3, .inl (k3, 41, .inl f3)), (q4, .inl (k4, 18, .inl f4)), (q5, .inl (k5, 18, .inl f5)), (q6, .inl (k6, 18, .inl f6))]) (va_A [yO h q1 q2 q3 q4 q5 q6 (nI cc) (nI lv) (nI ac) (nI tc) ty tn md, (q1, .inl (k1, 419, .inl f1)), (q2, .inl (k2, 419, .inl f2)), (q3, .inl (k3, 41, .inl f3)), (q4, .inl (k4, 18, .inl f4)), (q5, .inl (k5, 18, .inl f5)), (q6, .inl (k6, 18, .inl f6))] sz)) 1 6 (va_A [yO h q1 q2 q3 q4 q5 q6 (nI cc) (nI lv) (nI ac) (nI tc) ty tn md, (q1, .inl (k1, 419, .inl f1)), (q2, .inl (k2, 419, .inl f2)), (q3, .inl (k3, 41, .inl f3)), (q4, .inl (k4, 18, .inl f4)), (q5, .inl (k5, 18, .inl f5)), (q6, .inl (k6, 18, .inl f6))] sz) := by
  refine vx_ofW (cc := cX0_close) (maxL := 2) (ret := (some .int)) (by decide) rfl ?_
  intro p e s m args below meth c s₁ B hml hEx hv
  obtain ⟨rfl, hsz, hP, hK, hD0, hEX⟩ := hv
  have hx := B.exec
  have hb := B.bytes
  have hr := B.returns
  have hts := atoms_spec (ws := wsX0_close) B.pre
  have htA : ∀ w ∈ wsA, w.before _ s = true := fun w h => hts w (List.mem_cons_of_mem _ h)
  have hown : s.vm.findClass RX0 = some m.cls := findClass_of_methodNamed B.named
  have hlocks := B.notSynchronized
  subst hsz
  have hD := hD0.self (sz := s.heap.size)
  generalize hAe : va_A [yO h q1 q2 q3 q4 q5 q6 (nI cc) (nI lv) (nI ac) (nI tc) ty tn md, (q1, .inl (k1, 419, .inl f1)), (q2, .inl (k2, 419, .inl f2)), (q3, .inl (k3, 41, .inl f3)), (q4, .inl (k4, 18, .inl f4)), (q5, .inl (k5, 18, .inl f5)), (q6, .inl (k6, 18, .inl f6))] s.heap.size = A at hD hEX ⊢
  have hA : ∀ q : Nat, s.heap.size ≤ q → A q := fun q h => by rw [← hAe]; exact Or.inr h
  have hS : va_S A s.heap s.heap [] := va_S.rf
  have hP : va_P (dC, dI) vwCl [yO h q1 q2 q3 q4 q5 q6 (nI cc) (nI lv) (nI ac) (nI tc) ty tn md, (q1, .inl (k1, 419, .inl f1)), (q2, .inl (k2, 419, .inl f2)), (q3, .inl (k3, 41, .inl f3)), (q4, .inl (k4, 18, .inl f4)), (q5, .inl (k5, 18, .inl f5)), (q6, .inl (k6, 18, .inl f6))] s.heap := hP
  have hl := lv_entry ([.ref h]) (n := 2) (Nat.le_of_ble_eq_true rfl)
  rw [lg_entry_eq]
  generalize (lg_sl ([.ref h]) ++ List.replicate (2 - (lg_sl ([.ref h])).length) Slot.unset).toArray = ls at hl ⊢
  have hl : lv_has ls 2 [(0, .ref h)] := hl
  refine lv_aload_n hx hb dX0_close_0 rfl (lv_at hl 0 rfl) ?_
  refine va_get (D := (dC, dI)) (ci := 0) (v := .int (nI lv)) (C := RX0) (T := TX0) (N := 13) hx hb htA inX0 hown hK hP 0 rfl rfl 7 (by decide) (htA _ lkX0_73) (fun _ h9 => h9) rfl dX0_close_1 ?_
  refine lv_if_le (tgt := 16) hx hb dX0_close_4 (by decide) (fun cb_36 => ?_) (fun cb_36 => ?_)
  · have h0 : lv = 0 := by
      rcases Nat.eq_zero_or_pos lv with q | q
      · exact q
      · exact absurd cb_36 (nI_nle q (by omega))
    obtain ⟨sa9, hstr⟩ := hEX.2.2.2 (78, "no level is open") (by decide)
    exact vx_throwS (own := RX0) (cls := "java/lang/IllegalStateException") (text := "no level is open") (names := ["java/lang/RuntimeException", "java/lang/Exception"]) hx hb hl9 hown (by decide +kernel) (by decide +kernel) (htA _ lkX0_46) (htA _ ini_IllegalStateException) hstr (vx_hat (L := vx_atS RX0 50 "java/lang/IllegalStateException" ["java/lang/RuntimeException", "java/lang/Exception"]) (B := [.castable "java/lang/IllegalStateException" "java/lang/IllegalStateException", .declares ⟨"java/lang/RuntimeException", "<init>", "(Ljava/lang/String;)V"⟩, .declares ⟨"java/lang/Exception", "<init>", "(Ljava/lang/String;)V"⟩, .declares ⟨"java/lang/Throwable", "<init>", "(Ljava/lang/String;)V"⟩]) (fun w hw => htA w (at_ISE w hw)) (by decide +kernel) (vx_c (va_Nw.use rfl (hEX.2.2.1 (.castable "java/lang/IllegalStateException" "java/lang/IllegalStateException") (by decide +kernel))) (vx_c (va_Nw.use rfl (hEX.2.2.1 (.declares ⟨"java/lang/RuntimeException", "<init>", "(Ljava/lang/String;)V"⟩) (by decide +kernel))) (vx_c (va_Nw.use rfl (hEX.2.2.1 (.declares ⟨"java/lang/Exception", "<init>", "(Ljava/lang/String;)V"⟩) (by decide +kernel))) (vx_c (va_Nw.use rfl (hEX.2.2.1 (.declares ⟨"java/lang/Throwable", "<init>", "(Ljava/lang/String;)V"⟩) (by decide +kernel))) (vx_n)))))) (by decide +kernel) hEX.1 hEX.2.1 hS (hl.1.trans hml.symm) dX0_close_16 dX0_close_19 dX0_close_20 dX0_close_22 dX0_close_25 (fun x hx => (hEx x hx).elim) (Nat.le_of_ble_eq_true rfl) (Nat.le_of_ble_eq_true rfl) (Nat.le_of_ble_eq_true rfl) (Nat.le_of_ble_eq_true rfl) hlocks (fun t ha hsz hk => ⟨(), trivial, ⟨⟨rfl, h0⟩, hP.kept (fun k q hq => hk q.1 (hP k q hq).lt), va_K.moved ha hK, hD⟩, Nat.le_trans hS.1 hsz, fun q h1 h2 => (hk q (Nat.lt_of_lt_of_le h1 hS.1)).trans (hS.2.1 q h1 h2)⟩) hS.2.2 (Nat.le_of_ble_eq_true rfl) (Nat.le_of_ble_eq_true rfl)
  · have h0 : 0 < lv := by
      rcases Nat.eq_zero_or_pos lv with q | q
      · exact absurd (by rw [q, nI_0]; decide) cb_36
      · exact q
    have h41 : lv < 41 := by omega
    refine lv_aload_n hx hb dX0_close_7 rfl (lv_at hl 0 rfl) ?_
    refine va_get (D := (dC, dI)) (ci := 0) (v := .int (nI lv)) (C := RX0) (T := TX0) (N := 13) hx hb htA inX0 hown hK hP 0 rfl rfl 7 (by decide) (htA _ lkX0_73) (fun _ h9 => h9) rfl dX0_close_8 ?_
    refine lv_bipush (v := 40) hx hb dX0_close_11 (by decide) ?_
    refine lv_icmp_le (tgt := 26) hx hb dX0_close_13 (by decide) (fun cb_37 => ?_) (fun cb_37 => ?_)
    · refine lv_aload_n hx hb dX0_close_26 rfl (lv_at hl 0 rfl) ?_
      refine va_get (D := (dC, dI)) (ci := 0) (v := .int (nI cc)) (C := RX0) (T := TX0) (N := 13) hx hb htA inX0 hown hK hP 0 rfl rfl 6 (by decide) (htA _ lkX0_64) (fun _ h9 => h9) rfl dX0_close_27 ?_
      refine lv_aload_n hx hb dX0_close_30 rfl (lv_at hl 0 rfl) ?_
      refine va_get (D := (dC, dI)) (ci := 0) (v := .ref q3) (C := RX0) (T := TX0) (N := 13) hx hb htA inX0 hown hK hP 0 rfl rfl 2 (by decide) (htA _ lkX0_16) (fun _ h9 => h9) rfl dX0_close_31 ?_
      refine lv_aload_n hx hb dX0_close_34 rfl (lv_at hl 0 rfl) ?_
      refine va_get (D := (dC, dI)) (ci := 0) (v := .int (nI lv)) (C := RX0) (T := TX0) (N := 13) hx hb htA inX0 hown hK hP 0 rfl rfl 7 (by decide) (htA _ lkX0_73) (fun _ h9 => h9) rfl dX0_close_35 ?_
      refine yv_iald hx hb hK hP 3 2 rfl rfl (k := lv) h41 (by decide) dX0_close_38 ?_
      refine lv_isub hx hb dX0_close_39 ?_
      refine lv_istore_n (lv' := [(1, .int ((nI cc) - (f3 lv))), (0, .ref h)]) hx hb dX0_close_40 rfl hl (by decide) rfl (fun ls hl => ?_)
      refine lv_aload_n hx hb dX0_close_41 rfl (lv_at hl 1 rfl) ?_
      refine lv_aload_n hx hb dX0_close_42 rfl (lv_at hl 1 rfl) ?_
      refine va_get (D := (dC, dI)) (ci := 0) (v := .ref q3) (C := RX0) (T := TX0) (N := 13) hx hb htA inX0 hown hK hP 0 rfl rfl 2 (by decide) (htA _ lkX0_16) (fun _ h9 => h9) rfl dX0_close_43 ?_
      refine lv_aload_n hx hb dX0_close_46 rfl (lv_at hl 1 rfl) ?_
      refine va_get (D := (dC, dI)) (ci := 0) (v := .int (nI lv)) (C := RX0) (T := TX0) (N := 13) hx hb htA inX0 hown hK hP 0 rfl rfl 7 (by decide) (htA _ lkX0_73) (fun _ h9 => h9) rfl dX0_close_47 ?_
      refine yv_iald hx hb hK hP 3 2 rfl rfl (k := lv) h41 (by decide) dX0_close_50 ?_
      refine va_put (D := (dC, dI)) (ci := 0) (v := .int (f3 lv)) (ty := .int) (C := RX0) (T := TX0) (N := 13) hx hb htA inX0 tyX0 tyX0_ok nX0 hown hK hP hD hS 0 rfl rfl 6 (by decide) (htA _ lkX0_64) (fun _ h9 => h9) rfl (by decide +kernel) rfl rfl (Nat.le_of_ble_eq_true rfl) dX0_close_51 (fun H locs hP hD hS => ?_)
      have hP : va_P (dC, dI) vwCl [yO h q1 q2 q3 q4 q5 q6 (f3 lv) (nI lv) (nI ac) (nI tc) ty tn md, (q1, .inl (k1, 419, .inl f1)), (q2, .inl (k2, 419, .inl f2)), (q3, .inl (k3, 41, .inl f3)), (q4, .inl (k4, 18, .inl f4)), (q5, .inl (k5, 18, .inl f5)), (q6, .inl (k6, 18, .inl f6))] H := hP
      have hD : va_D A [yO h q1 q2 q3 q4 q5 q6 (f3 lv) (nI lv) (nI ac) (nI tc) ty tn md, (q1, .inl (k1, 419, .inl f1)), (q2, .inl (k2, 419, .inl f2)), (q3, .inl (k3, 41, .inl f3)), (q4, .inl (k4, 18, .inl f4)), (q5, .inl (k5, 18, .inl f5)), (q6, .inl (k6, 18, .inl f6))] := hD
      refine lv_aload_n hx hb dX0_close_54 rfl (lv_at hl 1 rfl) ?_
      refine lv_dup hx hb dX0_close_55 rfl ?_
      refine va_get (D := (dC, dI)) (ci := 0) (v := .int (nI lv)) (C := RX0) (T := TX0) (N := 13) hx hb htA inX0 hown hK hP 0 rfl rfl 7 (by decide) (htA _ lkX0_73) (fun _ h9 => h9) rfl dX0_close_56 ?_
      refine lv_iconst (v := 1) hx hb dX0_close_59 (by decide) ?_
      refine lv_isub hx hb dX0_close_60 ?_
      refine W.eq (g2 := F0 m 61 ls [.int (nI (lv - 1)), .ref h]) (by rw [show nI lv - 1 = nI (lv - 1) from pk_sub h0]) ?_
      refine va_put (D := (dC, dI)) (ci := 0) (v := .int (nI (lv - 1))) (ty := .int) (C := RX0) (T := TX0) (N := 13) hx hb htA inX0 tyX0 tyX0_ok nX0 hown hK hP hD hS 0 rfl rfl 7 (by decide) (htA _ lkX0_73) (fun _ h9 => h9) rfl (by decide +kernel) rfl rfl (Nat.le_of_ble_eq_true rfl) dX0_close_61 (fun H locs hP hD hS => ?_)
      have hP : va_P (dC, dI) vwCl [yO h q1 q2 q3 q4 q5 q6 (f3 lv) (nI (lv - 1)) (nI ac) (nI tc) ty tn md, (q1, .inl (k1, 419, .inl f1)), (q2, .inl (k2, 419, .inl f2)), (q3, .inl (k3, 41, .inl f3)), (q4, .inl (k4, 18, .inl f4)), (q5, .inl (k5, 18, .inl f5)), (q6, .inl (k6, 18, .inl f6))] H := hP
      have hD : va_D A [yO h q1 q2 q3 q4 q5 q6 (f3 lv) (nI (lv - 1)) (nI ac) (nI tc) ty tn md, (q1, .inl (k1, 419, .inl f1)), (q2, .inl (k2, 419, .inl f2)), (q3, .inl (k3, 41, .inl f3)), (q4, .inl (k4, 18, .inl f4)), (q5, .inl (k5, 18, .inl f5)), (q6, .inl (k6, 18, .inl f6))] := hD
      refine lv_aload_n hx hb dX0_close_64 rfl (lv_at hl 1 rfl) ?_
      refine lv_iconst (v := (-1)) hx hb dX0_close_65 (by decide) ?_
      refine va_put (D := (dC, dI)) (ci := 0) (v := .int (-1)) (ty := .int) (C := RX0) (T := TX0) (N := 13) hx hb htA inX0 tyX0 tyX0_ok nX0 hown hK hP hD hS 0 rfl rfl 12 (by decide) (htA _ lkX0_28) (fun _ h9 => h9) rfl (by decide +kernel) rfl rfl (Nat.le_of_ble_eq_true rfl) dX0_close_66 (fun H locs hP hD hS => ?_)
      have hP : va_P (dC, dI) vwCl [yO h q1 q2 q3 q4 q5 q6 (f3 lv) (nI (lv - 1)) (nI ac) (nI tc) ty tn (-1), (q1, .inl (k1, 419, .inl f1)), (q2, .inl (k2, 419, .inl f2)), (q3, .inl (k3, 41, .inl f3)), (q4, .inl (k4, 18, .inl f4)), (q5, .inl (k5, 18, .inl f5)), (q6, .inl (k6, 18, .inl f6))] H := hP
      have hD : va_D A [yO h q1 q2 q3 q4 q5 q6 (f3 lv) (nI (lv - 1)) (nI ac) (nI tc) ty tn (-1), (q1, .inl (k1, 419, .inl f1)), (q2, .inl (k2, 419, .inl f2)), (q3, .inl (k3, 41, .inl f3)), (q4, .inl (k4, 18, .inl f4)), (q5, .inl (k5, 18, .inl f5)), (q6, .inl (k6, 18, .inl f6))] := hD
      refine lv_iload_n hx hb dX0_close_69 rfl (lv_at hl 0 rfl) ?_
      refine W.widen (k := 1) (n := 6) (by omega) (by omega) ?_
      refine vx_ret ?_
      exact W.iret (v := (nI cc) - (f3 lv)) hx hb hr (fun t ht hW => ⟨⟨(nI cc) - (f3 lv), (), rfl, ⟨lv - 1, by omega, rfl⟩, by rw [ht]; exact hP, va_K.moved hW.alike hK, hD⟩, hS.F ht⟩) hS.2.2 dX0_close_70
    · exact absurd (nI_le hlv (by omega)) cb_37
set_option maxHeartbeats 4000000 in
set_option maxRecDepth 100000 in
theorem c_assume (l : Launch) (hl9 : l.stackTraces = false) (dC : Nat → ClassId) (dI : Nat → Nat → Nat) (h : Nat) (q1 : Nat) (q2 : Nat) (q3 : Nat) (q4 : Nat) (q5 : Nat) (q6 : Nat) (k1 : ClassId) (k2 : ClassId) (k3 : ClassId) (k4 : ClassId) (k5 : ClassId) (k6 : ClassId) (f1 : Nat → Int32) (f2 : Nat → Int32) (f3 : Nat → Int32) (f4 : Nat → Int32) (f5 : Nat → Int32) (f6 : Nat → Int32) (cc : Nat) (lv : Nat) (ac : Nat) (tc : Nat) (ty : Int32) (tn : Int32) (md : Int32) (p0 : Int32) (sz : Nat) (hac : ac ≤ 18) : vx_Met l yX0_assume wsX0_assume ({ frames := 6, cells := 1, slots := 6, locals := 100 }) (va_Pc [.ref h, .int p0] (fun U => U.heap.size = sz ∧ va_P (dC, dI) vwCl [yO h q1 q2 q3 q4 q5 q6 (nI cc) (nI lv) (nI ac) (nI tc) ty tn md, (q1, .inl (k1, 419, .inl f1)), (q2, .inl (k2, 419, .inl f2)), (q3, .inl (k3, 41, .inl f3)), (q4, .inl (k4, 18, .inl f4)), (q5, .inl (k5, 18, .inl f5)), (q6, .inl (k6, 18, .inl f6))] U.heap ∧ va_K (dC, dI) vwCl [(k1, .int), (k2, .int), (k3, .int), (k4, .int), (k5, .int), (k6, .int)] U ∧ va_D (fun _ => True) [yO h q1 q2 q3 q4 q5 q6 (nI cc) (nI lv) (nI ac) (nI tc) ty tn md, (q1, .inl (k1, 419, .inl f1)), (q2, .inl (k2, 419, .inl f2)), (q3, .inl (k3, 41, .inl f3)), (q4, .inl (k4, 18, .inl f4)), (q5, .inl (k5, 18, .inl f5)), (q6, .inl (k6, 18, .inl f6))] ∧ yEx (va_A [yO h q1 q2 q3 q4 q5 q6 (nI cc) (nI lv) (nI ac) (nI tc) ty tn md, (q1, .inl (k1, 419, .inl f1)), (q2, .inl (k2, 419, .inl f2)), (q3, .inl (k3, 41, .inl f3)), (q4, .inl (k4, 18, .inl f4)), (q5, .inl (k5, 18, .inl f5)), (q6, .inl (k6, 18, .inl f6))] sz) U U.heap)) (va_Qi (fun (r : Int32) (u : Unit) => yLit p0 ∧ ac < 18 ∧ r = nI (ac + 1)) (fun (u : Unit) (t : State) => va_P (dC, dI) vwCl [yO h q1 q2 q3 q4 q5 q6 (nI cc) (nI lv) (nI (ac + 1)) (nI tc) ty tn (-1), (q1, .inl (k1, 419, .inl f1)), (q2, .inl (k2, 419, .inl f2)), (q3, .inl (k3, 41, .inl f3)), (q4, .inl (k4, 18, .inl (upd f4 ac p0))), (q5, .inl (k5, 18, .inl f5)), (q6, .inl (k6, 18, .inl f6))] t.heap ∧ va_K (dC, dI) vwCl [(k1, .int), (k2, .int), (k3, .int), (k4, .int), (k5, .int), (k6, .int)] t ∧ va_D (va_A [yO h q1 q2 q3 q4 q5 q6 (nI cc) (nI lv) (nI ac) (nI tc) ty tn md, (q1, .inl (k1, 419, .inl f1)), (q2, .inl (k2, 419, .inl f2)), (q3, .inl (k3, 41, .inl f3)), (q4, .inl (k4, 18, .inl f4)), (q5, .inl (k5, 18, .inl f5)), (q6, .inl (k6, 18, .inl f6))] sz) [yO h q1 q2 q3 q4 q5 q6 (nI cc) (nI lv) (nI (ac + 1)) (nI tc) ty tn (-1), (q1, .inl (k1, 419, .inl f1)), (q2, .inl (k2, 419, .inl f2)), (q3, .inl (k3, 41, .inl f3)), (q4, .inl (k4, 18, .inl (upd f4 ac p0))), (q5, .inl (k5, 18, .inl f5)), (q6, .inl (k6, 18, .inl f6))]) (va_A [yO h q1 q2 q3 q4 q5 q6 (nI cc) (nI lv) (nI ac) (nI tc) ty tn md, (q1, .inl (k1, 419, .inl f1)), (q2, .inl (k2, 419, .inl f2)), (q3, .inl (k3, 41, .inl f3)), (q4, .inl (k4, 18, .inl f4)), (q5, .inl (k5, 18, .inl f5)), (q6, .inl (k6, 18, .inl f6))] sz)) (vx_X (fun (u : Unit) => True) (fun (E : String) (u : Unit) (t : State) => ((E = "java/lang/IllegalArgumentException" ∧ ¬ yLit p0) ∨ (E = "java/lang/IllegalStateException" ∧ yLit p0 ∧ 18 ≤ ac)) ∧ va_P (dC, dI) vwCl [yO h q1 q2 q3 q4 q5 q6 (nI cc) (nI lv) (nI ac) (nI tc) ty tn md, (q1, .inl (k1, 419, .inl f1)), (q2, .inl (k2, 419, .inl f2)), (q3, .inl (k3, 41, .inl f3)), (q4, .inl (k4, 18, .inl f4)), (q5, .inl (k5, 18, .inl f5)), (q6, .inl (k6, 18, .inl f6))] t.heap ∧ va_K (dC, dI) vwCl [(k1, .int), (k2, .int), (k3, .int), (k4, .int), (k5, .int), (k6, .int)] t ∧ va_D (va_A [yO h q1 q2 q3 q4 q5 q6 (nI cc) (nI lv) (nI ac) (nI tc) ty tn md, (q1, .inl (k1, 419, .inl f1)), (q2, .inl (k2, 419, .inl f2)), (q3, .inl (k3, 41, .inl f3)), (q4, .inl (k4, 18, .inl f4)), (q5, .inl (k5, 18, .inl f5)), (q6, .inl (k6, 18, .inl f6))] sz) [yO h q1 q2 q3 q4 q5 q6 (nI cc) (nI lv) (nI ac) (nI tc) ty tn md, (q1, .inl (k1, 419, .inl f1)), (q2, .inl (k2, 419, .inl f2)), (q3, .inl (k3, 41, .inl f3)), (q4, .inl (k4, 18, .inl f4)), (q5, .inl (k5, 18, .inl f5)), (q6, .inl (k6, 18, .inl f6))]) (va_A [yO h q1 q2 q3 q4 q5 q6 (nI cc) (nI lv) (nI ac) (nI tc) ty tn md, (q1, .inl (k1, 419, .inl f1)), (q2, .inl (k2, 419, .inl f2)), (q3, .inl (k3, 41, .inl f3)), (q4, .inl (k4, 18, .inl f4)), (q5, .inl (k5, 18, .inl f5)), (q6, .inl (k6, 18, .inl f6))] sz)) 1 6 (va_A [yO h q1 q2 q3 q4 q5 q6 (nI cc) (nI lv) (nI ac) (nI tc) ty tn md, (q1, .inl (k1, 419, .inl f1)), (q2, .inl (k2, 419, .inl f2)), (q3, .inl (k3, 41, .inl f3)), (q4, .inl (k4, 18, .inl f4)), (q5, .inl (k5, 18, .inl f5)), (q6, .inl (k6, 18, .inl f6))] sz) := by
  refine vx_ofW (cc := cX0_assume) (maxL := 2) (ret := (some .int)) (by decide) rfl ?_
  intro p e s m args below meth c s₁ B hml hEx hv
  obtain ⟨rfl, hsz, hP, hK, hD0, hEX⟩ := hv
  have hx := B.exec
  have hb := B.bytes
  have hr := B.returns
  have hts := atoms_spec (ws := wsX0_assume) B.pre
  have htA : ∀ w ∈ wsA, w.before _ s = true := fun w h => hts w (List.mem_cons_of_mem _ h)
  have hown : s.vm.findClass RX0 = some m.cls := findClass_of_methodNamed B.named
  have hlocks := B.notSynchronized
  subst hsz
  have hD := hD0.self (sz := s.heap.size)
  generalize hAe : va_A [yO h q1 q2 q3 q4 q5 q6 (nI cc) (nI lv) (nI ac) (nI tc) ty tn md, (q1, .inl (k1, 419, .inl f1)), (q2, .inl (k2, 419, .inl f2)), (q3, .inl (k3, 41, .inl f3)), (q4, .inl (k4, 18, .inl f4)), (q5, .inl (k5, 18, .inl f5)), (q6, .inl (k6, 18, .inl f6))] s.heap.size = A at hD hEX ⊢
  have hA : ∀ q : Nat, s.heap.size ≤ q → A q := fun q h => by rw [← hAe]; exact Or.inr h
  have hS : va_S A s.heap s.heap [] := va_S.rf
  have hP : va_P (dC, dI) vwCl [yO h q1 q2 q3 q4 q5 q6 (nI cc) (nI lv) (nI ac) (nI tc) ty tn md, (q1, .inl (k1, 419, .inl f1)), (q2, .inl (k2, 419, .inl f2)), (q3, .inl (k3, 41, .inl f3)), (q4, .inl (k4, 18, .inl f4)), (q5, .inl (k5, 18, .inl f5)), (q6, .inl (k6, 18, .inl f6))] s.heap := hP
  have hl := lv_entry ([.ref h, .int p0]) (n := 2) (Nat.le_of_ble_eq_true rfl)
  rw [lg_entry_eq]
  generalize (lg_sl ([.ref h, .int p0]) ++ List.replicate (2 - (lg_sl ([.ref h, .int p0])).length) Slot.unset).toArray = ls at hl ⊢
  have hl : lv_has ls 2 [(0, .ref h), (1, .int p0)] := hl
  refine lv_iload_n hx hb dX0_assume_0 rfl (lv_at hl 1 rfl) ?_
  have hPc := hP.sub (ws' := []) [] rfl
  have hDc := hD.sub (ws' := []) [] (by decide) rfl
  have hKc := hK.sub (tys' := []) [] rfl
  have hFc := va_free (wc := []) hD hS hA [] rfl
  refine va_calli (va_runS (As := [.int p0]) (rest := []) ⟨hx, hb, hml, hown, htA⟩ (c_isLiteral l dC dI p0 s.heap.size) (va_cwS 1 htA gX0_32 rfl rfl rfl (by decide +kernel) ⟨Nat.le_of_ble_eq_true rfl, Nat.le_of_ble_eq_true rfl⟩) ⟨fun a U g mk q => by obtain ⟨q0, q1, qP, qK, qD⟩ := q; exact ⟨q0, q1, qP, va_K.moved (u := U) (U := U.calling g mk a) (Vm.Alike.refl U.vm) qK, qD⟩, fun U hU hW => ⟨rfl, by rw [hU], by rw [hU]; exact hPc, va_K.moved hW.alike hKc, hDc.weaken (fun _ _ _ _ => trivial)⟩⟩ rfl rfl hl.1 rfl (lv_room (Nat.le_of_ble_eq_true rfl)) dX0_assume_1 ⟨Nat.zero_le _, Nat.zero_le _⟩) hS (fun q _ h => hFc q h) hFc (fun rl u t H1 locs ht hvm hw hB hz1 hk1 hS => ?_)
  obtain ⟨hP1, hK1, hD1⟩ := hB
  rw [ht] at hP1
  try dsimp only at hw hP1 hD1
  obtain ⟨hP, hD⟩ := va_join (wr := [yO h q1 q2 q3 q4 q5 q6 (nI cc) (nI lv) (nI ac) (nI tc) ty tn md, (q1, .inl (k1, 419, .inl f1)), (q2, .inl (k2, 419, .inl f2)), (q3, .inl (k3, 41, .inl f3)), (q4, .inl (k4, 18, .inl f4)), (q5, .inl (k5, 18, .inl f5)), (q6, .inl (k6, 18, .inl f6))]) (w1 := []) hP hD [] [0, 1, 2, 3, 4, 5, 6] rfl rfl (by decide) (by decide) hk1 hFc hP1 hD1
  generalize H1 = H at hP hS ⊢
  have hP : va_P (dC, dI) vwCl [yO h q1 q2 q3 q4 q5 q6 (nI cc) (nI lv) (nI ac) (nI tc) ty tn md, (q1, .inl (k1, 419, .inl f1)), (q2, .inl (k2, 419, .inl f2)), (q3, .inl (k3, 41, .inl f3)), (q4, .inl (k4, 18, .inl f4)), (q5, .inl (k5, 18, .inl f5)), (q6, .inl (k6, 18, .inl f6))] H := hP.sub [0, 1, 2, 3, 4, 5, 6] rfl
  have hD : va_D A [yO h q1 q2 q3 q4 q5 q6 (nI cc) (nI lv) (nI ac) (nI tc) ty tn md, (q1, .inl (k1, 419, .inl f1)), (q2, .inl (k2, 419, .inl f2)), (q3, .inl (k3, 41, .inl f3)), (q4, .inl (k4, 18, .inl f4)), (q5, .inl (k5, 18, .inl f5)), (q6, .inl (k6, 18, .inl f6))] := hD.sub [0, 1, 2, 3, 4, 5, 6] (by decide) rfl
  rcases hw with ⟨rfl, hl1⟩ | ⟨rfl, hl1⟩
  · refine lv_if_ne (tgt := 17) hx hb dX0_assume_4 (by decide) (fun cb_38 => ?_) (fun cb_38 => ?_)
    · refine lv_aload_n hx hb dX0_assume_17 rfl (lv_at hl 0 rfl) ?_
      refine va_get (D := (dC, dI)) (ci := 0) (v := .int (nI ac)) (C := RX0) (T := TX0) (N := 13) hx hb htA inX0 hown hK hP 0 rfl rfl 8 (by decide) (htA _ lkX0_80) (fun _ h9 => h9) rfl dX0_assume_18 ?_
      refine lv_bipush (v := 18) hx hb dX0_assume_21 (by decide) ?_
      refine lv_icmp_lt (tgt := 36) hx hb dX0_assume_23 (by decide) (fun cb_40 => ?_) (fun cb_40 => ?_)
      · have h18 : ac < 18 := by
          rcases Nat.lt_or_ge ac 18 with q | q
          · exact q
          · exact absurd cb_40 (nI_nlt q (by omega))
        refine lv_aload_n hx hb dX0_assume_36 rfl (lv_at hl 0 rfl) ?_
        refine va_get (D := (dC, dI)) (ci := 0) (v := .ref q4) (C := RX0) (T := TX0) (N := 13) hx hb htA inX0 hown hK hP 0 rfl rfl 3 (by decide) (htA _ lkX0_19) (fun _ h9 => h9) rfl dX0_assume_37 ?_
        refine lv_aload_n hx hb dX0_assume_40 rfl (lv_at hl 0 rfl) ?_
        refine va_get (D := (dC, dI)) (ci := 0) (v := .int (nI ac)) (C := RX0) (T := TX0) (N := 13) hx hb htA inX0 hown hK hP 0 rfl rfl 8 (by decide) (htA _ lkX0_80) (fun _ h9 => h9) rfl dX0_assume_41 ?_
        refine lv_iload_n hx hb dX0_assume_44 rfl (lv_at hl 1 rfl) ?_
        refine yv_iast hx hb hK hP hD hS 4 3 rfl rfl (k := ac) h18 (by decide) dX0_assume_45 (fun H locs hP hD hS => ?_)
        have hP : va_P (dC, dI) vwCl [yO h q1 q2 q3 q4 q5 q6 (nI cc) (nI lv) (nI ac) (nI tc) ty tn md, (q1, .inl (k1, 419, .inl f1)), (q2, .inl (k2, 419, .inl f2)), (q3, .inl (k3, 41, .inl f3)), (q4, .inl (k4, 18, .inl (upd f4 ac p0))), (q5, .inl (k5, 18, .inl f5)), (q6, .inl (k6, 18, .inl f6))] H := hP
        have hD : va_D A [yO h q1 q2 q3 q4 q5 q6 (nI cc) (nI lv) (nI ac) (nI tc) ty tn md, (q1, .inl (k1, 419, .inl f1)), (q2, .inl (k2, 419, .inl f2)), (q3, .inl (k3, 41, .inl f3)), (q4, .inl (k4, 18, .inl (upd f4 ac p0))), (q5, .inl (k5, 18, .inl f5)), (q6, .inl (k6, 18, .inl f6))] := hD
        refine lv_aload_n hx hb dX0_assume_46 rfl (lv_at hl 0 rfl) ?_
        refine lv_dup hx hb dX0_assume_47 rfl ?_
        refine va_get (D := (dC, dI)) (ci := 0) (v := .int (nI ac)) (C := RX0) (T := TX0) (N := 13) hx hb htA inX0 hown hK hP 0 rfl rfl 8 (by decide) (htA _ lkX0_80) (fun _ h9 => h9) rfl dX0_assume_48 ?_
        refine lv_iconst (v := 1) hx hb dX0_assume_51 (by decide) ?_
        refine lv_iadd hx hb dX0_assume_52 ?_
        refine W.eq (g2 := F0 m 53 ls [.int (nI (ac + 1)), .ref h]) (by rw [nI_1]) ?_
        refine va_put (D := (dC, dI)) (ci := 0) (v := .int (nI (ac + 1))) (ty := .int) (C := RX0) (T := TX0) (N := 13) hx hb htA inX0 tyX0 tyX0_ok nX0 hown hK hP hD hS 0 rfl rfl 8 (by decide) (htA _ lkX0_80) (fun _ h9 => h9) rfl (by decide +kernel) rfl rfl (Nat.le_of_ble_eq_true rfl) dX0_assume_53 (fun H locs hP hD hS => ?_)
        have hP : va_P (dC, dI) vwCl [yO h q1 q2 q3 q4 q5 q6 (nI cc) (nI lv) (nI (ac + 1)) (nI tc) ty tn md, (q1, .inl (k1, 419, .inl f1)), (q2, .inl (k2, 419, .inl f2)), (q3, .inl (k3, 41, .inl f3)), (q4, .inl (k4, 18, .inl (upd f4 ac p0))), (q5, .inl (k5, 18, .inl f5)), (q6, .inl (k6, 18, .inl f6))] H := hP
        have hD : va_D A [yO h q1 q2 q3 q4 q5 q6 (nI cc) (nI lv) (nI (ac + 1)) (nI tc) ty tn md, (q1, .inl (k1, 419, .inl f1)), (q2, .inl (k2, 419, .inl f2)), (q3, .inl (k3, 41, .inl f3)), (q4, .inl (k4, 18, .inl (upd f4 ac p0))), (q5, .inl (k5, 18, .inl f5)), (q6, .inl (k6, 18, .inl f6))] := hD
        refine lv_aload_n hx hb dX0_assume_56 rfl (lv_at hl 0 rfl) ?_
        refine lv_iconst (v := (-1)) hx hb dX0_assume_57 (by decide) ?_
        refine va_put (D := (dC, dI)) (ci := 0) (v := .int (-1)) (ty := .int) (C := RX0) (T := TX0) (N := 13) hx hb htA inX0 tyX0 tyX0_ok nX0 hown hK hP hD hS 0 rfl rfl 12 (by decide) (htA _ lkX0_28) (fun _ h9 => h9) rfl (by decide +kernel) rfl rfl (Nat.le_of_ble_eq_true rfl) dX0_assume_58 (fun H locs hP hD hS => ?_)
        have hP : va_P (dC, dI) vwCl [yO h q1 q2 q3 q4 q5 q6 (nI cc) (nI lv) (nI (ac + 1)) (nI tc) ty tn (-1), (q1, .inl (k1, 419, .inl f1)), (q2, .inl (k2, 419, .inl f2)), (q3, .inl (k3, 41, .inl f3)), (q4, .inl (k4, 18, .inl (upd f4 ac p0))), (q5, .inl (k5, 18, .inl f5)), (q6, .inl (k6, 18, .inl f6))] H := hP
        have hD : va_D A [yO h q1 q2 q3 q4 q5 q6 (nI cc) (nI lv) (nI (ac + 1)) (nI tc) ty tn (-1), (q1, .inl (k1, 419, .inl f1)), (q2, .inl (k2, 419, .inl f2)), (q3, .inl (k3, 41, .inl f3)), (q4, .inl (k4, 18, .inl (upd f4 ac p0))), (q5, .inl (k5, 18, .inl f5)), (q6, .inl (k6, 18, .inl f6))] := hD
        refine lv_aload_n hx hb dX0_assume_61 rfl (lv_at hl 0 rfl) ?_
        refine va_get (D := (dC, dI)) (ci := 0) (v := .int (nI (ac + 1))) (C := RX0) (T := TX0) (N := 13) hx hb htA inX0 hown hK hP 0 rfl rfl 8 (by decide) (htA _ lkX0_80) (fun _ h9 => h9) rfl dX0_assume_62 ?_
        refine W.widen (k := 1) (n := 6) (by omega) (by omega) ?_
        refine vx_ret ?_
        exact W.iret (v := nI (ac + 1)) hx hb hr (fun t ht hW => ⟨⟨nI (ac + 1), (), rfl, ⟨hl1, h18, rfl⟩, by rw [ht]; exact hP, va_K.moved hW.alike hK, hD⟩, hS.F ht⟩) hS.2.2 dX0_assume_65
      · have h18 : 18 ≤ ac := by
          rcases Nat.lt_or_ge ac 18 with q | q
          · exact absurd (nI_lt q (by omega)) cb_40
          · exact q
        obtain ⟨sa9, hstr⟩ := hEX.2.2.2 (83, "too many assumptions") (by decide)
        exact vx_throwS (own := RX0) (cls := "java/lang/IllegalStateException") (text := "too many assumptions") (names := ["java/lang/RuntimeException", "java/lang/Exception"]) hx hb hl9 hown (by decide +kernel) (by decide +kernel) (htA _ lkX0_46) (htA _ ini_IllegalStateException) hstr (vx_hat (L := vx_atS RX0 50 "java/lang/IllegalStateException" ["java/lang/RuntimeException", "java/lang/Exception"]) (B := [.castable "java/lang/IllegalStateException" "java/lang/IllegalStateException", .declares ⟨"java/lang/RuntimeException", "<init>", "(Ljava/lang/String;)V"⟩, .declares ⟨"java/lang/Exception", "<init>", "(Ljava/lang/String;)V"⟩, .declares ⟨"java/lang/Throwable", "<init>", "(Ljava/lang/String;)V"⟩]) (fun w hw => htA w (at_ISE w hw)) (by decide +kernel) (vx_c (va_Nw.use rfl (hEX.2.2.1 (.castable "java/lang/IllegalStateException" "java/lang/IllegalStateException") (by decide +kernel))) (vx_c (va_Nw.use rfl (hEX.2.2.1 (.declares ⟨"java/lang/RuntimeException", "<init>", "(Ljava/lang/String;)V"⟩) (by decide +kernel))) (vx_c (va_Nw.use rfl (hEX.2.2.1 (.declares ⟨"java/lang/Exception", "<init>", "(Ljava/lang/String;)V"⟩) (by decide +kernel))) (vx_c (va_Nw.use rfl (hEX.2.2.1 (.declares ⟨"java/lang/Throwable", "<init>", "(Ljava/lang/String;)V"⟩) (by decide +kernel))) (vx_n)))))) (by decide +kernel) hEX.1 hEX.2.1 hS (hl.1.trans hml.symm) dX0_assume_26 dX0_assume_29 dX0_assume_30 dX0_assume_32 dX0_assume_35 (fun x hx => (hEx x hx).elim) (Nat.le_of_ble_eq_true rfl) (Nat.le_of_ble_eq_true rfl) (Nat.le_of_ble_eq_true rfl) (Nat.le_of_ble_eq_true rfl) hlocks (fun t ha hsz hk => ⟨(), trivial, ⟨Or.inr ⟨rfl, hl1, h18⟩, hP.kept (fun k q hq => hk q.1 (hP k q hq).lt), va_K.moved ha hK, hD⟩, Nat.le_trans hS.1 hsz, fun q h1 h2 => (hk q (Nat.lt_of_lt_of_le h1 hS.1)).trans (hS.2.1 q h1 h2)⟩) hS.2.2 (Nat.le_of_ble_eq_true rfl) (Nat.le_of_ble_eq_true rfl)
    · exact absurd cb_38 (by decide)
  · refine lv_if_ne (tgt := 17) hx hb dX0_assume_4 (by decide) (fun cb_39 => ?_) (fun cb_39 => ?_)
    · exact absurd rfl cb_39
    · obtain ⟨sa9, hstr⟩ := hEX.2.2.2 (38, "no literal") (by decide)
      exact vx_throwS (own := RX0) (cls := "java/lang/IllegalArgumentException") (text := "no literal") (names := ["java/lang/RuntimeException", "java/lang/Exception"]) hx hb hl9 hown (by decide +kernel) (by decide +kernel) (htA _ lkX0_36) (htA _ ini_IllegalArgumentException) hstr (vx_hat (L := vx_atS RX0 40 "java/lang/IllegalArgumentException" ["java/lang/RuntimeException", "java/lang/Exception"]) (B := [.castable "java/lang/IllegalArgumentException" "java/lang/IllegalArgumentException", .declares ⟨"java/lang/RuntimeException", "<init>", "(Ljava/lang/String;)V"⟩, .declares ⟨"java/lang/Exception", "<init>", "(Ljava/lang/String;)V"⟩, .declares ⟨"java/lang/Throwable", "<init>", "(Ljava/lang/String;)V"⟩]) (fun w hw => htA w (at_IAE w hw)) (by decide +kernel) (vx_c (va_Nw.use rfl (hEX.2.2.1 (.castable "java/lang/IllegalArgumentException" "java/lang/IllegalArgumentException") (by decide +kernel))) (vx_c (va_Nw.use rfl (hEX.2.2.1 (.declares ⟨"java/lang/RuntimeException", "<init>", "(Ljava/lang/String;)V"⟩) (by decide +kernel))) (vx_c (va_Nw.use rfl (hEX.2.2.1 (.declares ⟨"java/lang/Exception", "<init>", "(Ljava/lang/String;)V"⟩) (by decide +kernel))) (vx_c (va_Nw.use rfl (hEX.2.2.1 (.declares ⟨"java/lang/Throwable", "<init>", "(Ljava/lang/String;)V"⟩) (by decide +kernel))) (vx_n)))))) (by decide +kernel) hEX.1 hEX.2.1 hS (hl.1.trans hml.symm) dX0_assume_7 dX0_assume_10 dX0_assume_11 dX0_assume_13 dX0_assume_16 (fun x hx => (hEx x hx).elim) (Nat.le_of_ble_eq_true rfl) (Nat.le_of_ble_eq_true rfl) (Nat.le_of_ble_eq_true rfl) (Nat.le_of_ble_eq_true rfl) hlocks (fun t ha hsz hk => ⟨(), trivial, ⟨Or.inl ⟨rfl, hl1⟩, hP.kept (fun k q hq => hk q.1 (hP k q hq).lt), va_K.moved ha hK, hD⟩, Nat.le_trans hS.1 hsz, fun q h1 h2 => (hk q (Nat.lt_of_lt_of_le h1 hS.1)).trans (hS.2.1 q h1 h2)⟩) hS.2.2 (Nat.le_of_ble_eq_true rfl) (Nat.le_of_ble_eq_true rfl)
