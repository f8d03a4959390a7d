set_option maxHeartbeats 4000000 in
set_option maxRecDepth 100000 in
theorem c_next (l : Launch) (hl9 : l.stackTraces = false) (dC : Nat → ClassId) (dI : Nat → Nat → Nat) (h : Nat) (q1 : Nat) (q2 : Nat) (q3 : Nat) (q4 : Nat) (q5 : Nat) (q6 : Nat) (k1 : ClassId) (k2 : ClassId) (k3 : ClassId) (k4 : ClassId) (k5 : ClassId) (k6 : ClassId) (f1 : Nat → Int32) (f2 : Nat → Int32) (f3 : Nat → Int32) (f4 : Nat → Int32) (f5 : Nat → Int32) (f6 : Nat → Int32) (cc : Nat) (lv : Nat) (ac : Nat) (tc : Nat) (ty : Int32) (tn : Int32) (md : Int32) (sz : Nat) (hcc : cc ≤ 400) (hac : ac ≤ 18) (hm : ∀ j, j < cc → ym (f1 j) ∧ ym (f2 j)) (hlit : ∀ j, j < ac → yLit (f4 j)) (hmd : md = -1 ∨ ∃ c0, c0 < 262144 ∧ md = nI c0) : vx_Met l yX0_next wsX0_next ({ frames := 6, cells := 1, slots := 6, locals := 120 }) (va_Pc [.ref h] (fun U => U.heap.size = sz ∧ va_P (dC, dI) vwCl [yO h q1 q2 q3 q4 q5 q6 (nI cc) (nI lv) (nI ac) (nI tc) ty tn md, (q1, .inl (k1, 419, .inl f1)), (q2, .inl (k2, 419, .inl f2)), (q3, .inl (k3, 41, .inl f3)), (q4, .inl (k4, 18, .inl f4)), (q5, .inl (k5, 18, .inl f5)), (q6, .inl (k6, 18, .inl f6))] U.heap ∧ va_K (dC, dI) vwCl [(k1, .int), (k2, .int), (k3, .int), (k4, .int), (k5, .int), (k6, .int)] U ∧ va_D (fun _ => True) [yO h q1 q2 q3 q4 q5 q6 (nI cc) (nI lv) (nI ac) (nI tc) ty tn md, (q1, .inl (k1, 419, .inl f1)), (q2, .inl (k2, 419, .inl f2)), (q3, .inl (k3, 41, .inl f3)), (q4, .inl (k4, 18, .inl f4)), (q5, .inl (k5, 18, .inl f5)), (q6, .inl (k6, 18, .inl f6))] ∧ yEx (va_A [yO h q1 q2 q3 q4 q5 q6 (nI cc) (nI lv) (nI ac) (nI tc) ty tn md, (q1, .inl (k1, 419, .inl f1)), (q2, .inl (k2, 419, .inl f2)), (q3, .inl (k3, 41, .inl f3)), (q4, .inl (k4, 18, .inl f4)), (q5, .inl (k5, 18, .inl f5)), (q6, .inl (k6, 18, .inl f6))] sz) U U.heap)) (va_Qi (fun (r : Int32) (u : (Nat → Int32) × (Nat → Int32) × (Nat → Int32) × (Nat → Int32) × Int32) => ∃ c0, c0 < 262144 ∧ md = nI c0 ∧ (∀ j, j < cc → u.1 j = f1 j ∧ u.2.1 j = f2 j) ∧ yL (yGood f1 f2 f4 cc ac) (c0 + 1) r ∧ u.2.2.2.2 = r) (fun (u : (Nat → Int32) × (Nat → Int32) × (Nat → Int32) × (Nat → Int32) × Int32) (t : State) => va_P (dC, dI) vwCl [yO h q1 q2 q3 q4 q5 q6 (nI cc) (nI lv) (nI ac) (nI tc) ty tn u.2.2.2.2, (q1, .inl (k1, 419, .inl u.1)), (q2, .inl (k2, 419, .inl u.2.1)), (q3, .inl (k3, 41, .inl f3)), (q4, .inl (k4, 18, .inl f4)), (q5, .inl (k5, 18, .inl u.2.2.1)), (q6, .inl (k6, 18, .inl u.2.2.2.1))] t.heap ∧ va_K (dC, dI) vwCl [(k1, .int), (k2, .int), (k3, .int), (k4, .int), (k5, .int), (k6, .int)] t ∧ va_D (va_A [yO h q1 q2 q3 q4 q5 q6 (nI cc) (nI lv) (nI ac) (nI tc) ty tn md, (q1, .inl (k1, 419, .inl f1)), (q2, .inl (k2, 419, .inl f2)), (q3, .inl (k3, 41, .inl f3)), (q4, .inl (k4, 18, .inl f4)), (q5, .inl (k5, 18, .inl f5)), (q6, .inl (k6, 18, .inl f6))] sz) [yO h q1 q2 q3 q4 q5 q6 (nI cc) (nI lv) (nI ac) (nI tc) ty tn u.2.2.2.2, (q1, .inl (k1, 419, .inl u.1)), (q2, .inl (k2, 419, .inl u.2.1)), (q3, .inl (k3, 41, .inl f3)), (q4, .inl (k4, 18, .inl f4)), (q5, .inl (k5, 18, .inl u.2.2.1)), (q6, .inl (k6, 18, .inl u.2.2.2.1))]) (va_A [yO h q1 q2 q3 q4 q5 q6 (nI cc) (nI lv) (nI ac) (nI tc) ty tn md, (q1, .inl (k1, 419, .inl f1)), (q2, .inl (k2, 419, .inl f2)), (q3, .inl (k3, 41, .inl f3)), (q4, .inl (k4, 18, .inl f4)), (q5, .inl (k5, 18, .inl f5)), (q6, .inl (k6, 18, .inl f6))] sz)) (vx_X (fun (u : Unit) => True) (fun (E : String) (u : Unit) (t : State) => (E = "java/lang/IllegalStateException" ∧ md = -1) ∧ va_P (dC, dI) vwCl [yO h q1 q2 q3 q4 q5 q6 (nI cc) (nI lv) (nI ac) (nI tc) ty tn md, (q1, .inl (k1, 419, .inl f1)), (q2, .inl (k2, 419, .inl f2)), (q3, .inl (k3, 41, .inl f3)), (q4, .inl (k4, 18, .inl f4)), (q5, .inl (k5, 18, .inl f5)), (q6, .inl (k6, 18, .inl f6))] t.heap ∧ va_K (dC, dI) vwCl [(k1, .int), (k2, .int), (k3, .int), (k4, .int), (k5, .int), (k6, .int)] t ∧ va_D (va_A [yO h q1 q2 q3 q4 q5 q6 (nI cc) (nI lv) (nI ac) (nI tc) ty tn md, (q1, .inl (k1, 419, .inl f1)), (q2, .inl (k2, 419, .inl f2)), (q3, .inl (k3, 41, .inl f3)), (q4, .inl (k4, 18, .inl f4)), (q5, .inl (k5, 18, .inl f5)), (q6, .inl (k6, 18, .inl f6))] sz) [yO h q1 q2 q3 q4 q5 q6 (nI cc) (nI lv) (nI ac) (nI tc) ty tn md, (q1, .inl (k1, 419, .inl f1)), (q2, .inl (k2, 419, .inl f2)), (q3, .inl (k3, 41, .inl f3)), (q4, .inl (k4, 18, .inl f4)), (q5, .inl (k5, 18, .inl f5)), (q6, .inl (k6, 18, .inl f6))]) (va_A [yO h q1 q2 q3 q4 q5 q6 (nI cc) (nI lv) (nI ac) (nI tc) ty tn md, (q1, .inl (k1, 419, .inl f1)), (q2, .inl (k2, 419, .inl f2)), (q3, .inl (k3, 41, .inl f3)), (q4, .inl (k4, 18, .inl f4)), (q5, .inl (k5, 18, .inl f5)), (q6, .inl (k6, 18, .inl f6))] sz)) 1 6 (va_A [yO h q1 q2 q3 q4 q5 q6 (nI cc) (nI lv) (nI ac) (nI tc) ty tn md, (q1, .inl (k1, 419, .inl f1)), (q2, .inl (k2, 419, .inl f2)), (q3, .inl (k3, 41, .inl f3)), (q4, .inl (k4, 18, .inl f4)), (q5, .inl (k5, 18, .inl f5)), (q6, .inl (k6, 18, .inl f6))] sz) := by
  refine vx_ofW (cc := cX0_next) (maxL := 1) (ret := (some .int)) (by decide) rfl ?_
  intro p e s m args below meth c s₁ B hml hEx hv
  obtain ⟨rfl, hsz, hP, hK, hD0, hEX⟩ := hv
  have hx := B.exec
  have hb := B.bytes
  have hr := B.returns
  have hts := atoms_spec (ws := wsX0_next) B.pre
  have htA : ∀ w ∈ wsA, w.before _ s = true := fun w h => hts w (List.mem_cons_of_mem _ h)
  have hown : s.vm.findClass RX0 = some m.cls := findClass_of_methodNamed B.named
  have hlocks := B.notSynchronized
  subst hsz
  have hD := hD0.self (sz := s.heap.size)
  generalize hAe : va_A [yO h q1 q2 q3 q4 q5 q6 (nI cc) (nI lv) (nI ac) (nI tc) ty tn md, (q1, .inl (k1, 419, .inl f1)), (q2, .inl (k2, 419, .inl f2)), (q3, .inl (k3, 41, .inl f3)), (q4, .inl (k4, 18, .inl f4)), (q5, .inl (k5, 18, .inl f5)), (q6, .inl (k6, 18, .inl f6))] s.heap.size = A at hD hEX ⊢
  have hA : ∀ q : Nat, s.heap.size ≤ q → A q := fun q h => by rw [← hAe]; exact Or.inr h
  have hS : va_S A s.heap s.heap [] := va_S.rf
  have hP : va_P (dC, dI) vwCl [yO h q1 q2 q3 q4 q5 q6 (nI cc) (nI lv) (nI ac) (nI tc) ty tn md, (q1, .inl (k1, 419, .inl f1)), (q2, .inl (k2, 419, .inl f2)), (q3, .inl (k3, 41, .inl f3)), (q4, .inl (k4, 18, .inl f4)), (q5, .inl (k5, 18, .inl f5)), (q6, .inl (k6, 18, .inl f6))] s.heap := hP
  have hl := lv_entry ([.ref h]) (n := 1) (Nat.le_of_ble_eq_true rfl)
  rw [lg_entry_eq]
  generalize (lg_sl ([.ref h]) ++ List.replicate (1 - (lg_sl ([.ref h])).length) Slot.unset).toArray = ls at hl ⊢
  have hl : lv_has ls 1 [(0, .ref h)] := hl
  refine lv_aload_n hx hb dX0_next_0 rfl (lv_at hl 0 rfl) ?_
  refine va_get (D := (dC, dI)) (ci := 0) (v := .int md) (C := RX0) (T := TX0) (N := 13) hx hb htA inX0 hown hK hP 0 rfl rfl 12 (by decide) (htA _ lkX0_28) (fun _ h9 => h9) rfl dX0_next_1 ?_
  refine lv_iconst (v := (-1)) hx hb dX0_next_4 (by decide) ?_
  refine lv_icmp_ne (tgt := 18) hx hb dX0_next_5 (by decide) (fun cb_41 => ?_) (fun cb_41 => ?_)
  · obtain ⟨c0, hc0, emd⟩ := hmd.resolve_left cb_41
    refine lv_aload_n hx hb dX0_next_18 rfl (lv_at hl 0 rfl) ?_
    refine lv_aload_n hx hb dX0_next_19 rfl (lv_at hl 0 rfl) ?_
    refine lv_aload_n hx hb dX0_next_20 rfl (lv_at hl 0 rfl) ?_
    refine va_get (D := (dC, dI)) (ci := 0) (v := .int md) (C := RX0) (T := TX0) (N := 13) hx hb htA inX0 hown hK hP 0 rfl rfl 12 (by decide) (htA _ lkX0_28) (fun _ h9 => h9) rfl dX0_next_21 ?_
    refine lv_iconst (v := 1) hx hb dX0_next_24 (by decide) ?_
    refine lv_iadd hx hb dX0_next_25 ?_
    refine W.eq (g2 := F0 m 26 ls [.int (nI (c0 + 1)), .ref h, .ref h]) (by rw [emd, nI_1]) ?_
    refine lv_aload_n hx hb dX0_next_26 rfl (lv_at hl 0 rfl) ?_
    refine lv_iconst (v := (-1)) hx hb dX0_next_27 (by decide) ?_
    have hPc := hP.sub (ws' := [yO h q1 q2 q3 q4 q5 q6 (nI cc) (nI lv) (nI ac) (nI tc) ty tn md, (q1, .inl (k1, 419, .inl f1)), (q2, .inl (k2, 419, .inl f2)), (q4, .inl (k4, 18, .inl f4))]) [0, 1, 2, 4] rfl
    have hDc := hD.sub (ws' := [yO h q1 q2 q3 q4 q5 q6 (nI cc) (nI lv) (nI ac) (nI tc) ty tn md, (q1, .inl (k1, 419, .inl f1)), (q2, .inl (k2, 419, .inl f2)), (q4, .inl (k4, 18, .inl f4))]) [0, 1, 2, 4] (by decide) rfl
    have hKc := hK.sub (tys' := [(k1, .int), (k2, .int), (k4, .int)]) [0, 1, 3] rfl
    have hFc := va_free (wc := [yO h q1 q2 q3 q4 q5 q6 (nI cc) (nI lv) (nI ac) (nI tc) ty tn md, (q1, .inl (k1, 419, .inl f1)), (q2, .inl (k2, 419, .inl f2)), (q4, .inl (k4, 18, .inl f4))]) hD hS hA [0, 1, 2, 4] rfl
    refine va_calli (va_runV (As := [.int (-1)]) (rest := [.int (nI (c0 + 1)), .ref h, .ref h]) ⟨hx, hb, hml, hown, htA⟩ (c_writeAssumptions l dC dI h q1 q2 q3 q4 q5 q6 k1 k2 k4 f1 f2 f4 cc (nI lv) ac (nI tc) ty tn md (-1) s.heap.size hcc hac hm hlit) (cwV 1 htA gX0_85 rfl rfl rfl (by decide +kernel) ⟨Nat.le_of_ble_eq_true rfl, Nat.le_of_ble_eq_true rfl⟩) ⟨fun a U g mk q => by obtain ⟨q0, q1, qP, qK, qD⟩ := q; exact ⟨q0, q1, qP, va_K.moved (u := U) (U := U.calling g mk a) (Vm.Alike.refl U.vm) qK, qD⟩, va_recv hKc hPc (ci := 0) (q0 := 0) rfl rfl, fun U hU hW => ⟨rfl, by rw [hU], by rw [hU]; exact hPc, va_K.moved hW.alike hKc, hDc.weaken (fun _ _ _ _ => trivial)⟩⟩ rfl rfl hl.1 rfl (lv_room (Nat.le_of_ble_eq_true rfl)) dX0_next_28 ⟨Nat.zero_le _, Nat.zero_le _⟩) hS (fun q _ h => hFc q h) hFc (fun r1 u t H1 locs ht hvm hw hB hz1 hk1 hS => ?_)
    obtain ⟨d1, d2⟩ := u
    obtain ⟨hP1, hK1, hD1⟩ := hB
    rw [ht] at hP1
    try dsimp only at hw hP1 hD1
    obtain ⟨hP, hD⟩ := va_join (wr := [(q3, .inl (k3, 41, .inl f3)), (q5, .inl (k5, 18, .inl f5)), (q6, .inl (k6, 18, .inl f6))]) (w1 := [yO h q1 q2 q3 q4 q5 q6 (nI cc) (nI lv) (nI ac) (nI tc) ty tn md, (q1, .inl (k1, 419, .inl d1)), (q2, .inl (k2, 419, .inl d2)), (q4, .inl (k4, 18, .inl f4))]) hP hD [0, 1, 2, 4] [3, 5, 6] rfl rfl (by decide) (by decide) hk1 hFc hP1 hD1
    generalize H1 = H at hP hS ⊢
    have hP : va_P (dC, dI) vwCl [yO h q1 q2 q3 q4 q5 q6 (nI cc) (nI lv) (nI ac) (nI tc) ty tn md, (q1, .inl (k1, 419, .inl d1)), (q2, .inl (k2, 419, .inl d2)), (q3, .inl (k3, 41, .inl f3)), (q4, .inl (k4, 18, .inl f4)), (q5, .inl (k5, 18, .inl f5)), (q6, .inl (k6, 18, .inl f6))] H := hP.sub [3, 4, 5, 0, 6, 1, 2] rfl
    have hD : va_D A [yO h q1 q2 q3 q4 q5 q6 (nI cc) (nI lv) (nI ac) (nI tc) ty tn md, (q1, .inl (k1, 419, .inl d1)), (q2, .inl (k2, 419, .inl d2)), (q3, .inl (k3, 41, .inl f3)), (q4, .inl (k4, 18, .inl f4)), (q5, .inl (k5, 18, .inl f5)), (q6, .inl (k6, 18, .inl f6))] := hD.sub [3, 4, 5, 0, 6, 1, 2] (by decide) rfl
    obtain ⟨rows, rfl, w1, w2, w3, w4, w5⟩ := hw
    have hPc := hP.sub (ws' := [yO h q1 q2 q3 q4 q5 q6 (nI cc) (nI lv) (nI ac) (nI tc) ty tn md, (q1, .inl (k1, 419, .inl d1)), (q2, .inl (k2, 419, .inl d2)), (q5, .inl (k5, 18, .inl f5)), (q6, .inl (k6, 18, .inl f6))]) [0, 1, 2, 5, 6] rfl
    have hDc := hD.sub (ws' := [yO h q1 q2 q3 q4 q5 q6 (nI cc) (nI lv) (nI ac) (nI tc) ty tn md, (q1, .inl (k1, 419, .inl d1)), (q2, .inl (k2, 419, .inl d2)), (q5, .inl (k5, 18, .inl f5)), (q6, .inl (k6, 18, .inl f6))]) [0, 1, 2, 5, 6] (by decide) rfl
    have hKc := hK.sub (tys' := [(k1, .int), (k2, .int), (k5, .int), (k6, .int)]) [0, 1, 4, 5] rfl
    have hFc := va_free (wc := [yO h q1 q2 q3 q4 q5 q6 (nI cc) (nI lv) (nI ac) (nI tc) ty tn md, (q1, .inl (k1, 419, .inl d1)), (q2, .inl (k2, 419, .inl d2)), (q5, .inl (k5, 18, .inl f5)), (q6, .inl (k6, 18, .inl f6))]) hD hS hA [0, 1, 2, 5, 6] rfl
    refine va_calli (va_runV (As := [.int (nI (c0 + 1)), .int (nI rows)]) (rest := [.ref h]) ⟨hx, hb, hml, hown, htA⟩ (c_leastFrom l dC dI h q1 q2 q3 q4 q5 q6 k1 k2 k5 k6 d1 d2 f5 f6 (nI cc) (nI lv) (nI ac) (nI tc) ty tn md (c0 + 1) rows H.size (by omega) (by omega) w4) (cwV 2 htA gX0_88 rfl rfl rfl (by decide +kernel) ⟨Nat.le_of_ble_eq_true rfl, Nat.le_of_ble_eq_true rfl⟩) ⟨fun a U g mk q => by obtain ⟨q0, q1, qP, qK, qD⟩ := q; exact ⟨q0, q1, qP, va_K.moved (u := U) (U := U.calling g mk a) (Vm.Alike.refl U.vm) qK, qD⟩, va_recv hKc hPc (ci := 0) (q0 := 0) rfl rfl, fun U hU hW => ⟨rfl, by rw [hU], by rw [hU]; exact hPc, va_K.moved hW.alike hKc, hDc.weaken (fun _ _ _ _ => trivial)⟩⟩ rfl rfl hl.1 rfl (lv_room (Nat.le_of_ble_eq_true rfl)) dX0_next_31 ⟨Nat.zero_le _, Nat.zero_le _⟩) hS (fun q _ h => hFc q h) hFc (fun r9 u t H1 locs ht hvm hw hB hz1 hk1 hS => ?_)
    obtain ⟨g5, g6⟩ := u
    obtain ⟨hP1, hK1, hD1⟩ := hB
    rw [ht] at hP1
    try dsimp only at hw hP1 hD1
    obtain ⟨hP, hD⟩ := va_join (wr := [(q3, .inl (k3, 41, .inl f3)), (q4, .inl (k4, 18, .inl f4))]) (w1 := [yO h q1 q2 q3 q4 q5 q6 (nI cc) (nI lv) (nI ac) (nI tc) ty tn md, (q1, .inl (k1, 419, .inl d1)), (q2, .inl (k2, 419, .inl d2)), (q5, .inl (k5, 18, .inl g5)), (q6, .inl (k6, 18, .inl g6))]) hP hD [0, 1, 2, 5, 6] [3, 4] rfl rfl (by decide) (by decide) hk1 hFc hP1 hD1
    generalize H1 = H at hP hS ⊢
    have hP : va_P (dC, dI) vwCl [yO h q1 q2 q3 q4 q5 q6 (nI cc) (nI lv) (nI ac) (nI tc) ty tn md, (q1, .inl (k1, 419, .inl d1)), (q2, .inl (k2, 419, .inl d2)), (q3, .inl (k3, 41, .inl f3)), (q4, .inl (k4, 18, .inl f4)), (q5, .inl (k5, 18, .inl g5)), (q6, .inl (k6, 18, .inl g6))] H := hP.sub [2, 3, 4, 0, 1, 5, 6] rfl
    have hD : va_D A [yO h q1 q2 q3 q4 q5 q6 (nI cc) (nI lv) (nI ac) (nI tc) ty tn md, (q1, .inl (k1, 419, .inl d1)), (q2, .inl (k2, 419, .inl d2)), (q3, .inl (k3, 41, .inl f3)), (q4, .inl (k4, 18, .inl f4)), (q5, .inl (k5, 18, .inl g5)), (q6, .inl (k6, 18, .inl g6))] := hD.sub [2, 3, 4, 0, 1, 5, 6] (by decide) rfl
    refine va_put (D := (dC, dI)) (ci := 0) (v := .int r9) (ty := .int) (C := RX0) (T := TX0) (N := 13) hx hb htA inX0 tyX0 tyX0_ok nX0 hown hK hP hD hS 0 rfl rfl 12 (by decide) (htA _ lkX0_28) (fun _ h9 => h9) rfl (by decide +kernel) rfl rfl (Nat.le_of_ble_eq_true rfl) dX0_next_34 (fun H locs hP hD hS => ?_)
    have hP : va_P (dC, dI) vwCl [yO h q1 q2 q3 q4 q5 q6 (nI cc) (nI lv) (nI ac) (nI tc) ty tn r9, (q1, .inl (k1, 419, .inl d1)), (q2, .inl (k2, 419, .inl d2)), (q3, .inl (k3, 41, .inl f3)), (q4, .inl (k4, 18, .inl f4)), (q5, .inl (k5, 18, .inl g5)), (q6, .inl (k6, 18, .inl g6))] H := hP
    have hD : va_D A [yO h q1 q2 q3 q4 q5 q6 (nI cc) (nI lv) (nI ac) (nI tc) ty tn r9, (q1, .inl (k1, 419, .inl d1)), (q2, .inl (k2, 419, .inl d2)), (q3, .inl (k3, 41, .inl f3)), (q4, .inl (k4, 18, .inl f4)), (q5, .inl (k5, 18, .inl g5)), (q6, .inl (k6, 18, .inl g6))] := hD
    refine lv_aload_n hx hb dX0_next_37 rfl (lv_at hl 0 rfl) ?_
    refine va_get (D := (dC, dI)) (ci := 0) (v := .int r9) (C := RX0) (T := TX0) (N := 13) hx hb htA inX0 hown hK hP 0 rfl rfl 12 (by decide) (htA _ lkX0_28) (fun _ h9 => h9) rfl dX0_next_38 ?_
    refine W.widen (k := 1) (n := 6) (by omega) (by omega) ?_
    refine vx_ret ?_
    exact W.iret (v := r9) hx hb hr (fun t ht hW => ⟨⟨r9, (d1, d2, g5, g6, r9), rfl, ⟨c0, hc0, emd, w3, yL_iff (yWA_good hac w5) hw, rfl⟩, by rw [ht]; exact hP, va_K.moved hW.alike hK, hD⟩, hS.F ht⟩) hS.2.2 dX0_next_41
  · obtain ⟨sa9, hstr⟩ := hEX.2.2.2 (92, "no model") (by decide)
    exact vx_throwS (own := RX0) (cls := "java/lang/IllegalStateException") (text := "no model") (names := ["java/lang/RuntimeException", "java/lang/Exception"]) hx hb hl9 hown (by decide +kernel) (by decide +kernel) (htA _ lkX0_46) (htA _ ini_IllegalStateException) hstr (vx_hat (L := vx_atS RX0 50 "java/lang/IllegalStateException" ["java/lang/RuntimeException", "java/lang/Exception"]) (B := [.castable "java/lang/IllegalStateException" "java/lang/IllegalStateException", .declares ⟨"java/lang/RuntimeException", "<init>", "(Ljava/lang/String;)V"⟩, .declares ⟨"java/lang/Exception", "<init>", "(Ljava/lang/String;)V"⟩, .declares ⟨"java/lang/Throwable", "<init>", "(Ljava/lang/String;)V"⟩]) (fun w hw => htA w (at_ISE w hw)) (by decide +kernel) (vx_c (va_Nw.use rfl (hEX.2.2.1 (.castable "java/lang/IllegalStateException" "java/lang/IllegalStateException") (by decide +kernel))) (vx_c (va_Nw.use rfl (hEX.2.2.1 (.declares ⟨"java/lang/RuntimeException", "<init>", "(Ljava/lang/String;)V"⟩) (by decide +kernel))) (vx_c (va_Nw.use rfl (hEX.2.2.1 (.declares ⟨"java/lang/Exception", "<init>", "(Ljava/lang/String;)V"⟩) (by decide +kernel))) (vx_c (va_Nw.use rfl (hEX.2.2.1 (.declares ⟨"java/lang/Throwable", "<init>", "(Ljava/lang/String;)V"⟩) (by decide +kernel))) (vx_n)))))) (by decide +kernel) hEX.1 hEX.2.1 hS (hl.1.trans hml.symm) dX0_next_8 dX0_next_11 dX0_next_12 dX0_next_14 dX0_next_17 (fun x hx => (hEx x hx).elim) (Nat.le_of_ble_eq_true rfl) (Nat.le_of_ble_eq_true rfl) (Nat.le_of_ble_eq_true rfl) (Nat.le_of_ble_eq_true rfl) hlocks (fun t ha hsz hk => ⟨(), trivial, ⟨⟨rfl, cb_41⟩, hP.kept (fun k q hq => hk q.1 (hP k q hq).lt), va_K.moved ha hK, hD⟩, Nat.le_trans hS.1 hsz, fun q h1 h2 => (hk q (Nat.lt_of_lt_of_le h1 hS.1)).trans (hS.2.1 q h1 h2)⟩) hS.2.2 (Nat.le_of_ble_eq_true rfl) (Nat.le_of_ble_eq_true rfl)
set_option maxHeartbeats 4000000 in
set_option maxRecDepth 100000 in
theorem c_forced (l : Launch) (hl9 : l.stackTraces = false) (dC : Nat → ClassId) (dI : Nat → Nat → Nat) (h : Nat) (q1 : Nat) (q2 : Nat) (q3 : Nat) (q4 : Nat) (q5 : Nat) (q6 : Nat) (k1 : ClassId) (k2 : ClassId) (k3 : ClassId) (k4 : ClassId) (k5 : ClassId) (k6 : ClassId) (f1 : Nat → Int32) (f2 : Nat → Int32) (f3 : Nat → Int32) (f4 : Nat → Int32) (f5 : Nat → Int32) (f6 : Nat → Int32) (cc : Nat) (lv : Nat) (ac : Nat) (tc : Nat) (ty : Int32) (tn : Int32) (md : Int32) (p0 : Int32) (sz : Nat) (hcc : cc ≤ 400) (hac : ac ≤ 18) (hm : ∀ j, j < cc → ym (f1 j) ∧ ym (f2 j)) (hlit : ∀ j, j < ac → yLit (f4 j)) : vx_Met l yX0_forced wsX0_forced ({ frames := 6, cells := 1, slots := 6, locals := 160 }) (va_Pc [.ref h, .int p0] (fun U => U.heap.size = sz ∧ va_P (dC, dI) vwCl [yO h q1 q2 q3 q4 q5 q6 (nI cc) (nI lv) (nI ac) (nI tc) ty tn md, (q1, .inl (k1, 419, .inl f1)), (q2, .inl (k2, 419, .inl f2)), (q3, .inl (k3, 41, .inl f3)), (q4, .inl (k4, 18, .inl f4)), (q5, .inl (k5, 18, .inl f5)), (q6, .inl (k6, 18, .inl f6))] U.heap ∧ va_K (dC, dI) vwCl [(k1, .int), (k2, .int), (k3, .int), (k4, .int), (k5, .int), (k6, .int)] U ∧ va_D (fun _ => True) [yO h q1 q2 q3 q4 q5 q6 (nI cc) (nI lv) (nI ac) (nI tc) ty tn md, (q1, .inl (k1, 419, .inl f1)), (q2, .inl (k2, 419, .inl f2)), (q3, .inl (k3, 41, .inl f3)), (q4, .inl (k4, 18, .inl f4)), (q5, .inl (k5, 18, .inl f5)), (q6, .inl (k6, 18, .inl f6))] ∧ yEx (va_A [yO h q1 q2 q3 q4 q5 q6 (nI cc) (nI lv) (nI ac) (nI tc) ty tn md, (q1, .inl (k1, 419, .inl f1)), (q2, .inl (k2, 419, .inl f2)), (q3, .inl (k3, 41, .inl f3)), (q4, .inl (k4, 18, .inl f4)), (q5, .inl (k5, 18, .inl f5)), (q6, .inl (k6, 18, .inl f6))] sz) U U.heap)) (va_Qi (fun (r : Int32) (u : (Nat → Int32) × (Nat → Int32) × (Nat → Int32) × (Nat → Int32)) => yLit p0 ∧ (∀ j, j < cc → u.1 j = f1 j ∧ u.2.1 j = f2 j) ∧ ((r = 1 ∧ (∀ a, a < 262144 → yGood f1 f2 f4 cc ac a → ycl (yYes p0) (yNo p0) a)) ∨ (r = 0 ∧ ¬ (∀ a, a < 262144 → yGood f1 f2 f4 cc ac a → ycl (yYes p0) (yNo p0) a)))) (fun (u : (Nat → Int32) × (Nat → Int32) × (Nat → Int32) × (Nat → Int32)) (t : State) => va_P (dC, dI) vwCl [yO h q1 q2 q3 q4 q5 q6 (nI cc) (nI lv) (nI ac) (nI tc) ty tn md, (q1, .inl (k1, 419, .inl u.1)), (q2, .inl (k2, 419, .inl u.2.1)), (q3, .inl (k3, 41, .inl f3)), (q4, .inl (k4, 18, .inl f4)), (q5, .inl (k5, 18, .inl u.2.2.1)), (q6, .inl (k6, 18, .inl u.2.2.2))] t.heap ∧ va_K (dC, dI) vwCl [(k1, .int), (k2, .int), (k3, .int), (k4, .int), (k5, .int), (k6, .int)] t ∧ va_D (va_A [yO h q1 q2 q3 q4 q5 q6 (nI cc) (nI lv) (nI ac) (nI tc) ty tn md, (q1, .inl (k1, 419, .inl f1)), (q2, .inl (k2, 419, .inl f2)), (q3, .inl (k3, 41, .inl f3)), (q4, .inl (k4, 18, .inl f4)), (q5, .inl (k5, 18, .inl f5)), (q6, .inl (k6, 18, .inl f6))] sz) [yO h q1 q2 q3 q4 q5 q6 (nI cc) (nI lv) (nI ac) (nI tc) ty tn md, (q1, .inl (k1, 419, .inl u.1)), (q2, .inl (k2, 419, .inl u.2.1)), (q3, .inl (k3, 41, .inl f3)), (q4, .inl (k4, 18, .inl f4)), (q5, .inl (k5, 18, .inl u.2.2.1)), (q6, .inl (k6, 18, .inl u.2.2.2))]) (va_A [yO h q1 q2 q3 q4 q5 q6 (nI cc) (nI lv) (nI ac) (nI tc) ty tn md, (q1, .inl (k1, 419, .inl f1)), (q2, .inl (k2, 419, .inl f2)), (q3, .inl (k3, 41, .inl f3)), (q4, .inl (k4, 18, .inl f4)), (q5, .inl (k5, 18, .inl f5)), (q6, .inl (k6, 18, .inl f6))] sz)) (vx_X (fun (u : Unit) => True) (fun (E : String) (u : Unit) (t : State) => (E = "java/lang/IllegalArgumentException" ∧ ¬ yLit p0) ∧ va_P (dC, dI) vwCl [yO h q1 q2 q3 q4 q5 q6 (nI cc) (nI lv) (nI ac) (nI tc) ty tn md, (q1, .inl (k1, 419, .inl f1)), (q2, .inl (k2, 419, .inl f2)), (q3, .inl (k3, 41, .inl f3)), (q4, .inl (k4, 18, .inl f4)), (q5, .inl (k5, 18, .inl f5)), (q6, .inl (k6, 18, .inl f6))] t.heap ∧ va_K (dC, dI) vwCl [(k1, .int), (k2, .int), (k3, .int), (k4, .int), (k5, .int), (k6, .int)] t ∧ va_D (va_A [yO h q1 q2 q3 q4 q5 q6 (nI cc) (nI lv) (nI ac) (nI tc) ty tn md, (q1, .inl (k1, 419, .inl f1)), (q2, .inl (k2, 419, .inl f2)), (q3, .inl (k3, 41, .inl f3)), (q4, .inl (k4, 18, .inl f4)), (q5, .inl (k5, 18, .inl f5)), (q6, .inl (k6, 18, .inl f6))] sz) [yO h q1 q2 q3 q4 q5 q6 (nI cc) (nI lv) (nI ac) (nI tc) ty tn md, (q1, .inl (k1, 419, .inl f1)), (q2, .inl (k2, 419, .inl f2)), (q3, .inl (k3, 41, .inl f3)), (q4, .inl (k4, 18, .inl f4)), (q5, .inl (k5, 18, .inl f5)), (q6, .inl (k6, 18, .inl f6))]) (va_A [yO h q1 q2 q3 q4 q5 q6 (nI cc) (nI lv) (nI ac) (nI tc) ty tn md, (q1, .inl (k1, 419, .inl f1)), (q2, .inl (k2, 419, .inl f2)), (q3, .inl (k3, 41, .inl f3)), (q4, .inl (k4, 18, .inl f4)), (q5, .inl (k5, 18, .inl f5)), (q6, .inl (k6, 18, .inl f6))] sz)) 1 6 (va_A [yO h q1 q2 q3 q4 q5 q6 (nI cc) (nI lv) (nI ac) (nI tc) ty tn md, (q1, .inl (k1, 419, .inl f1)), (q2, .inl (k2, 419, .inl f2)), (q3, .inl (k3, 41, .inl f3)), (q4, .inl (k4, 18, .inl f4)), (q5, .inl (k5, 18, .inl f5)), (q6, .inl (k6, 18, .inl f6))] sz) := by
  refine vx_ofW (cc := cX0_forced) (maxL := 3) (ret := (some .boolean)) (by decide) rfl ?_
  intro p e s m args below meth c s₁ B hml hEx hv
  obtain ⟨rfl, hsz, hP, hK, hD0, hEX⟩ := hv
  have hx := B.exec
  have hb := B.bytes
  have hr := B.returns
  have hts := atoms_spec (ws := wsX0_forced) B.pre
  have htA : ∀ w ∈ wsA, w.before _ s = true := fun w h => hts w (List.mem_cons_of_mem _ h)
  have hown : s.vm.findClass RX0 = some m.cls := findClass_of_methodNamed B.named
  have hlocks := B.notSynchronized
  subst hsz
  have hD := hD0.self (sz := s.heap.size)
  generalize hAe : va_A [yO h q1 q2 q3 q4 q5 q6 (nI cc) (nI lv) (nI ac) (nI tc) ty tn md, (q1, .inl (k1, 419, .inl f1)), (q2, .inl (k2, 419, .inl f2)), (q3, .inl (k3, 41, .inl f3)), (q4, .inl (k4, 18, .inl f4)), (q5, .inl (k5, 18, .inl f5)), (q6, .inl (k6, 18, .inl f6))] s.heap.size = A at hD hEX ⊢
  have hA : ∀ q : Nat, s.heap.size ≤ q → A q := fun q h => by rw [← hAe]; exact Or.inr h
  have hS : va_S A s.heap s.heap [] := va_S.rf
  have hP : va_P (dC, dI) vwCl [yO h q1 q2 q3 q4 q5 q6 (nI cc) (nI lv) (nI ac) (nI tc) ty tn md, (q1, .inl (k1, 419, .inl f1)), (q2, .inl (k2, 419, .inl f2)), (q3, .inl (k3, 41, .inl f3)), (q4, .inl (k4, 18, .inl f4)), (q5, .inl (k5, 18, .inl f5)), (q6, .inl (k6, 18, .inl f6))] s.heap := hP
  have hl := lv_entry ([.ref h, .int p0]) (n := 3) (Nat.le_of_ble_eq_true rfl)
  rw [lg_entry_eq]
  generalize (lg_sl ([.ref h, .int p0]) ++ List.replicate (3 - (lg_sl ([.ref h, .int p0])).length) Slot.unset).toArray = ls at hl ⊢
  have hl : lv_has ls 3 [(0, .ref h), (1, .int p0)] := hl
  refine lv_iload_n hx hb dX0_forced_0 rfl (lv_at hl 1 rfl) ?_
  have hPc := hP.sub (ws' := []) [] rfl
  have hDc := hD.sub (ws' := []) [] (by decide) rfl
  have hKc := hK.sub (tys' := []) [] rfl
  have hFc := va_free (wc := []) hD hS hA [] rfl
  refine va_calli (va_runS (As := [.int p0]) (rest := []) ⟨hx, hb, hml, hown, htA⟩ (c_isLiteral l dC dI p0 s.heap.size) (va_cwS 1 htA gX0_32 rfl rfl rfl (by decide +kernel) ⟨Nat.le_of_ble_eq_true rfl, Nat.le_of_ble_eq_true rfl⟩) ⟨fun a U g mk q => by obtain ⟨q0, q1, qP, qK, qD⟩ := q; exact ⟨q0, q1, qP, va_K.moved (u := U) (U := U.calling g mk a) (Vm.Alike.refl U.vm) qK, qD⟩, fun U hU hW => ⟨rfl, by rw [hU], by rw [hU]; exact hPc, va_K.moved hW.alike hKc, hDc.weaken (fun _ _ _ _ => trivial)⟩⟩ rfl rfl hl.1 rfl (lv_room (Nat.le_of_ble_eq_true rfl)) dX0_forced_1 ⟨Nat.zero_le _, Nat.zero_le _⟩) hS (fun q _ h => hFc q h) hFc (fun rl u t H1 locs ht hvm hw hB hz1 hk1 hS => ?_)
  obtain ⟨hP1, hK1, hD1⟩ := hB
  rw [ht] at hP1
  try dsimp only at hw hP1 hD1
  obtain ⟨hP, hD⟩ := va_join (wr := [yO h q1 q2 q3 q4 q5 q6 (nI cc) (nI lv) (nI ac) (nI tc) ty tn md, (q1, .inl (k1, 419, .inl f1)), (q2, .inl (k2, 419, .inl f2)), (q3, .inl (k3, 41, .inl f3)), (q4, .inl (k4, 18, .inl f4)), (q5, .inl (k5, 18, .inl f5)), (q6, .inl (k6, 18, .inl f6))]) (w1 := []) hP hD [] [0, 1, 2, 3, 4, 5, 6] rfl rfl (by decide) (by decide) hk1 hFc hP1 hD1
  generalize H1 = H at hP hS ⊢
  have hP : va_P (dC, dI) vwCl [yO h q1 q2 q3 q4 q5 q6 (nI cc) (nI lv) (nI ac) (nI tc) ty tn md, (q1, .inl (k1, 419, .inl f1)), (q2, .inl (k2, 419, .inl f2)), (q3, .inl (k3, 41, .inl f3)), (q4, .inl (k4, 18, .inl f4)), (q5, .inl (k5, 18, .inl f5)), (q6, .inl (k6, 18, .inl f6))] H := hP.sub [0, 1, 2, 3, 4, 5, 6] rfl
  have hD : va_D A [yO h q1 q2 q3 q4 q5 q6 (nI cc) (nI lv) (nI ac) (nI tc) ty tn md, (q1, .inl (k1, 419, .inl f1)), (q2, .inl (k2, 419, .inl f2)), (q3, .inl (k3, 41, .inl f3)), (q4, .inl (k4, 18, .inl f4)), (q5, .inl (k5, 18, .inl f5)), (q6, .inl (k6, 18, .inl f6))] := hD.sub [0, 1, 2, 3, 4, 5, 6] (by decide) rfl
  rcases hw with ⟨rfl, hl1⟩ | ⟨rfl, hl1⟩
  · refine lv_if_ne (tgt := 17) hx hb dX0_forced_4 (by decide) (fun cb_42 => ?_) (fun cb_42 => ?_)
    · refine lv_aload_n hx hb dX0_forced_17 rfl (lv_at hl 0 rfl) ?_
      refine lv_iconst (v := (-1)) hx hb dX0_forced_18 (by decide) ?_
      have hPc := hP.sub (ws' := [yO h q1 q2 q3 q4 q5 q6 (nI cc) (nI lv) (nI ac) (nI tc) ty tn md, (q1, .inl (k1, 419, .inl f1)), (q2, .inl (k2, 419, .inl f2)), (q4, .inl (k4, 18, .inl f4))]) [0, 1, 2, 4] rfl
      have hDc := hD.sub (ws' := [yO h q1 q2 q3 q4 q5 q6 (nI cc) (nI lv) (nI ac) (nI tc) ty tn md, (q1, .inl (k1, 419, .inl f1)), (q2, .inl (k2, 419, .inl f2)), (q4, .inl (k4, 18, .inl f4))]) [0, 1, 2, 4] (by decide) rfl
      have hKc := hK.sub (tys' := [(k1, .int), (k2, .int), (k4, .int)]) [0, 1, 3] rfl
      have hFc := va_free (wc := [yO h q1 q2 q3 q4 q5 q6 (nI cc) (nI lv) (nI ac) (nI tc) ty tn md, (q1, .inl (k1, 419, .inl f1)), (q2, .inl (k2, 419, .inl f2)), (q4, .inl (k4, 18, .inl f4))]) hD hS hA [0, 1, 2, 4] rfl
      refine va_calli (va_runV (As := [.int (-1)]) (rest := []) ⟨hx, hb, hml, hown, htA⟩ (c_writeAssumptions l dC dI h q1 q2 q3 q4 q5 q6 k1 k2 k4 f1 f2 f4 cc (nI lv) ac (nI tc) ty tn md (-1) H.size hcc hac hm hlit) (cwV 1 htA gX0_85 rfl rfl rfl (by decide +kernel) ⟨Nat.le_of_ble_eq_true rfl, Nat.le_of_ble_eq_true rfl⟩) ⟨fun a U g mk q => by obtain ⟨q0, q1, qP, qK, qD⟩ := q; exact ⟨q0, q1, qP, va_K.moved (u := U) (U := U.calling g mk a) (Vm.Alike.refl U.vm) qK, qD⟩, va_recv hKc hPc (ci := 0) (q0 := 0) rfl rfl, fun U hU hW => ⟨rfl, by rw [hU], by rw [hU]; exact hPc, va_K.moved hW.alike hKc, hDc.weaken (fun _ _ _ _ => trivial)⟩⟩ rfl rfl hl.1 rfl (lv_room (Nat.le_of_ble_eq_true rfl)) dX0_forced_19 ⟨Nat.zero_le _, Nat.zero_le _⟩) hS (fun q _ h => hFc q h) hFc (fun r1 u t H1 locs ht hvm hw hB hz1 hk1 hS => ?_)
      obtain ⟨d1, d2⟩ := u
      obtain ⟨hP1, hK1, hD1⟩ := hB
      rw [ht] at hP1
      try dsimp only at hw hP1 hD1
      obtain ⟨hP, hD⟩ := va_join (wr := [(q3, .inl (k3, 41, .inl f3)), (q5, .inl (k5, 18, .inl f5)), (q6, .inl (k6, 18, .inl f6))]) (w1 := [yO h q1 q2 q3 q4 q5 q6 (nI cc) (nI lv) (nI ac) (nI tc) ty tn md, (q1, .inl (k1, 419, .inl d1)), (q2, .inl (k2, 419, .inl d2)), (q4, .inl (k4, 18, .inl f4))]) hP hD [0, 1, 2, 4] [3, 5, 6] rfl rfl (by decide) (by decide) hk1 hFc hP1 hD1
      generalize H1 = H at hP hS ⊢
      have hP : va_P (dC, dI) vwCl [yO h q1 q2 q3 q4 q5 q6 (nI cc) (nI lv) (nI ac) (nI tc) ty tn md, (q1, .inl (k1, 419, .inl d1)), (q2, .inl (k2, 419, .inl d2)), (q3, .inl (k3, 41, .inl f3)), (q4, .inl (k4, 18, .inl f4)), (q5, .inl (k5, 18, .inl f5)), (q6, .inl (k6, 18, .inl f6))] H := hP.sub [3, 4, 5, 0, 6, 1, 2] rfl
      have hD : va_D A [yO h q1 q2 q3 q4 q5 q6 (nI cc) (nI lv) (nI ac) (nI tc) ty tn md, (q1, .inl (k1, 419, .inl d1)), (q2, .inl (k2, 419, .inl d2)), (q3, .inl (k3, 41, .inl f3)), (q4, .inl (k4, 18, .inl f4)), (q5, .inl (k5, 18, .inl f5)), (q6, .inl (k6, 18, .inl f6))] := hD.sub [3, 4, 5, 0, 6, 1, 2] (by decide) rfl
      obtain ⟨rows, rfl, w1, w2, w3, w4, w5⟩ := hw
      refine lv_istore_n (lv' := [(2, .int (nI rows)), (0, .ref h), (1, .int p0)]) hx hb dX0_forced_22 rfl hl (by decide) rfl (fun ls hl => ?_)
      refine lv_aload_n hx hb dX0_forced_23 rfl (lv_at hl 1 rfl) ?_
      refine lv_iload_n hx hb dX0_forced_24 rfl (lv_at hl 0 rfl) ?_
      refine lv_iload_n hx hb dX0_forced_25 rfl (lv_at hl 2 rfl) ?_
      refine lv_ineg hx hb dX0_forced_26 ?_
      have hPc := hP.sub (ws' := []) [] rfl
      have hDc := hD.sub (ws' := []) [] (by decide) rfl
      have hKc := hK.sub (tys' := []) [] rfl
      have hFc := va_free (wc := []) hD hS hA [] rfl
      refine va_calli (va_runS (As := [.int (-p0)]) (rest := [.int (nI rows), .ref h]) ⟨hx, hb, hml, hown, htA⟩ (c_yesMask l dC dI (-p0) H.size) (va_cwS 1 htA gX0_54 rfl rfl rfl (by decide +kernel) ⟨Nat.le_of_ble_eq_true rfl, Nat.le_of_ble_eq_true rfl⟩) ⟨fun a U g mk q => by obtain ⟨q0, q1, qP, qK, qD⟩ := q; exact ⟨q0, q1, qP, va_K.moved (u := U) (U := U.calling g mk a) (Vm.Alike.refl U.vm) qK, qD⟩, fun U hU hW => ⟨rfl, by rw [hU], by rw [hU]; exact hPc, va_K.moved hW.alike hKc, hDc.weaken (fun _ _ _ _ => trivial)⟩⟩ rfl rfl hl.1 rfl (lv_room (Nat.le_of_ble_eq_true rfl)) dX0_forced_27 ⟨Nat.zero_le _, Nat.zero_le _⟩) hS (fun q _ h => hFc q h) hFc (fun ry u t H1 locs ht hvm hw hB hz1 hk1 hS => ?_)
      obtain ⟨hP1, hK1, hD1⟩ := hB
      rw [ht] at hP1
      try dsimp only at hw hP1 hD1
      obtain ⟨hP, hD⟩ := va_join (wr := [yO h q1 q2 q3 q4 q5 q6 (nI cc) (nI lv) (nI ac) (nI tc) ty tn md, (q1, .inl (k1, 419, .inl d1)), (q2, .inl (k2, 419, .inl d2)), (q3, .inl (k3, 41, .inl f3)), (q4, .inl (k4, 18, .inl f4)), (q5, .inl (k5, 18, .inl f5)), (q6, .inl (k6, 18, .inl f6))]) (w1 := []) hP hD [] [0, 1, 2, 3, 4, 5, 6] rfl rfl (by decide) (by decide) hk1 hFc hP1 hD1
      generalize H1 = H at hP hS ⊢
      have hP : va_P (dC, dI) vwCl [yO h q1 q2 q3 q4 q5 q6 (nI cc) (nI lv) (nI ac) (nI tc) ty tn md, (q1, .inl (k1, 419, .inl d1)), (q2, .inl (k2, 419, .inl d2)), (q3, .inl (k3, 41, .inl f3)), (q4, .inl (k4, 18, .inl f4)), (q5, .inl (k5, 18, .inl f5)), (q6, .inl (k6, 18, .inl f6))] H := hP.sub [0, 1, 2, 3, 4, 5, 6] rfl
      have hD : va_D A [yO h q1 q2 q3 q4 q5 q6 (nI cc) (nI lv) (nI ac) (nI tc) ty tn md, (q1, .inl (k1, 419, .inl d1)), (q2, .inl (k2, 419, .inl d2)), (q3, .inl (k3, 41, .inl f3)), (q4, .inl (k4, 18, .inl f4)), (q5, .inl (k5, 18, .inl f5)), (q6, .inl (k6, 18, .inl f6))] := hD.sub [0, 1, 2, 3, 4, 5, 6] (by decide) rfl
      obtain rfl := hw
      refine lv_iload_n hx hb dX0_forced_30 rfl (lv_at hl 2 rfl) ?_
      refine lv_ineg hx hb dX0_forced_31 ?_
      have hPc := hP.sub (ws' := []) [] rfl
      have hDc := hD.sub (ws' := []) [] (by decide) rfl
      have hKc := hK.sub (tys' := []) [] rfl
      have hFc := va_free (wc := []) hD hS hA [] rfl
      refine va_calli (va_runS (As := [.int (-p0)]) (rest := [.int (yYes (-p0)), .int (nI rows), .ref h]) ⟨hx, hb, hml, hown, htA⟩ (c_noMask l dC dI (-p0) H.size) (va_cwS 1 htA gX0_61 rfl rfl rfl (by decide +kernel) ⟨Nat.le_of_ble_eq_true rfl, Nat.le_of_ble_eq_true rfl⟩) ⟨fun a U g mk q => by obtain ⟨q0, q1, qP, qK, qD⟩ := q; exact ⟨q0, q1, qP, va_K.moved (u := U) (U := U.calling g mk a) (Vm.Alike.refl U.vm) qK, qD⟩, fun U hU hW => ⟨rfl, by rw [hU], by rw [hU]; exact hPc, va_K.moved hW.alike hKc, hDc.weaken (fun _ _ _ _ => trivial)⟩⟩ rfl rfl hl.1 rfl (lv_room (Nat.le_of_ble_eq_true rfl)) dX0_forced_32 ⟨Nat.zero_le _, Nat.zero_le _⟩) hS (fun q _ h => hFc q h) hFc (fun rn u t H1 locs ht hvm hw hB hz1 hk1 hS => ?_)
      obtain ⟨hP1, hK1, hD1⟩ := hB
      rw [ht] at hP1
      try dsimp only at hw hP1 hD1
      obtain ⟨hP, hD⟩ := va_join (wr := [yO h q1 q2 q3 q4 q5 q6 (nI cc) (nI lv) (nI ac) (nI tc) ty tn md, (q1, .inl (k1, 419, .inl d1)), (q2, .inl (k2, 419, .inl d2)), (q3, .inl (k3, 41, .inl f3)), (q4, .inl (k4, 18, .inl f4)), (q5, .inl (k5, 18, .inl f5)), (q6, .inl (k6, 18, .inl f6))]) (w1 := []) hP hD [] [0, 1, 2, 3, 4, 5, 6] rfl rfl (by decide) (by decide) hk1 hFc hP1 hD1
      generalize H1 = H at hP hS ⊢
      have hP : va_P (dC, dI) vwCl [yO h q1 q2 q3 q4 q5 q6 (nI cc) (nI lv) (nI ac) (nI tc) ty tn md, (q1, .inl (k1, 419, .inl d1)), (q2, .inl (k2, 419, .inl d2)), (q3, .inl (k3, 41, .inl f3)), (q4, .inl (k4, 18, .inl f4)), (q5, .inl (k5, 18, .inl f5)), (q6, .inl (k6, 18, .inl f6))] H := hP.sub [0, 1, 2, 3, 4, 5, 6] rfl
      have hD : va_D A [yO h q1 q2 q3 q4 q5 q6 (nI cc) (nI lv) (nI ac) (nI tc) ty tn md, (q1, .inl (k1, 419, .inl d1)), (q2, .inl (k2, 419, .inl d2)), (q3, .inl (k3, 41, .inl f3)), (q4, .inl (k4, 18, .inl f4)), (q5, .inl (k5, 18, .inl f5)), (q6, .inl (k6, 18, .inl f6))] := hD.sub [0, 1, 2, 3, 4, 5, 6] (by decide) rfl
      obtain rfl := hw
      have hPc := hP.sub (ws' := [yO h q1 q2 q3 q4 q5 q6 (nI cc) (nI lv) (nI ac) (nI tc) ty tn md, (q1, .inl (k1, 419, .inl d1)), (q2, .inl (k2, 419, .inl d2))]) [0, 1, 2] rfl
      have hDc := hD.sub (ws' := [yO h q1 q2 q3 q4 q5 q6 (nI cc) (nI lv) (nI ac) (nI tc) ty tn md, (q1, .inl (k1, 419, .inl d1)), (q2, .inl (k2, 419, .inl d2))]) [0, 1, 2] (by decide) rfl
      have hKc := hK.sub (tys' := [(k1, .int), (k2, .int)]) [0, 1] rfl
      have hFc := va_free (wc := [yO h q1 q2 q3 q4 q5 q6 (nI cc) (nI lv) (nI ac) (nI tc) ty tn md, (q1, .inl (k1, 419, .inl d1)), (q2, .inl (k2, 419, .inl d2))]) hD hS hA [0, 1, 2] rfl
      refine va_callv (va_runV (As := [.int (nI rows), .int (yYes (-p0)), .int (yNo (-p0))]) (rest := []) ⟨hx, hb, hml, hown, htA⟩ (c_writeRow l dC dI h q1 q2 q3 q4 q5 q6 k1 k2 d1 d2 (nI cc) (nI lv) (nI ac) (nI tc) ty tn md rows (yYes (-p0)) (yNo (-p0)) H.size (by omega)) (cwV 3 htA gX0_69 rfl rfl rfl (by decide +kernel) ⟨Nat.le_of_ble_eq_true rfl, Nat.le_of_ble_eq_true rfl⟩) ⟨fun a U g mk q => by obtain ⟨q0, q1, qP, qK, qD⟩ := q; exact ⟨q0, q1, qP, va_K.moved (u := U) (U := U.calling g mk a) (Vm.Alike.refl U.vm) qK, qD⟩, va_recv hKc hPc (ci := 0) (q0 := 0) rfl rfl, fun U hU hW => ⟨rfl, by rw [hU], by rw [hU]; exact hPc, va_K.moved hW.alike hKc, hDc.weaken (fun _ _ _ _ => trivial)⟩⟩ rfl rfl hl.1 rfl (lv_room (Nat.le_of_ble_eq_true rfl)) dX0_forced_35 ⟨Nat.zero_le _, Nat.zero_le _⟩) hS (fun q _ h => hFc q h) hFc (fun u t H1 locs ht hvm hw hB hz1 hk1 hS => ?_)
      obtain ⟨e1, e2⟩ := u
      obtain ⟨hP1, hK1, hD1⟩ := hB
      rw [ht] at hP1
      try dsimp only at hw hP1 hD1
      obtain ⟨hP, hD⟩ := va_join (wr := [(q3, .inl (k3, 41, .inl f3)), (q4, .inl (k4, 18, .inl f4)), (q5, .inl (k5, 18, .inl f5)), (q6, .inl (k6, 18, .inl f6))]) (w1 := [yO h q1 q2 q3 q4 q5 q6 (nI cc) (nI lv) (nI ac) (nI tc) ty tn md, (q1, .inl (k1, 419, .inl e1)), (q2, .inl (k2, 419, .inl e2))]) hP hD [0, 1, 2] [3, 4, 5, 6] rfl rfl (by decide) (by decide) hk1 hFc hP1 hD1
      generalize H1 = H at hP hS ⊢
      have hP : va_P (dC, dI) vwCl [yO h q1 q2 q3 q4 q5 q6 (nI cc) (nI lv) (nI ac) (nI tc) ty tn md, (q1, .inl (k1, 419, .inl e1)), (q2, .inl (k2, 419, .inl e2)), (q3, .inl (k3, 41, .inl f3)), (q4, .inl (k4, 18, .inl f4)), (q5, .inl (k5, 18, .inl f5)), (q6, .inl (k6, 18, .inl f6))] H := hP.sub [4, 5, 6, 0, 1, 2, 3] rfl
      have hD : va_D A [yO h q1 q2 q3 q4 q5 q6 (nI cc) (nI lv) (nI ac) (nI tc) ty tn md, (q1, .inl (k1, 419, .inl e1)), (q2, .inl (k2, 419, .inl e2)), (q3, .inl (k3, 41, .inl f3)), (q4, .inl (k4, 18, .inl f4)), (q5, .inl (k5, 18, .inl f5)), (q6, .inl (k6, 18, .inl f6))] := hD.sub [4, 5, 6, 0, 1, 2, 3] (by decide) rfl
      obtain ⟨he1, he2⟩ := hw
      refine lv_aload_n hx hb dX0_forced_38 rfl (lv_at hl 1 rfl) ?_
      refine lv_iload_n hx hb dX0_forced_39 rfl (lv_at hl 0 rfl) ?_
      refine lv_iconst (v := 1) hx hb dX0_forced_40 (by decide) ?_
      refine lv_iadd hx hb dX0_forced_41 ?_
      refine W.eq (g2 := F0 m 42 ls [.int (nI (rows + 1)), .ref h]) (by rw [nI_1]) ?_
      have hm2 : ∀ j, j < rows + 1 → ym (e1 j) ∧ ym (e2 j) := by
        intro j hj
        rw [he1, he2]
        by_cases e : j = rows
        · rw [e, pk_us, pk_us]; exact yLit_m (yLit_neg hl1)
        · rw [pk_un e, pk_un e]; exact w4 j (by omega)
      have hPc := hP.sub (ws' := [yO h q1 q2 q3 q4 q5 q6 (nI cc) (nI lv) (nI ac) (nI tc) ty tn md, (q1, .inl (k1, 419, .inl e1)), (q2, .inl (k2, 419, .inl e2)), (q5, .inl (k5, 18, .inl f5)), (q6, .inl (k6, 18, .inl f6))]) [0, 1, 2, 5, 6] rfl
      have hDc := hD.sub (ws' := [yO h q1 q2 q3 q4 q5 q6 (nI cc) (nI lv) (nI ac) (nI tc) ty tn md, (q1, .inl (k1, 419, .inl e1)), (q2, .inl (k2, 419, .inl e2)), (q5, .inl (k5, 18, .inl f5)), (q6, .inl (k6, 18, .inl f6))]) [0, 1, 2, 5, 6] (by decide) rfl
      have hKc := hK.sub (tys' := [(k1, .int), (k2, .int), (k5, .int), (k6, .int)]) [0, 1, 4, 5] rfl
      have hFc := va_free (wc := [yO h q1 q2 q3 q4 q5 q6 (nI cc) (nI lv) (nI ac) (nI tc) ty tn md, (q1, .inl (k1, 419, .inl e1)), (q2, .inl (k2, 419, .inl e2)), (q5, .inl (k5, 18, .inl f5)), (q6, .inl (k6, 18, .inl f6))]) hD hS hA [0, 1, 2, 5, 6] rfl
      refine va_calli (va_runV (As := [.int (nI (rows + 1))]) (rest := []) ⟨hx, hb, hml, hown, htA⟩ (c_isSatisfied l dC dI h q1 q2 q3 q4 q5 q6 k1 k2 k5 k6 e1 e2 f5 f6 (nI cc) (nI lv) (nI ac) (nI tc) ty tn md (rows + 1) H.size (by omega) hm2) (cwV 1 htA gX0_94 rfl rfl rfl (by decide +kernel) ⟨Nat.le_of_ble_eq_true rfl, Nat.le_of_ble_eq_true rfl⟩) ⟨fun a U g mk q => by obtain ⟨q0, q1, qP, qK, qD⟩ := q; exact ⟨q0, q1, qP, va_K.moved (u := U) (U := U.calling g mk a) (Vm.Alike.refl U.vm) qK, qD⟩, va_recv hKc hPc (ci := 0) (q0 := 0) rfl rfl, fun U hU hW => ⟨rfl, by rw [hU], by rw [hU]; exact hPc, va_K.moved hW.alike hKc, hDc.weaken (fun _ _ _ _ => trivial)⟩⟩ rfl rfl hl.1 rfl (lv_room (Nat.le_of_ble_eq_true rfl)) dX0_forced_42 ⟨Nat.zero_le _, Nat.zero_le _⟩) hS (fun q _ h => hFc q h) hFc (fun r9 u t H1 locs ht hvm hw hB hz1 hk1 hS => ?_)
      obtain ⟨g5, g6⟩ := u
      obtain ⟨hP1, hK1, hD1⟩ := hB
      rw [ht] at hP1
      try dsimp only at hw hP1 hD1
      obtain ⟨hP, hD⟩ := va_join (wr := [(q3, .inl (k3, 41, .inl f3)), (q4, .inl (k4, 18, .inl f4))]) (w1 := [yO h q1 q2 q3 q4 q5 q6 (nI cc) (nI lv) (nI ac) (nI tc) ty tn md, (q1, .inl (k1, 419, .inl e1)), (q2, .inl (k2, 419, .inl e2)), (q5, .inl (k5, 18, .inl g5)), (q6, .inl (k6, 18, .inl g6))]) hP hD [0, 1, 2, 5, 6] [3, 4] rfl rfl (by decide) (by decide) hk1 hFc hP1 hD1
      generalize H1 = H at hP hS ⊢
      have hP : va_P (dC, dI) vwCl [yO h q1 q2 q3 q4 q5 q6 (nI cc) (nI lv) (nI ac) (nI tc) ty tn md, (q1, .inl (k1, 419, .inl e1)), (q2, .inl (k2, 419, .inl e2)), (q3, .inl (k3, 41, .inl f3)), (q4, .inl (k4, 18, .inl f4)), (q5, .inl (k5, 18, .inl g5)), (q6, .inl (k6, 18, .inl g6))] H := hP.sub [2, 3, 4, 0, 1, 5, 6] rfl
      have hD : va_D A [yO h q1 q2 q3 q4 q5 q6 (nI cc) (nI lv) (nI ac) (nI tc) ty tn md, (q1, .inl (k1, 419, .inl e1)), (q2, .inl (k2, 419, .inl e2)), (q3, .inl (k3, 41, .inl f3)), (q4, .inl (k4, 18, .inl f4)), (q5, .inl (k5, 18, .inl g5)), (q6, .inl (k6, 18, .inl g6))] := hD.sub [2, 3, 4, 0, 1, 5, 6] (by decide) rfl
      have hF := yForced hac hl1 w5 he1 he2
      have hk2 : ∀ j, j < cc → e1 j = f1 j ∧ e2 j = f2 j := fun j hj => by rw [he1, he2, pk_un (by omega), pk_un (by omega)]; exact w3 j hj
      rcases hw with ⟨rfl, hw⟩ | ⟨rfl, hw⟩
      · refine lv_if_ne (tgt := 52) hx hb dX0_forced_45 (by decide) (fun cb_45 => ?_) (fun cb_45 => ?_)
        · refine lv_iconst (v := 0) hx hb dX0_forced_52 (by decide) ?_
          refine W.widen (k := 1) (n := 6) (by omega) (by omega) ?_
          refine vx_ret ?_
          exact W.zret (v := 0) (ty := .boolean) hx hb hr (by decide) (fun t ht hW => ⟨⟨0, (e1, e2, g5, g6), rfl, ⟨hl1, hk2, Or.inr ⟨rfl, fun q => hF.mp q hw⟩⟩, by rw [ht]; exact hP, va_K.moved hW.alike hK, hD⟩, hS.F ht⟩) hS.2.2 dX0_forced_53
        · exact absurd cb_45 (by decide)
      · refine lv_if_ne (tgt := 52) hx hb dX0_forced_45 (by decide) (fun cb_46 => ?_) (fun cb_46 => ?_)
        · exact absurd rfl cb_46
        · refine lv_iconst (v := 1) hx hb dX0_forced_48 (by decide) ?_
          refine lv_goto (tgt := 53) hx hb dX0_forced_49 (by decide) ?_
          refine W.widen (k := 1) (n := 6) (by omega) (by omega) ?_
          refine vx_ret ?_
          exact W.zret (v := 1) (ty := .boolean) hx hb hr (by decide) (fun t ht hW => ⟨⟨1, (e1, e2, g5, g6), rfl, ⟨hl1, hk2, Or.inl ⟨rfl, hF.mpr hw⟩⟩, by rw [ht]; exact hP, va_K.moved hW.alike hK, hD⟩, hS.F ht⟩) hS.2.2 dX0_forced_53
    · exact absurd cb_42 (by decide)
  · refine lv_if_ne (tgt := 17) hx hb dX0_forced_4 (by decide) (fun cb_43 => ?_) (fun cb_43 => ?_)
    · exact absurd rfl cb_43
    · obtain ⟨sa9, hstr⟩ := hEX.2.2.2 (38, "no literal") (by decide)
      exact vx_throwS (own := RX0) (cls := "java/lang/IllegalArgumentException") (text := "no literal") (names := ["java/lang/RuntimeException", "java/lang/Exception"]) hx hb hl9 hown (by decide +kernel) (by decide +kernel) (htA _ lkX0_36) (htA _ ini_IllegalArgumentException) hstr (vx_hat (L := vx_atS RX0 40 "java/lang/IllegalArgumentException" ["java/lang/RuntimeException", "java/lang/Exception"]) (B := [.castable "java/lang/IllegalArgumentException" "java/lang/IllegalArgumentException", .declares ⟨"java/lang/RuntimeException", "<init>", "(Ljava/lang/String;)V"⟩, .declares ⟨"java/lang/Exception", "<init>", "(Ljava/lang/String;)V"⟩, .declares ⟨"java/lang/Throwable", "<init>", "(Ljava/lang/String;)V"⟩]) (fun w hw => htA w (at_IAE w hw)) (by decide +kernel) (vx_c (va_Nw.use rfl (hEX.2.2.1 (.castable "java/lang/IllegalArgumentException" "java/lang/IllegalArgumentException") (by decide +kernel))) (vx_c (va_Nw.use rfl (hEX.2.2.1 (.declares ⟨"java/lang/RuntimeException", "<init>", "(Ljava/lang/String;)V"⟩) (by decide +kernel))) (vx_c (va_Nw.use rfl (hEX.2.2.1 (.declares ⟨"java/lang/Exception", "<init>", "(Ljava/lang/String;)V"⟩) (by decide +kernel))) (vx_c (va_Nw.use rfl (hEX.2.2.1 (.declares ⟨"java/lang/Throwable", "<init>", "(Ljava/lang/String;)V"⟩) (by decide +kernel))) (vx_n)))))) (by decide +kernel) hEX.1 hEX.2.1 hS (hl.1.trans hml.symm) dX0_forced_7 dX0_forced_10 dX0_forced_11 dX0_forced_13 dX0_forced_16 (fun x hx => (hEx x hx).elim) (Nat.le_of_ble_eq_true rfl) (Nat.le_of_ble_eq_true rfl) (Nat.le_of_ble_eq_true rfl) (Nat.le_of_ble_eq_true rfl) hlocks (fun t ha hsz hk => ⟨(), trivial, ⟨⟨rfl, hl1⟩, hP.kept (fun k q hq => hk q.1 (hP k q hq).lt), va_K.moved ha hK, hD⟩, Nat.le_trans hS.1 hsz, fun q h1 h2 => (hk q (Nat.lt_of_lt_of_le h1 hS.1)).trans (hS.2.1 q h1 h2)⟩) hS.2.2 (Nat.le_of_ble_eq_true rfl) (Nat.le_of_ble_eq_true rfl)
