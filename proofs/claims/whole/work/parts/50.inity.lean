set_option maxHeartbeats 600000 in
set_option maxRecDepth 100000 in
theorem c_init (l : Launch) (dC : Nat → ClassId) (dI : Nat → Nat → Nat) (h : Nat) (sz : Nat) : Met l yX0_init wsX0_init ({ frames := 1, cells := 6, slots := 933, locals := 12 }) (va_Pc [.ref h] (fun U => U.heap.size = sz ∧ va_P (dC, dI) vwCl [(h, .inr (0, [.null, .null, .null, .null, .null, .null, .int 0, .int 0, .int 0, .int 0, .int 0, .int 0, .int 0]))] U.heap ∧ va_K (dC, dI) vwCl [] U ∧ va_D (fun _ => True) [(h, .inr (0, [.null, .null, .null, .null, .null, .null, .int 0, .int 0, .int 0, .int 0, .int 0, .int 0, .int 0]))])) (va_Qv (fun (u : Unit) => True) (fun (u : Unit) (t : State) => ∃ (q1 q2 q3 q4 q5 q6 : Nat) (k1 k2 k3 k4 k5 k6 : ClassId), va_P (dC, dI) vwCl [yO h q1 q2 q3 q4 q5 q6 0 0 0 0 0 0 (-1), (q1, .inl (k1, 419, .inl (fun _ => 0))), (q2, .inl (k2, 419, .inl (fun _ => 0))), (q3, .inl (k3, 41, .inl (fun _ => 0))), (q4, .inl (k4, 18, .inl (fun _ => 0))), (q5, .inl (k5, 18, .inl (fun _ => 0))), (q6, .inl (k6, 18, .inl (fun _ => 0)))] t.heap ∧ va_K (dC, dI) vwCl [(k1, .int), (k2, .int), (k3, .int), (k4, .int), (k5, .int), (k6, .int)] t ∧ va_D (va_A [(h, .inr (0, [.null, .null, .null, .null, .null, .null, .int 0, .int 0, .int 0, .int 0, .int 0, .int 0, .int 0]))] sz) [yO h q1 q2 q3 q4 q5 q6 0 0 0 0 0 0 (-1), (q1, .inl (k1, 419, .inl (fun _ => 0))), (q2, .inl (k2, 419, .inl (fun _ => 0))), (q3, .inl (k3, 41, .inl (fun _ => 0))), (q4, .inl (k4, 18, .inl (fun _ => 0))), (q5, .inl (k5, 18, .inl (fun _ => 0))), (q6, .inl (k6, 18, .inl (fun _ => 0)))]) (va_A [(h, .inr (0, [.null, .null, .null, .null, .null, .null, .int 0, .int 0, .int 0, .int 0, .int 0, .int 0, .int 0]))] sz)) 6 933 (va_A [(h, .inr (0, [.null, .null, .null, .null, .null, .null, .int 0, .int 0, .int 0, .int 0, .int 0, .int 0, .int 0]))] sz) := by
  refine Met.ofW (cc := cX0_init) (maxL := 1) (ret := none) (by decide) rfl ?_
  intro p e s m args below meth c s₁ B hml hv
  obtain ⟨rfl, hsz, hP, hK, hD0⟩ := hv
  have hx := B.exec
  have hb := B.bytes
  have hr := B.returns
  have hts := atoms_spec (ws := wsX0_init) B.pre
  have htA : ∀ w ∈ wsA, w.before _ s = true := fun w h => hts w (List.mem_cons_of_mem _ h)
  have hown : s.vm.findClass RX0 = some m.cls := findClass_of_methodNamed B.named
  have hlocks := B.notSynchronized
  have hin : meth.name = "<init>" := (name_of_methodNamed B.named B.method).1
  subst hsz
  have hD := hD0.self (sz := s.heap.size)
  generalize hAe : va_A [(h, .inr (0, [.null, .null, .null, .null, .null, .null, .int 0, .int 0, .int 0, .int 0, .int 0, .int 0, .int 0]))] s.heap.size = A at hD ⊢
  have hA : ∀ q : Nat, s.heap.size ≤ q → A q := fun q h => by rw [← hAe]; exact Or.inr h
  have hS : va_S A s.heap s.heap [] := va_S.rf
  have hP : va_P (dC, dI) vwCl [(h, .inr (0, [.null, .null, .null, .null, .null, .null, .int 0, .int 0, .int 0, .int 0, .int 0, .int 0, .int 0]))] s.heap := hP
  have hl := lv_entry ([.ref h]) (n := 1) (Nat.le_of_ble_eq_true rfl)
  rw [lg_entry_eq]
  generalize (lg_sl ([.ref h]) ++ List.replicate (1 - (lg_sl ([.ref h])).length) Slot.unset).toArray = ls at hl ⊢
  have hl : lv_has ls 1 [(0, .ref h)] := hl
  refine lv_aload_n hx hb dX0_init_0 rfl (lv_at hl 0 rfl) ?_
  refine W.objInit hx hb hown (htA _ lkX0_3) (htA _ im_obj) (htA _ co_obj) rfl (by rw [hml]; exact hl.1) rfl dX0_init_1 (Nat.le_of_ble_eq_true rfl) (Nat.le_of_ble_eq_true rfl) ?_
  refine W.eq (g2 := F0 m 4 ls []) rfl ?_
  refine lv_aload_n hx hb dX0_init_4 rfl (lv_at hl 0 rfl) ?_
  refine lv_sipush (v := 419) hx hb dX0_init_5 (by decide) ?_
  have hkc : 0 + 1 ≤ 6 := by decide
  have hks : 0 + 419 ≤ 933 := by decide
  refine va_newa (atype := .int) (ty := .int) (n := 419) (N' := 419) (a0 := (419, .inl (fun _ => 0))) hx hb (htA _ ac_int) rfl hK hP hD hS hA (fun _ => rfl) (by decide) (by decide) (by decide) hkc hks dX0_init_8 (fun q1 k1 H hK hP hD hS => ?_)
  refine W.widen (k := 1) (n := 419) (by decide) (by decide) ?_
  have hK : va_K (dC, dI) vwCl [(k1, .int)] s := hK
  have hP : va_P (dC, dI) vwCl [(h, .inr (0, [.null, .null, .null, .null, .null, .null, .int 0, .int 0, .int 0, .int 0, .int 0, .int 0, .int 0])), (q1, .inl (k1, 419, .inl (fun _ => 0)))] H := hP
  have hD : va_D A [(h, .inr (0, [.null, .null, .null, .null, .null, .null, .int 0, .int 0, .int 0, .int 0, .int 0, .int 0, .int 0])), (q1, .inl (k1, 419, .inl (fun _ => 0)))] := hD
  refine va_putF (D := (dC, dI)) (ci := 0) (v := .ref q1) (ty := .array .int) (C := RX0) (T := TX0) (N := 13) hx hb htA inX0 tyX0 tyX0_ok nX0 hown hK hP hD hS 0 rfl rfl 0 (by decide) (htA _ lkX0_9) (fun _ h9 => h9) rfl hin rfl (by decide +kernel) rfl rfl (Nat.le_of_ble_eq_true rfl) dX0_init_10 (fun H locs hP hD hS => ?_)
  have hP : va_P (dC, dI) vwCl [(h, .inr (0, [.ref q1, .null, .null, .null, .null, .null, .int 0, .int 0, .int 0, .int 0, .int 0, .int 0, .int 0])), (q1, .inl (k1, 419, .inl (fun _ => 0)))] H := hP
  have hD : va_D A [(h, .inr (0, [.ref q1, .null, .null, .null, .null, .null, .int 0, .int 0, .int 0, .int 0, .int 0, .int 0, .int 0])), (q1, .inl (k1, 419, .inl (fun _ => 0)))] := hD
  refine lv_aload_n hx hb dX0_init_13 rfl (lv_at hl 0 rfl) ?_
  refine lv_sipush (v := 419) hx hb dX0_init_14 (by decide) ?_
  have hkc : 1 + 1 ≤ 6 := by decide
  have hks : 419 + 419 ≤ 933 := by decide
  refine va_newa (atype := .int) (ty := .int) (n := 419) (N' := 419) (a0 := (419, .inl (fun _ => 0))) hx hb (htA _ ac_int) rfl hK hP hD hS hA (fun _ => rfl) (by decide) (by decide) (by decide) hkc hks dX0_init_17 (fun q2 k2 H hK hP hD hS => ?_)
  refine W.widen (k := 2) (n := 838) (by decide) (by decide) ?_
  have hK : va_K (dC, dI) vwCl [(k1, .int), (k2, .int)] s := hK
  have hP : va_P (dC, dI) vwCl [(h, .inr (0, [.ref q1, .null, .null, .null, .null, .null, .int 0, .int 0, .int 0, .int 0, .int 0, .int 0, .int 0])), (q1, .inl (k1, 419, .inl (fun _ => 0))), (q2, .inl (k2, 419, .inl (fun _ => 0)))] H := hP
  have hD : va_D A [(h, .inr (0, [.ref q1, .null, .null, .null, .null, .null, .int 0, .int 0, .int 0, .int 0, .int 0, .int 0, .int 0])), (q1, .inl (k1, 419, .inl (fun _ => 0))), (q2, .inl (k2, 419, .inl (fun _ => 0)))] := hD
  refine va_putF (D := (dC, dI)) (ci := 0) (v := .ref q2) (ty := .array .int) (C := RX0) (T := TX0) (N := 13) hx hb htA inX0 tyX0 tyX0_ok nX0 hown hK hP hD hS 0 rfl rfl 1 (by decide) (htA _ lkX0_13) (fun _ h9 => h9) rfl hin rfl (by decide +kernel) rfl rfl (Nat.le_of_ble_eq_true rfl) dX0_init_19 (fun H locs hP hD hS => ?_)
  have hP : va_P (dC, dI) vwCl [(h, .inr (0, [.ref q1, .ref q2, .null, .null, .null, .null, .int 0, .int 0, .int 0, .int 0, .int 0, .int 0, .int 0])), (q1, .inl (k1, 419, .inl (fun _ => 0))), (q2, .inl (k2, 419, .inl (fun _ => 0)))] H := hP
  have hD : va_D A [(h, .inr (0, [.ref q1, .ref q2, .null, .null, .null, .null, .int 0, .int 0, .int 0, .int 0, .int 0, .int 0, .int 0])), (q1, .inl (k1, 419, .inl (fun _ => 0))), (q2, .inl (k2, 419, .inl (fun _ => 0)))] := hD
  refine lv_aload_n hx hb dX0_init_22 rfl (lv_at hl 0 rfl) ?_
  refine lv_bipush (v := 41) hx hb dX0_init_23 (by decide) ?_
  have hkc : 2 + 1 ≤ 6 := by decide
  have hks : 838 + 41 ≤ 933 := by decide
  refine va_newa (atype := .int) (ty := .int) (n := 41) (N' := 41) (a0 := (41, .inl (fun _ => 0))) hx hb (htA _ ac_int) rfl hK hP hD hS hA (fun _ => rfl) (by decide) (by decide) (by decide) hkc hks dX0_init_25 (fun q3 k3 H hK hP hD hS => ?_)
  refine W.widen (k := 3) (n := 879) (by decide) (by decide) ?_
  have hK : va_K (dC, dI) vwCl [(k1, .int), (k2, .int), (k3, .int)] s := hK
  have hP : va_P (dC, dI) vwCl [(h, .inr (0, [.ref q1, .ref q2, .null, .null, .null, .null, .int 0, .int 0, .int 0, .int 0, .int 0, .int 0, .int 0])), (q1, .inl (k1, 419, .inl (fun _ => 0))), (q2, .inl (k2, 419, .inl (fun _ => 0))), (q3, .inl (k3, 41, .inl (fun _ => 0)))] H := hP
  have hD : va_D A [(h, .inr (0, [.ref q1, .ref q2, .null, .null, .null, .null, .int 0, .int 0, .int 0, .int 0, .int 0, .int 0, .int 0])), (q1, .inl (k1, 419, .inl (fun _ => 0))), (q2, .inl (k2, 419, .inl (fun _ => 0))), (q3, .inl (k3, 41, .inl (fun _ => 0)))] := hD
  refine va_putF (D := (dC, dI)) (ci := 0) (v := .ref q3) (ty := .array .int) (C := RX0) (T := TX0) (N := 13) hx hb htA inX0 tyX0 tyX0_ok nX0 hown hK hP hD hS 0 rfl rfl 2 (by decide) (htA _ lkX0_16) (fun _ h9 => h9) rfl hin rfl (by decide +kernel) rfl rfl (Nat.le_of_ble_eq_true rfl) dX0_init_27 (fun H locs hP hD hS => ?_)
  have hP : va_P (dC, dI) vwCl [(h, .inr (0, [.ref q1, .ref q2, .ref q3, .null, .null, .null, .int 0, .int 0, .int 0, .int 0, .int 0, .int 0, .int 0])), (q1, .inl (k1, 419, .inl (fun _ => 0))), (q2, .inl (k2, 419, .inl (fun _ => 0))), (q3, .inl (k3, 41, .inl (fun _ => 0)))] H := hP
  have hD : va_D A [(h, .inr (0, [.ref q1, .ref q2, .ref q3, .null, .null, .null, .int 0, .int 0, .int 0, .int 0, .int 0, .int 0, .int 0])), (q1, .inl (k1, 419, .inl (fun _ => 0))), (q2, .inl (k2, 419, .inl (fun _ => 0))), (q3, .inl (k3, 41, .inl (fun _ => 0)))] := hD
  refine lv_aload_n hx hb dX0_init_30 rfl (lv_at hl 0 rfl) ?_
  refine lv_bipush (v := 18) hx hb dX0_init_31 (by decide) ?_
  have hkc : 3 + 1 ≤ 6 := by decide
  have hks : 879 + 18 ≤ 933 := by decide
  refine va_newa (atype := .int) (ty := .int) (n := 18) (N' := 18) (a0 := (18, .inl (fun _ => 0))) hx hb (htA _ ac_int) rfl hK hP hD hS hA (fun _ => rfl) (by decide) (by decide) (by decide) hkc hks dX0_init_33 (fun q4 k4 H hK hP hD hS => ?_)
  refine W.widen (k := 4) (n := 897) (by decide) (by decide) ?_
  have hK : va_K (dC, dI) vwCl [(k1, .int), (k2, .int), (k3, .int), (k4, .int)] s := hK
  have hP : va_P (dC, dI) vwCl [(h, .inr (0, [.ref q1, .ref q2, .ref q3, .null, .null, .null, .int 0, .int 0, .int 0, .int 0, .int 0, .int 0, .int 0])), (q1, .inl (k1, 419, .inl (fun _ => 0))), (q2, .inl (k2, 419, .inl (fun _ => 0))), (q3, .inl (k3, 41, .inl (fun _ => 0))), (q4, .inl (k4, 18, .inl (fun _ => 0)))] H := hP
  have hD : va_D A [(h, .inr (0, [.ref q1, .ref q2, .ref q3, .null, .null, .null, .int 0, .int 0, .int 0, .int 0, .int 0, .int 0, .int 0])), (q1, .inl (k1, 419, .inl (fun _ => 0))), (q2, .inl (k2, 419, .inl (fun _ => 0))), (q3, .inl (k3, 41, .inl (fun _ => 0))), (q4, .inl (k4, 18, .inl (fun _ => 0)))] := hD
  refine va_putF (D := (dC, dI)) (ci := 0) (v := .ref q4) (ty := .array .int) (C := RX0) (T := TX0) (N := 13) hx hb htA inX0 tyX0 tyX0_ok nX0 hown hK hP hD hS 0 rfl rfl 3 (by decide) (htA _ lkX0_19) (fun _ h9 => h9) rfl hin rfl (by decide +kernel) rfl rfl (Nat.le_of_ble_eq_true rfl) dX0_init_35 (fun H locs hP hD hS => ?_)
  have hP : va_P (dC, dI) vwCl [(h, .inr (0, [.ref q1, .ref q2, .ref q3, .ref q4, .null, .null, .int 0, .int 0, .int 0, .int 0, .int 0, .int 0, .int 0])), (q1, .inl (k1, 419, .inl (fun _ => 0))), (q2, .inl (k2, 419, .inl (fun _ => 0))), (q3, .inl (k3, 41, .inl (fun _ => 0))), (q4, .inl (k4, 18, .inl (fun _ => 0)))] H := hP
  have hD : va_D A [(h, .inr (0, [.ref q1, .ref q2, .ref q3, .ref q4, .null, .null, .int 0, .int 0, .int 0, .int 0, .int 0, .int 0, .int 0])), (q1, .inl (k1, 419, .inl (fun _ => 0))), (q2, .inl (k2, 419, .inl (fun _ => 0))), (q3, .inl (k3, 41, .inl (fun _ => 0))), (q4, .inl (k4, 18, .inl (fun _ => 0)))] := hD
  refine lv_aload_n hx hb dX0_init_38 rfl (lv_at hl 0 rfl) ?_
  refine lv_bipush (v := 18) hx hb dX0_init_39 (by decide) ?_
  have hkc : 4 + 1 ≤ 6 := by decide
  have hks : 897 + 18 ≤ 933 := by decide
  refine va_newa (atype := .int) (ty := .int) (n := 18) (N' := 18) (a0 := (18, .inl (fun _ => 0))) hx hb (htA _ ac_int) rfl hK hP hD hS hA (fun _ => rfl) (by decide) (by decide) (by decide) hkc hks dX0_init_41 (fun q5 k5 H hK hP hD hS => ?_)
  refine W.widen (k := 5) (n := 915) (by decide) (by decide) ?_
  have hK : va_K (dC, dI) vwCl [(k1, .int), (k2, .int), (k3, .int), (k4, .int), (k5, .int)] s := hK
  have hP : va_P (dC, dI) vwCl [(h, .inr (0, [.ref q1, .ref q2, .ref q3, .ref q4, .null, .null, .int 0, .int 0, .int 0, .int 0, .int 0, .int 0, .int 0])), (q1, .inl (k1, 419, .inl (fun _ => 0))), (q2, .inl (k2, 419, .inl (fun _ => 0))), (q3, .inl (k3, 41, .inl (fun _ => 0))), (q4, .inl (k4, 18, .inl (fun _ => 0))), (q5, .inl (k5, 18, .inl (fun _ => 0)))] H := hP
  have hD : va_D A [(h, .inr (0, [.ref q1, .ref q2, .ref q3, .ref q4, .null, .null, .int 0, .int 0, .int 0, .int 0, .int 0, .int 0, .int 0])), (q1, .inl (k1, 419, .inl (fun _ => 0))), (q2, .inl (k2, 419, .inl (fun _ => 0))), (q3, .inl (k3, 41, .inl (fun _ => 0))), (q4, .inl (k4, 18, .inl (fun _ => 0))), (q5, .inl (k5, 18, .inl (fun _ => 0)))] := hD
  refine va_putF (D := (dC, dI)) (ci := 0) (v := .ref q5) (ty := .array .int) (C := RX0) (T := TX0) (N := 13) hx hb htA inX0 tyX0 tyX0_ok nX0 hown hK hP hD hS 0 rfl rfl 4 (by decide) (htA _ lkX0_22) (fun _ h9 => h9) rfl hin rfl (by decide +kernel) rfl rfl (Nat.le_of_ble_eq_true rfl) dX0_init_43 (fun H locs hP hD hS => ?_)
  have hP : va_P (dC, dI) vwCl [(h, .inr (0, [.ref q1, .ref q2, .ref q3, .ref q4, .ref q5, .null, .int 0, .int 0, .int 0, .int 0, .int 0, .int 0, .int 0])), (q1, .inl (k1, 419, .inl (fun _ => 0))), (q2, .inl (k2, 419, .inl (fun _ => 0))), (q3, .inl (k3, 41, .inl (fun _ => 0))), (q4, .inl (k4, 18, .inl (fun _ => 0))), (q5, .inl (k5, 18, .inl (fun _ => 0)))] H := hP
  have hD : va_D A [(h, .inr (0, [.ref q1, .ref q2, .ref q3, .ref q4, .ref q5, .null, .int 0, .int 0, .int 0, .int 0, .int 0, .int 0, .int 0])), (q1, .inl (k1, 419, .inl (fun _ => 0))), (q2, .inl (k2, 419, .inl (fun _ => 0))), (q3, .inl (k3, 41, .inl (fun _ => 0))), (q4, .inl (k4, 18, .inl (fun _ => 0))), (q5, .inl (k5, 18, .inl (fun _ => 0)))] := hD
  refine lv_aload_n hx hb dX0_init_46 rfl (lv_at hl 0 rfl) ?_
  refine lv_bipush (v := 18) hx hb dX0_init_47 (by decide) ?_
  have hkc : 5 + 1 ≤ 6 := by decide
  have hks : 915 + 18 ≤ 933 := by decide
  refine va_newa (atype := .int) (ty := .int) (n := 18) (N' := 18) (a0 := (18, .inl (fun _ => 0))) hx hb (htA _ ac_int) rfl hK hP hD hS hA (fun _ => rfl) (by decide) (by decide) (by decide) hkc hks dX0_init_49 (fun q6 k6 H hK hP hD hS => ?_)
  refine W.widen (k := 6) (n := 933) (by decide) (by decide) ?_
  have hK : va_K (dC, dI) vwCl [(k1, .int), (k2, .int), (k3, .int), (k4, .int), (k5, .int), (k6, .int)] s := hK
  have hP : va_P (dC, dI) vwCl [(h, .inr (0, [.ref q1, .ref q2, .ref q3, .ref q4, .ref q5, .null, .int 0, .int 0, .int 0, .int 0, .int 0, .int 0, .int 0])), (q1, .inl (k1, 419, .inl (fun _ => 0))), (q2, .inl (k2, 419, .inl (fun _ => 0))), (q3, .inl (k3, 41, .inl (fun _ => 0))), (q4, .inl (k4, 18, .inl (fun _ => 0))), (q5, .inl (k5, 18, .inl (fun _ => 0))), (q6, .inl (k6, 18, .inl (fun _ => 0)))] H := hP
  have hD : va_D A [(h, .inr (0, [.ref q1, .ref q2, .ref q3, .ref q4, .ref q5, .null, .int 0, .int 0, .int 0, .int 0, .int 0, .int 0, .int 0])), (q1, .inl (k1, 419, .inl (fun _ => 0))), (q2, .inl (k2, 419, .inl (fun _ => 0))), (q3, .inl (k3, 41, .inl (fun _ => 0))), (q4, .inl (k4, 18, .inl (fun _ => 0))), (q5, .inl (k5, 18, .inl (fun _ => 0))), (q6, .inl (k6, 18, .inl (fun _ => 0)))] := hD
  refine va_putF (D := (dC, dI)) (ci := 0) (v := .ref q6) (ty := .array .int) (C := RX0) (T := TX0) (N := 13) hx hb htA inX0 tyX0 tyX0_ok nX0 hown hK hP hD hS 0 rfl rfl 5 (by decide) (htA _ lkX0_25) (fun _ h9 => h9) rfl hin rfl (by decide +kernel) rfl rfl (Nat.le_of_ble_eq_true rfl) dX0_init_51 (fun H locs hP hD hS => ?_)
  have hP : va_P (dC, dI) vwCl [(h, .inr (0, [.ref q1, .ref q2, .ref q3, .ref q4, .ref q5, .ref q6, .int 0, .int 0, .int 0, .int 0, .int 0, .int 0, .int 0])), (q1, .inl (k1, 419, .inl (fun _ => 0))), (q2, .inl (k2, 419, .inl (fun _ => 0))), (q3, .inl (k3, 41, .inl (fun _ => 0))), (q4, .inl (k4, 18, .inl (fun _ => 0))), (q5, .inl (k5, 18, .inl (fun _ => 0))), (q6, .inl (k6, 18, .inl (fun _ => 0)))] H := hP
  have hD : va_D A [(h, .inr (0, [.ref q1, .ref q2, .ref q3, .ref q4, .ref q5, .ref q6, .int 0, .int 0, .int 0, .int 0, .int 0, .int 0, .int 0])), (q1, .inl (k1, 419, .inl (fun _ => 0))), (q2, .inl (k2, 419, .inl (fun _ => 0))), (q3, .inl (k3, 41, .inl (fun _ => 0))), (q4, .inl (k4, 18, .inl (fun _ => 0))), (q5, .inl (k5, 18, .inl (fun _ => 0))), (q6, .inl (k6, 18, .inl (fun _ => 0)))] := hD
  refine lv_aload_n hx hb dX0_init_54 rfl (lv_at hl 0 rfl) ?_
  refine lv_iconst (v := (-1)) hx hb dX0_init_55 (by decide) ?_
  refine va_put (D := (dC, dI)) (ci := 0) (v := .int (-1)) (ty := .int) (C := RX0) (T := TX0) (N := 13) hx hb htA inX0 tyX0 tyX0_ok nX0 hown hK hP hD hS 0 rfl rfl 12 (by decide) (htA _ lkX0_28) (fun _ h9 => h9) rfl (by decide +kernel) rfl rfl (Nat.le_of_ble_eq_true rfl) dX0_init_56 (fun H locs hP hD hS => ?_)
  have hP : va_P (dC, dI) vwCl [(h, .inr (0, [.ref q1, .ref q2, .ref q3, .ref q4, .ref q5, .ref q6, .int 0, .int 0, .int 0, .int 0, .int 0, .int 0, .int (-1)])), (q1, .inl (k1, 419, .inl (fun _ => 0))), (q2, .inl (k2, 419, .inl (fun _ => 0))), (q3, .inl (k3, 41, .inl (fun _ => 0))), (q4, .inl (k4, 18, .inl (fun _ => 0))), (q5, .inl (k5, 18, .inl (fun _ => 0))), (q6, .inl (k6, 18, .inl (fun _ => 0)))] H := hP
  have hD : va_D A [(h, .inr (0, [.ref q1, .ref q2, .ref q3, .ref q4, .ref q5, .ref q6, .int 0, .int 0, .int 0, .int 0, .int 0, .int 0, .int (-1)])), (q1, .inl (k1, 419, .inl (fun _ => 0))), (q2, .inl (k2, 419, .inl (fun _ => 0))), (q3, .inl (k3, 41, .inl (fun _ => 0))), (q4, .inl (k4, 18, .inl (fun _ => 0))), (q5, .inl (k5, 18, .inl (fun _ => 0))), (q6, .inl (k6, 18, .inl (fun _ => 0)))] := hD
  refine W.widen (k := 6) (n := 933) (by decide) (by decide) ?_
  exact W.vret hx hb hr (fun t ht hW => ⟨⟨(), rfl, trivial, q1, q2, q3, q4, q5, q6, k1, k2, k3, k4, k5, k6, by rw [ht]; exact hP, va_K.moved hW.alike hK, hD⟩, hS.F ht⟩) hS.2.2 dX0_init_59
