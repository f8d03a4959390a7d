set_option maxHeartbeats 1000000 in
set_option maxRecDepth 100000 in
theorem c_sinit (l : Launch) (dC : Nat → ClassId) (dI : Nat → Nat → Nat) (hs : Nat) (sz : Nat) : Met l yX2_init wsX2_init ({ frames := 1, cells := 5, slots := 1296, locals := 12 }) (va_Pc [.ref hs] (fun U => U.heap.size = sz ∧ va_P (dC, dI) vwCl [(hs, .inr (2, [.null, .null, .null, .null, .null, .int 0, .int 0, .long 0]))] U.heap ∧ va_K (dC, dI) vwCl [] U ∧ va_D (fun _ => True) [(hs, .inr (2, [.null, .null, .null, .null, .null, .int 0, .int 0, .long 0]))])) (va_Qv (fun (u : Unit) => True) (fun (u : Unit) (t : State) => ∃ (q1 q2 q7 q5 q6 : Nat) (k1 k2 k7 k5 k6 : ClassId), va_P (dC, dI) vwCl [sO hs q1 q2 q7 q5 q6 0 0 0, (q1, .inl (k1, 420, .inl (fun _ => 0))), (q2, .inl (k2, 420, .inl (fun _ => 0))), (q7, .inl (k7, 420, .inr (.inl (fun _ => 0)))), (q5, .inl (k5, 18, .inl (fun _ => 0))), (q6, .inl (k6, 18, .inl (fun _ => 0)))] t.heap ∧ va_K (dC, dI) vwCl [(k1, .int), (k2, .int), (k7, .long), (k5, .int), (k6, .int)] t ∧ va_D (va_A [(hs, .inr (2, [.null, .null, .null, .null, .null, .int 0, .int 0, .long 0]))] sz) [sO hs q1 q2 q7 q5 q6 0 0 0, (q1, .inl (k1, 420, .inl (fun _ => 0))), (q2, .inl (k2, 420, .inl (fun _ => 0))), (q7, .inl (k7, 420, .inr (.inl (fun _ => 0)))), (q5, .inl (k5, 18, .inl (fun _ => 0))), (q6, .inl (k6, 18, .inl (fun _ => 0)))]) (va_A [(hs, .inr (2, [.null, .null, .null, .null, .null, .int 0, .int 0, .long 0]))] sz)) 5 1296 (va_A [(hs, .inr (2, [.null, .null, .null, .null, .null, .int 0, .int 0, .long 0]))] sz) := by
  refine Met.ofW (cc := cX2_init) (maxL := 1) (ret := none) (by decide) rfl ?_
  intro p e s m args below meth c s₁ B hml hv
  obtain ⟨rfl, hsz, hP, hK, hD0⟩ := hv
  have hx := B.exec
  have hb := B.bytes
  have hr := B.returns
  have hts := atoms_spec (ws := wsX2_init) B.pre
  have htA : ∀ w ∈ wsA, w.before _ s = true := fun w h => hts w (List.mem_cons_of_mem _ h)
  have hown : s.vm.findClass RX2 = some m.cls := findClass_of_methodNamed B.named
  have hlocks := B.notSynchronized
  have hin : meth.name = "<init>" := (name_of_methodNamed B.named B.method).1
  subst hsz
  have hD := hD0.self (sz := s.heap.size)
  generalize hAe : va_A [(hs, .inr (2, [.null, .null, .null, .null, .null, .int 0, .int 0, .long 0]))] s.heap.size = A at hD ⊢
  have hA : ∀ q : Nat, s.heap.size ≤ q → A q := fun q h => by rw [← hAe]; exact Or.inr h
  have hS : va_S A s.heap s.heap [] := va_S.rf
  have hP : va_P (dC, dI) vwCl [(hs, .inr (2, [.null, .null, .null, .null, .null, .int 0, .int 0, .long 0]))] s.heap := hP
  have hl := lv_entry ([.ref hs]) (n := 1) (Nat.le_of_ble_eq_true rfl)
  rw [lg_entry_eq]
  generalize (lg_sl ([.ref hs]) ++ List.replicate (1 - (lg_sl ([.ref hs])).length) Slot.unset).toArray = ls at hl ⊢
  have hl : lv_has ls 1 [(0, .ref hs)] := hl
  refine lv_aload_n hx hb dX2_init_0 rfl (lv_at hl 0 rfl) ?_
  refine W.objInit hx hb hown (htA _ lkX2_5) (htA _ im_obj) (htA _ co_obj) rfl (by rw [hml]; exact hl.1) rfl dX2_init_1 (Nat.le_of_ble_eq_true rfl) (Nat.le_of_ble_eq_true rfl) ?_
  refine W.eq (g2 := F0 m 4 ls []) rfl ?_
  refine lv_aload_n hx hb dX2_init_4 rfl (lv_at hl 0 rfl) ?_
  refine lv_sipush (v := 420) hx hb dX2_init_5 (by decide) ?_
  have hkc : 0 + 1 ≤ 5 := by decide
  have hks : 0 + 420 ≤ 1296 := by decide
  refine va_newa (atype := .int) (ty := .int) (n := 420) (N' := 420) (a0 := (420, .inl (fun _ => 0))) hx hb (htA _ ac_int) rfl hK hP hD hS hA (fun _ => rfl) (by decide) (by decide) (by decide) hkc hks dX2_init_8 (fun q1 k1 H hK hP hD hS => ?_)
  refine W.widen (k := 1) (n := 420) (by decide) (by decide) ?_
  have hK : va_K (dC, dI) vwCl [(k1, .int)] s := hK
  have hP : va_P (dC, dI) vwCl [(hs, .inr (2, [.null, .null, .null, .null, .null, .int 0, .int 0, .long 0])), (q1, .inl (k1, 420, .inl (fun _ => 0)))] H := hP
  have hD : va_D A [(hs, .inr (2, [.null, .null, .null, .null, .null, .int 0, .int 0, .long 0])), (q1, .inl (k1, 420, .inl (fun _ => 0)))] := hD
  refine va_putF (D := (dC, dI)) (ci := 2) (v := .ref q1) (ty := .array .int) (C := RX2) (T := TX2) (N := 8) hx hb htA inX2 tyX2 tyX2_ok nX2 hown hK hP hD hS 0 rfl rfl 0 (by decide) (htA _ lkX2_11) (fun _ h9 => h9) rfl hin rfl (by decide +kernel) rfl rfl (Nat.le_of_ble_eq_true rfl) dX2_init_10 (fun H locs hP hD hS => ?_)
  have hP : va_P (dC, dI) vwCl [(hs, .inr (2, [.ref q1, .null, .null, .null, .null, .int 0, .int 0, .long 0])), (q1, .inl (k1, 420, .inl (fun _ => 0)))] H := hP
  have hD : va_D A [(hs, .inr (2, [.ref q1, .null, .null, .null, .null, .int 0, .int 0, .long 0])), (q1, .inl (k1, 420, .inl (fun _ => 0)))] := hD
  refine lv_aload_n hx hb dX2_init_13 rfl (lv_at hl 0 rfl) ?_
  refine lv_sipush (v := 420) hx hb dX2_init_14 (by decide) ?_
  have hkc : 1 + 1 ≤ 5 := by decide
  have hks : 420 + 420 ≤ 1296 := by decide
  refine va_newa (atype := .int) (ty := .int) (n := 420) (N' := 420) (a0 := (420, .inl (fun _ => 0))) hx hb (htA _ ac_int) rfl hK hP hD hS hA (fun _ => rfl) (by decide) (by decide) (by decide) hkc hks dX2_init_17 (fun q2 k2 H hK hP hD hS => ?_)
  refine W.widen (k := 2) (n := 840) (by decide) (by decide) ?_
  have hK : va_K (dC, dI) vwCl [(k1, .int), (k2, .int)] s := hK
  have hP : va_P (dC, dI) vwCl [(hs, .inr (2, [.ref q1, .null, .null, .null, .null, .int 0, .int 0, .long 0])), (q1, .inl (k1, 420, .inl (fun _ => 0))), (q2, .inl (k2, 420, .inl (fun _ => 0)))] H := hP
  have hD : va_D A [(hs, .inr (2, [.ref q1, .null, .null, .null, .null, .int 0, .int 0, .long 0])), (q1, .inl (k1, 420, .inl (fun _ => 0))), (q2, .inl (k2, 420, .inl (fun _ => 0)))] := hD
  refine va_putF (D := (dC, dI)) (ci := 2) (v := .ref q2) (ty := .array .int) (C := RX2) (T := TX2) (N := 8) hx hb htA inX2 tyX2 tyX2_ok nX2 hown hK hP hD hS 0 rfl rfl 1 (by decide) (htA _ lkX2_15) (fun _ h9 => h9) rfl hin rfl (by decide +kernel) rfl rfl (Nat.le_of_ble_eq_true rfl) dX2_init_19 (fun H locs hP hD hS => ?_)
  have hP : va_P (dC, dI) vwCl [(hs, .inr (2, [.ref q1, .ref q2, .null, .null, .null, .int 0, .int 0, .long 0])), (q1, .inl (k1, 420, .inl (fun _ => 0))), (q2, .inl (k2, 420, .inl (fun _ => 0)))] H := hP
  have hD : va_D A [(hs, .inr (2, [.ref q1, .ref q2, .null, .null, .null, .int 0, .int 0, .long 0])), (q1, .inl (k1, 420, .inl (fun _ => 0))), (q2, .inl (k2, 420, .inl (fun _ => 0)))] := hD
  refine lv_aload_n hx hb dX2_init_22 rfl (lv_at hl 0 rfl) ?_
  refine lv_sipush (v := 420) hx hb dX2_init_23 (by decide) ?_
  have hkc : 2 + 1 ≤ 5 := by decide
  have hks : 840 + 420 ≤ 1296 := by decide
  refine va_newa (atype := .long) (ty := .long) (n := 420) (N' := 420) (a0 := (420, .inr (.inl (fun _ => 0)))) hx hb (htA _ ac_long) rfl hK hP hD hS hA (fun _ => rfl) (by decide) (by decide) (by decide) hkc hks dX2_init_26 (fun q7 k7 H hK hP hD hS => ?_)
  refine W.widen (k := 3) (n := 1260) (by decide) (by decide) ?_
  have hK : va_K (dC, dI) vwCl [(k1, .int), (k2, .int), (k7, .long)] s := hK
  have hP : va_P (dC, dI) vwCl [(hs, .inr (2, [.ref q1, .ref q2, .null, .null, .null, .int 0, .int 0, .long 0])), (q1, .inl (k1, 420, .inl (fun _ => 0))), (q2, .inl (k2, 420, .inl (fun _ => 0))), (q7, .inl (k7, 420, .inr (.inl (fun _ => 0))))] H := hP
  have hD : va_D A [(hs, .inr (2, [.ref q1, .ref q2, .null, .null, .null, .int 0, .int 0, .long 0])), (q1, .inl (k1, 420, .inl (fun _ => 0))), (q2, .inl (k2, 420, .inl (fun _ => 0))), (q7, .inl (k7, 420, .inr (.inl (fun _ => 0))))] := hD
  refine va_putF (D := (dC, dI)) (ci := 2) (v := .ref q7) (ty := .array .long) (C := RX2) (T := TX2) (N := 8) hx hb htA inX2 tyX2 tyX2_ok nX2 hown hK hP hD hS 0 rfl rfl 2 (by decide) (htA _ lkX2_18) (fun _ h9 => h9) rfl hin rfl (by decide +kernel) rfl rfl (Nat.le_of_ble_eq_true rfl) dX2_init_28 (fun H locs hP hD hS => ?_)
  have hP : va_P (dC, dI) vwCl [(hs, .inr (2, [.ref q1, .ref q2, .ref q7, .null, .null, .int 0, .int 0, .long 0])), (q1, .inl (k1, 420, .inl (fun _ => 0))), (q2, .inl (k2, 420, .inl (fun _ => 0))), (q7, .inl (k7, 420, .inr (.inl (fun _ => 0))))] H := hP
  have hD : va_D A [(hs, .inr (2, [.ref q1, .ref q2, .ref q7, .null, .null, .int 0, .int 0, .long 0])), (q1, .inl (k1, 420, .inl (fun _ => 0))), (q2, .inl (k2, 420, .inl (fun _ => 0))), (q7, .inl (k7, 420, .inr (.inl (fun _ => 0))))] := hD
  refine lv_aload_n hx hb dX2_init_31 rfl (lv_at hl 0 rfl) ?_
  refine lv_bipush (v := 18) hx hb dX2_init_32 (by decide) ?_
  have hkc : 3 + 1 ≤ 5 := by decide
  have hks : 1260 + 18 ≤ 1296 := by decide
  refine va_newa (atype := .int) (ty := .int) (n := 18) (N' := 18) (a0 := (18, .inl (fun _ => 0))) hx hb (htA _ ac_int) rfl hK hP hD hS hA (fun _ => rfl) (by decide) (by decide) (by decide) hkc hks dX2_init_34 (fun q5 k5 H hK hP hD hS => ?_)
  refine W.widen (k := 4) (n := 1278) (by decide) (by decide) ?_
  have hK : va_K (dC, dI) vwCl [(k1, .int), (k2, .int), (k7, .long), (k5, .int)] s := hK
  have hP : va_P (dC, dI) vwCl [(hs, .inr (2, [.ref q1, .ref q2, .ref q7, .null, .null, .int 0, .int 0, .long 0])), (q1, .inl (k1, 420, .inl (fun _ => 0))), (q2, .inl (k2, 420, .inl (fun _ => 0))), (q7, .inl (k7, 420, .inr (.inl (fun _ => 0)))), (q5, .inl (k5, 18, .inl (fun _ => 0)))] H := hP
  have hD : va_D A [(hs, .inr (2, [.ref q1, .ref q2, .ref q7, .null, .null, .int 0, .int 0, .long 0])), (q1, .inl (k1, 420, .inl (fun _ => 0))), (q2, .inl (k2, 420, .inl (fun _ => 0))), (q7, .inl (k7, 420, .inr (.inl (fun _ => 0)))), (q5, .inl (k5, 18, .inl (fun _ => 0)))] := hD
  refine va_putF (D := (dC, dI)) (ci := 2) (v := .ref q5) (ty := .array .int) (C := RX2) (T := TX2) (N := 8) hx hb htA inX2 tyX2 tyX2_ok nX2 hown hK hP hD hS 0 rfl rfl 3 (by decide) (htA _ lkX2_22) (fun _ h9 => h9) rfl hin rfl (by decide +kernel) rfl rfl (Nat.le_of_ble_eq_true rfl) dX2_init_36 (fun H locs hP hD hS => ?_)
  have hP : va_P (dC, dI) vwCl [(hs, .inr (2, [.ref q1, .ref q2, .ref q7, .ref q5, .null, .int 0, .int 0, .long 0])), (q1, .inl (k1, 420, .inl (fun _ => 0))), (q2, .inl (k2, 420, .inl (fun _ => 0))), (q7, .inl (k7, 420, .inr (.inl (fun _ => 0)))), (q5, .inl (k5, 18, .inl (fun _ => 0)))] H := hP
  have hD : va_D A [(hs, .inr (2, [.ref q1, .ref q2, .ref q7, .ref q5, .null, .int 0, .int 0, .long 0])), (q1, .inl (k1, 420, .inl (fun _ => 0))), (q2, .inl (k2, 420, .inl (fun _ => 0))), (q7, .inl (k7, 420, .inr (.inl (fun _ => 0)))), (q5, .inl (k5, 18, .inl (fun _ => 0)))] := hD
  refine lv_aload_n hx hb dX2_init_39 rfl (lv_at hl 0 rfl) ?_
  refine lv_bipush (v := 18) hx hb dX2_init_40 (by decide) ?_
  have hkc : 4 + 1 ≤ 5 := by decide
  have hks : 1278 + 18 ≤ 1296 := by decide
  refine va_newa (atype := .int) (ty := .int) (n := 18) (N' := 18) (a0 := (18, .inl (fun _ => 0))) hx hb (htA _ ac_int) rfl hK hP hD hS hA (fun _ => rfl) (by decide) (by decide) (by decide) hkc hks dX2_init_42 (fun q6 k6 H hK hP hD hS => ?_)
  refine W.widen (k := 5) (n := 1296) (by decide) (by decide) ?_
  have hK : va_K (dC, dI) vwCl [(k1, .int), (k2, .int), (k7, .long), (k5, .int), (k6, .int)] s := hK
  have hP : va_P (dC, dI) vwCl [(hs, .inr (2, [.ref q1, .ref q2, .ref q7, .ref q5, .null, .int 0, .int 0, .long 0])), (q1, .inl (k1, 420, .inl (fun _ => 0))), (q2, .inl (k2, 420, .inl (fun _ => 0))), (q7, .inl (k7, 420, .inr (.inl (fun _ => 0)))), (q5, .inl (k5, 18, .inl (fun _ => 0))), (q6, .inl (k6, 18, .inl (fun _ => 0)))] H := hP
  have hD : va_D A [(hs, .inr (2, [.ref q1, .ref q2, .ref q7, .ref q5, .null, .int 0, .int 0, .long 0])), (q1, .inl (k1, 420, .inl (fun _ => 0))), (q2, .inl (k2, 420, .inl (fun _ => 0))), (q7, .inl (k7, 420, .inr (.inl (fun _ => 0)))), (q5, .inl (k5, 18, .inl (fun _ => 0))), (q6, .inl (k6, 18, .inl (fun _ => 0)))] := hD
  refine va_putF (D := (dC, dI)) (ci := 2) (v := .ref q6) (ty := .array .int) (C := RX2) (T := TX2) (N := 8) hx hb htA inX2 tyX2 tyX2_ok nX2 hown hK hP hD hS 0 rfl rfl 4 (by decide) (htA _ lkX2_25) (fun _ h9 => h9) rfl hin rfl (by decide +kernel) rfl rfl (Nat.le_of_ble_eq_true rfl) dX2_init_44 (fun H locs hP hD hS => ?_)
  have hP : va_P (dC, dI) vwCl [(hs, .inr (2, [.ref q1, .ref q2, .ref q7, .ref q5, .ref q6, .int 0, .int 0, .long 0])), (q1, .inl (k1, 420, .inl (fun _ => 0))), (q2, .inl (k2, 420, .inl (fun _ => 0))), (q7, .inl (k7, 420, .inr (.inl (fun _ => 0)))), (q5, .inl (k5, 18, .inl (fun _ => 0))), (q6, .inl (k6, 18, .inl (fun _ => 0)))] H := hP
  have hD : va_D A [(hs, .inr (2, [.ref q1, .ref q2, .ref q7, .ref q5, .ref q6, .int 0, .int 0, .long 0])), (q1, .inl (k1, 420, .inl (fun _ => 0))), (q2, .inl (k2, 420, .inl (fun _ => 0))), (q7, .inl (k7, 420, .inr (.inl (fun _ => 0)))), (q5, .inl (k5, 18, .inl (fun _ => 0))), (q6, .inl (k6, 18, .inl (fun _ => 0)))] := hD
  refine W.widen (k := 5) (n := 1296) (by decide) (by decide) ?_
  exact W.vret hx hb hr (fun t ht hW => ⟨⟨(), rfl, trivial, q1, q2, q7, q5, q6, k1, k2, k7, k5, k6, by rw [ht]; exact hP, va_K.moved hW.alike hK, hD⟩, hS.F ht⟩) hS.2.2 dX2_init_47
set_option maxHeartbeats 1000000 in
set_option maxRecDepth 100000 in
theorem c_init (l : Launch) (dC : Nat → ClassId) (dI : Nat → Nat → Nat) (h : Nat) (sz : Nat) : Met l yX0_init wsX0_init ({ frames := 3, cells := 8, slots := 1363, locals := 60 }) (va_Pc [.ref h] (fun U => U.heap.size = sz ∧ va_P (dC, dI) vwCl [(h, .inr (0, [.null, .null, .null, .int 0, .int 0, .int 0, .int 0, .int 0, .int 0, .int 0]))] U.heap ∧ va_K (dC, dI) vwCl [] U ∧ va_D (fun _ => True) [(h, .inr (0, [.null, .null, .null, .int 0, .int 0, .int 0, .int 0, .int 0, .int 0, .int 0]))] ∧ va_Nw (.methodLinkNest RX0 11 yX2_init "ClauseYard") U)) (va_Qv (fun (u : Unit) => True) (fun (u : Unit) (t : State) => ∃ (hs q1 q2 q7 q3 q4 q5 q6 : Nat) (k1 k2 k7 k3 k4 k5 k6 : ClassId), va_P (dC, dI) vwCl [yO h hs q3 q4 0 0 0 0 0 0 (-1), sO hs q1 q2 q7 q5 q6 0 0 0, (q1, .inl (k1, 420, .inl (fun _ => 0))), (q2, .inl (k2, 420, .inl (fun _ => 0))), (q7, .inl (k7, 420, .inr (.inl (fun _ => 0)))), (q3, .inl (k3, 41, .inl (fun _ => 0))), (q4, .inl (k4, 18, .inl (fun _ => 0))), (q5, .inl (k5, 18, .inl (fun _ => 0))), (q6, .inl (k6, 18, .inl (fun _ => 0)))] t.heap ∧ va_K (dC, dI) vwCl [(k1, .int), (k2, .int), (k7, .long), (k3, .int), (k4, .int), (k5, .int), (k6, .int)] t ∧ va_D (va_A [(h, .inr (0, [.null, .null, .null, .int 0, .int 0, .int 0, .int 0, .int 0, .int 0, .int 0]))] sz) [yO h hs q3 q4 0 0 0 0 0 0 (-1), sO hs q1 q2 q7 q5 q6 0 0 0, (q1, .inl (k1, 420, .inl (fun _ => 0))), (q2, .inl (k2, 420, .inl (fun _ => 0))), (q7, .inl (k7, 420, .inr (.inl (fun _ => 0)))), (q3, .inl (k3, 41, .inl (fun _ => 0))), (q4, .inl (k4, 18, .inl (fun _ => 0))), (q5, .inl (k5, 18, .inl (fun _ => 0))), (q6, .inl (k6, 18, .inl (fun _ => 0)))]) (va_A [(h, .inr (0, [.null, .null, .null, .int 0, .int 0, .int 0, .int 0, .int 0, .int 0, .int 0]))] sz)) 8 1363 (va_A [(h, .inr (0, [.null, .null, .null, .int 0, .int 0, .int 0, .int 0, .int 0, .int 0, .int 0]))] sz) := by
  refine Met.ofW (cc := cX0_init) (maxL := 1) (ret := none) (by decide) rfl ?_
  intro p e s m args below meth c s₁ B hml hv
  obtain ⟨rfl, hsz, hP, hK, hD0, hNest⟩ := hv
  have hx := B.exec
  have hb := B.bytes
  have hr := B.returns
  have hts := atoms_spec (ws := wsX0_init) B.pre
  have htA : ∀ w ∈ wsA, w.before _ s = true := fun w h => hts w (List.mem_cons_of_mem _ h)
  have hown : s.vm.findClass RX0 = some m.cls := findClass_of_methodNamed B.named
  have hlocks := B.notSynchronized
  have hin : meth.name = "<init>" := (name_of_methodNamed B.named B.method).1
  subst hsz
  have hD := hD0.self (sz := s.heap.size)
  generalize hAe : va_A [(h, .inr (0, [.null, .null, .null, .int 0, .int 0, .int 0, .int 0, .int 0, .int 0, .int 0]))] s.heap.size = A at hD ⊢
  have hA : ∀ q : Nat, s.heap.size ≤ q → A q := fun q h => by rw [← hAe]; exact Or.inr h
  have hS : va_S A s.heap s.heap [] := va_S.rf
  have hP : va_P (dC, dI) vwCl [(h, .inr (0, [.null, .null, .null, .int 0, .int 0, .int 0, .int 0, .int 0, .int 0, .int 0]))] s.heap := hP
  have hl := lv_entry ([.ref h]) (n := 1) (Nat.le_of_ble_eq_true rfl)
  rw [lg_entry_eq]
  generalize (lg_sl ([.ref h]) ++ List.replicate (1 - (lg_sl ([.ref h])).length) Slot.unset).toArray = ls at hl ⊢
  have hl : lv_has ls 1 [(0, .ref h)] := hl
  refine lv_aload_n hx hb dX0_init_0 rfl (lv_at hl 0 rfl) ?_
  refine W.objInit hx hb hown (htA _ lkX0_3) (htA _ im_obj) (htA _ co_obj) rfl (by rw [hml]; exact hl.1) rfl dX0_init_1 (Nat.le_of_ble_eq_true rfl) (Nat.le_of_ble_eq_true rfl) ?_
  refine W.eq (g2 := F0 m 4 ls []) rfl ?_
  refine lv_aload_n hx hb dX0_init_4 rfl (lv_at hl 0 rfl) ?_
  refine va_new (ci := 2) (fs := [.null, .null, .null, .null, .null, .int 0, .int 0, .long 0]) (C := RX2) (T := TX2) (N := 8) hx hb htA inX2 tyX2 tyX2_ok hown (htA _ lkX0_9) (htA _ ist_ClauseYard_Search) (htA _ ini_ClauseYard_Search) hK hP hD hS hA rfl (fun j hj => by rcases (show j = 0 ∨ j = 1 ∨ j = 2 ∨ j = 3 ∨ j = 4 ∨ j = 5 ∨ j = 6 ∨ j = 7 by omega) with rfl | rfl | rfl | rfl | rfl | rfl | rfl | rfl <;> rfl) (by show 0 + 1 ≤ 8; decide) (by show 0 + 8 ≤ 1363; decide) dX0_init_5 (fun hs H hP hD hS => ?_)
  have hP : va_P (dC, dI) vwCl [(h, .inr (0, [.null, .null, .null, .int 0, .int 0, .int 0, .int 0, .int 0, .int 0, .int 0])), (hs, .inr (2, [.null, .null, .null, .null, .null, .int 0, .int 0, .long 0]))] H := hP
  have hD : va_D A [(h, .inr (0, [.null, .null, .null, .int 0, .int 0, .int 0, .int 0, .int 0, .int 0, .int 0])), (hs, .inr (2, [.null, .null, .null, .null, .null, .int 0, .int 0, .long 0]))] := hD
  refine W.widen (k := 1) (n := 8) (by decide) (by decide) ?_
  refine lv_dup hx hb dX0_init_8 rfl ?_
  have hPc := hP.sub (ws' := [(hs, .inr (2, [.null, .null, .null, .null, .null, .int 0, .int 0, .long 0]))]) [1] rfl
  have hDc := hD.sub (ws' := [(hs, .inr (2, [.null, .null, .null, .null, .null, .int 0, .int 0, .long 0]))]) [1] (by decide) rfl
  have hKc := hK.sub (tys' := []) [] rfl
  have hFc := va_free (wc := [(hs, .inr (2, [.null, .null, .null, .null, .null, .int 0, .int 0, .long 0]))]) hD hS hA [1] rfl
  refine va_callv (va_runIN (As := []) (rest := [.ref hs, .ref h]) ⟨hx, hb, hml, hown, htA⟩ (c_sinit l dC dI hs H.size) ⟨va_cnB 0 htA gN_init rfl rfl rfl hNest (htA _ ini_ClauseYard_Search) (by decide +kernel) ⟨Nat.le_of_ble_eq_true rfl, Nat.le_of_ble_eq_true rfl⟩, rfl, htA _ im_X2_init⟩ ⟨fun a U g mk q => by obtain ⟨q0, q1, qP, qK, qD⟩ := q; exact ⟨q0, q1, qP, va_K.moved (u := U) (U := U.calling g mk a) (Vm.Alike.refl U.vm) qK, qD⟩, fun U hU hW => ⟨rfl, by rw [hU], by rw [hU]; exact hPc, va_K.moved hW.alike hKc, hDc.weaken (fun _ _ _ _ => trivial)⟩⟩ rfl rfl hl.1 rfl (lv_room (Nat.le_of_ble_eq_true rfl)) dX0_init_9 ⟨by show 1 + 5 ≤ 8; decide, by show 8 + 1296 ≤ 1363; decide⟩) hS (fun q _ h => hFc q h) hFc (fun u t9 H1 locs ht hvm hw hB hz1 hk1 hS => ?_)
  obtain ⟨q1, q2, q7, q5, q6, k1, k2, k7, k5, k6, hP1, hK1, hD1⟩ := hB
  rw [ht] at hP1
  have hK1 := va_K.moved hvm.symm hK1
  obtain ⟨hP, hD⟩ := va_join (wr := [(h, .inr (0, [.null, .null, .null, .int 0, .int 0, .int 0, .int 0, .int 0, .int 0, .int 0]))]) (w1 := [sO hs q1 q2 q7 q5 q6 0 0 0, (q1, .inl (k1, 420, .inl (fun _ => 0))), (q2, .inl (k2, 420, .inl (fun _ => 0))), (q7, .inl (k7, 420, .inr (.inl (fun _ => 0)))), (q5, .inl (k5, 18, .inl (fun _ => 0))), (q6, .inl (k6, 18, .inl (fun _ => 0)))]) hP hD [1] [0] rfl rfl (by decide) (by decide) hk1 hFc hP1 hD1
  have hK := hK.app hK1
  generalize H1 = H at hP hS ⊢
  have hK : va_K (dC, dI) vwCl [(k1, .int), (k2, .int), (k7, .long), (k5, .int), (k6, .int)] s := hK
  have hP : va_P (dC, dI) vwCl [(h, .inr (0, [.null, .null, .null, .int 0, .int 0, .int 0, .int 0, .int 0, .int 0, .int 0])), sO hs q1 q2 q7 q5 q6 0 0 0, (q1, .inl (k1, 420, .inl (fun _ => 0))), (q2, .inl (k2, 420, .inl (fun _ => 0))), (q7, .inl (k7, 420, .inr (.inl (fun _ => 0)))), (q5, .inl (k5, 18, .inl (fun _ => 0))), (q6, .inl (k6, 18, .inl (fun _ => 0)))] H := hP
  have hD : va_D A [(h, .inr (0, [.null, .null, .null, .int 0, .int 0, .int 0, .int 0, .int 0, .int 0, .int 0])), sO hs q1 q2 q7 q5 q6 0 0 0, (q1, .inl (k1, 420, .inl (fun _ => 0))), (q2, .inl (k2, 420, .inl (fun _ => 0))), (q7, .inl (k7, 420, .inr (.inl (fun _ => 0)))), (q5, .inl (k5, 18, .inl (fun _ => 0))), (q6, .inl (k6, 18, .inl (fun _ => 0)))] := hD
  refine W.widen (k := 6) (n := 1304) (by decide) (by decide) ?_
  refine va_putF (D := (dC, dI)) (ci := 0) (v := .ref hs) (ty := .object "ClauseYard$Search") (C := RX0) (T := TX0) (N := 10) hx hb htA inX0 tyX0 tyX0_ok nX0 hown hK hP hD hS 0 rfl rfl 0 (by decide) (htA _ lkX0_12) (fun _ h9 => h9) rfl hin rfl (by decide +kernel) rfl rfl (Nat.le_of_ble_eq_true rfl) dX0_init_12 (fun H locs hP hD hS => ?_)
  have hP : va_P (dC, dI) vwCl [(h, .inr (0, [.ref hs, .null, .null, .int 0, .int 0, .int 0, .int 0, .int 0, .int 0, .int 0])), sO hs q1 q2 q7 q5 q6 0 0 0, (q1, .inl (k1, 420, .inl (fun _ => 0))), (q2, .inl (k2, 420, .inl (fun _ => 0))), (q7, .inl (k7, 420, .inr (.inl (fun _ => 0)))), (q5, .inl (k5, 18, .inl (fun _ => 0))), (q6, .inl (k6, 18, .inl (fun _ => 0)))] H := hP
  have hD : va_D A [(h, .inr (0, [.ref hs, .null, .null, .int 0, .int 0, .int 0, .int 0, .int 0, .int 0, .int 0])), sO hs q1 q2 q7 q5 q6 0 0 0, (q1, .inl (k1, 420, .inl (fun _ => 0))), (q2, .inl (k2, 420, .inl (fun _ => 0))), (q7, .inl (k7, 420, .inr (.inl (fun _ => 0)))), (q5, .inl (k5, 18, .inl (fun _ => 0))), (q6, .inl (k6, 18, .inl (fun _ => 0)))] := hD
  refine lv_aload_n hx hb dX0_init_15 rfl (lv_at hl 0 rfl) ?_
  refine lv_bipush (v := 41) hx hb dX0_init_16 (by decide) ?_
  have hkc : 6 + 1 ≤ 8 := by decide
  have hks : 1304 + 41 ≤ 1363 := by decide
  refine va_newa (atype := .int) (ty := .int) (n := 41) (N' := 41) (a0 := (41, .inl (fun _ => 0))) hx hb (htA _ ac_int) rfl hK hP hD hS hA (fun _ => rfl) (by decide) (by decide) (by decide) hkc hks dX0_init_18 (fun q3 k3 H hK hP hD hS => ?_)
  refine W.widen (k := 7) (n := 1345) (by decide) (by decide) ?_
  have hK : va_K (dC, dI) vwCl [(k1, .int), (k2, .int), (k7, .long), (k5, .int), (k6, .int), (k3, .int)] s := hK
  have hP : va_P (dC, dI) vwCl [(h, .inr (0, [.ref hs, .null, .null, .int 0, .int 0, .int 0, .int 0, .int 0, .int 0, .int 0])), sO hs q1 q2 q7 q5 q6 0 0 0, (q1, .inl (k1, 420, .inl (fun _ => 0))), (q2, .inl (k2, 420, .inl (fun _ => 0))), (q7, .inl (k7, 420, .inr (.inl (fun _ => 0)))), (q5, .inl (k5, 18, .inl (fun _ => 0))), (q6, .inl (k6, 18, .inl (fun _ => 0))), (q3, .inl (k3, 41, .inl (fun _ => 0)))] H := hP
  have hD : va_D A [(h, .inr (0, [.ref hs, .null, .null, .int 0, .int 0, .int 0, .int 0, .int 0, .int 0, .int 0])), sO hs q1 q2 q7 q5 q6 0 0 0, (q1, .inl (k1, 420, .inl (fun _ => 0))), (q2, .inl (k2, 420, .inl (fun _ => 0))), (q7, .inl (k7, 420, .inr (.inl (fun _ => 0)))), (q5, .inl (k5, 18, .inl (fun _ => 0))), (q6, .inl (k6, 18, .inl (fun _ => 0))), (q3, .inl (k3, 41, .inl (fun _ => 0)))] := hD
  refine va_putF (D := (dC, dI)) (ci := 0) (v := .ref q3) (ty := .array .int) (C := RX0) (T := TX0) (N := 10) hx hb htA inX0 tyX0 tyX0_ok nX0 hown hK hP hD hS 0 rfl rfl 1 (by decide) (htA _ lkX0_16) (fun _ h9 => h9) rfl hin rfl (by decide +kernel) rfl rfl (Nat.le_of_ble_eq_true rfl) dX0_init_20 (fun H locs hP hD hS => ?_)
  have hP : va_P (dC, dI) vwCl [(h, .inr (0, [.ref hs, .ref q3, .null, .int 0, .int 0, .int 0, .int 0, .int 0, .int 0, .int 0])), sO hs q1 q2 q7 q5 q6 0 0 0, (q1, .inl (k1, 420, .inl (fun _ => 0))), (q2, .inl (k2, 420, .inl (fun _ => 0))), (q7, .inl (k7, 420, .inr (.inl (fun _ => 0)))), (q5, .inl (k5, 18, .inl (fun _ => 0))), (q6, .inl (k6, 18, .inl (fun _ => 0))), (q3, .inl (k3, 41, .inl (fun _ => 0)))] H := hP
  have hD : va_D A [(h, .inr (0, [.ref hs, .ref q3, .null, .int 0, .int 0, .int 0, .int 0, .int 0, .int 0, .int 0])), sO hs q1 q2 q7 q5 q6 0 0 0, (q1, .inl (k1, 420, .inl (fun _ => 0))), (q2, .inl (k2, 420, .inl (fun _ => 0))), (q7, .inl (k7, 420, .inr (.inl (fun _ => 0)))), (q5, .inl (k5, 18, .inl (fun _ => 0))), (q6, .inl (k6, 18, .inl (fun _ => 0))), (q3, .inl (k3, 41, .inl (fun _ => 0)))] := hD
  refine lv_aload_n hx hb dX0_init_23 rfl (lv_at hl 0 rfl) ?_
  refine lv_bipush (v := 18) hx hb dX0_init_24 (by decide) ?_
  have hkc : 7 + 1 ≤ 8 := by decide
  have hks : 1345 + 18 ≤ 1363 := by decide
  refine va_newa (atype := .int) (ty := .int) (n := 18) (N' := 18) (a0 := (18, .inl (fun _ => 0))) hx hb (htA _ ac_int) rfl hK hP hD hS hA (fun _ => rfl) (by decide) (by decide) (by decide) hkc hks dX0_init_26 (fun q4 k4 H hK hP hD hS => ?_)
  refine W.widen (k := 8) (n := 1363) (by decide) (by decide) ?_
  have hK : va_K (dC, dI) vwCl [(k1, .int), (k2, .int), (k7, .long), (k5, .int), (k6, .int), (k3, .int), (k4, .int)] s := hK
  have hP : va_P (dC, dI) vwCl [(h, .inr (0, [.ref hs, .ref q3, .null, .int 0, .int 0, .int 0, .int 0, .int 0, .int 0, .int 0])), sO hs q1 q2 q7 q5 q6 0 0 0, (q1, .inl (k1, 420, .inl (fun _ => 0))), (q2, .inl (k2, 420, .inl (fun _ => 0))), (q7, .inl (k7, 420, .inr (.inl (fun _ => 0)))), (q5, .inl (k5, 18, .inl (fun _ => 0))), (q6, .inl (k6, 18, .inl (fun _ => 0))), (q3, .inl (k3, 41, .inl (fun _ => 0))), (q4, .inl (k4, 18, .inl (fun _ => 0)))] H := hP
  have hD : va_D A [(h, .inr (0, [.ref hs, .ref q3, .null, .int 0, .int 0, .int 0, .int 0, .int 0, .int 0, .int 0])), sO hs q1 q2 q7 q5 q6 0 0 0, (q1, .inl (k1, 420, .inl (fun _ => 0))), (q2, .inl (k2, 420, .inl (fun _ => 0))), (q7, .inl (k7, 420, .inr (.inl (fun _ => 0)))), (q5, .inl (k5, 18, .inl (fun _ => 0))), (q6, .inl (k6, 18, .inl (fun _ => 0))), (q3, .inl (k3, 41, .inl (fun _ => 0))), (q4, .inl (k4, 18, .inl (fun _ => 0)))] := hD
  refine va_putF (D := (dC, dI)) (ci := 0) (v := .ref q4) (ty := .array .int) (C := RX0) (T := TX0) (N := 10) hx hb htA inX0 tyX0 tyX0_ok nX0 hown hK hP hD hS 0 rfl rfl 2 (by decide) (htA _ lkX0_20) (fun _ h9 => h9) rfl hin rfl (by decide +kernel) rfl rfl (Nat.le_of_ble_eq_true rfl) dX0_init_28 (fun H locs hP hD hS => ?_)
  have hP : va_P (dC, dI) vwCl [(h, .inr (0, [.ref hs, .ref q3, .ref q4, .int 0, .int 0, .int 0, .int 0, .int 0, .int 0, .int 0])), sO hs q1 q2 q7 q5 q6 0 0 0, (q1, .inl (k1, 420, .inl (fun _ => 0))), (q2, .inl (k2, 420, .inl (fun _ => 0))), (q7, .inl (k7, 420, .inr (.inl (fun _ => 0)))), (q5, .inl (k5, 18, .inl (fun _ => 0))), (q6, .inl (k6, 18, .inl (fun _ => 0))), (q3, .inl (k3, 41, .inl (fun _ => 0))), (q4, .inl (k4, 18, .inl (fun _ => 0)))] H := hP
  have hD : va_D A [(h, .inr (0, [.ref hs, .ref q3, .ref q4, .int 0, .int 0, .int 0, .int 0, .int 0, .int 0, .int 0])), sO hs q1 q2 q7 q5 q6 0 0 0, (q1, .inl (k1, 420, .inl (fun _ => 0))), (q2, .inl (k2, 420, .inl (fun _ => 0))), (q7, .inl (k7, 420, .inr (.inl (fun _ => 0)))), (q5, .inl (k5, 18, .inl (fun _ => 0))), (q6, .inl (k6, 18, .inl (fun _ => 0))), (q3, .inl (k3, 41, .inl (fun _ => 0))), (q4, .inl (k4, 18, .inl (fun _ => 0)))] := hD
  refine lv_aload_n hx hb dX0_init_31 rfl (lv_at hl 0 rfl) ?_
  refine lv_iconst (v := (-1)) hx hb dX0_init_32 (by decide) ?_
  refine va_put (D := (dC, dI)) (ci := 0) (v := .int (-1)) (ty := .int) (C := RX0) (T := TX0) (N := 10) hx hb htA inX0 tyX0 tyX0_ok nX0 hown hK hP hD hS 0 rfl rfl 9 (by decide) (htA _ lkX0_23) (fun _ h9 => h9) rfl (by decide +kernel) rfl rfl (Nat.le_of_ble_eq_true rfl) dX0_init_33 (fun H locs hP hD hS => ?_)
  have hP : va_P (dC, dI) vwCl [(h, .inr (0, [.ref hs, .ref q3, .ref q4, .int 0, .int 0, .int 0, .int 0, .int 0, .int 0, .int (-1)])), sO hs q1 q2 q7 q5 q6 0 0 0, (q1, .inl (k1, 420, .inl (fun _ => 0))), (q2, .inl (k2, 420, .inl (fun _ => 0))), (q7, .inl (k7, 420, .inr (.inl (fun _ => 0)))), (q5, .inl (k5, 18, .inl (fun _ => 0))), (q6, .inl (k6, 18, .inl (fun _ => 0))), (q3, .inl (k3, 41, .inl (fun _ => 0))), (q4, .inl (k4, 18, .inl (fun _ => 0)))] H := hP
  have hD : va_D A [(h, .inr (0, [.ref hs, .ref q3, .ref q4, .int 0, .int 0, .int 0, .int 0, .int 0, .int 0, .int (-1)])), sO hs q1 q2 q7 q5 q6 0 0 0, (q1, .inl (k1, 420, .inl (fun _ => 0))), (q2, .inl (k2, 420, .inl (fun _ => 0))), (q7, .inl (k7, 420, .inr (.inl (fun _ => 0)))), (q5, .inl (k5, 18, .inl (fun _ => 0))), (q6, .inl (k6, 18, .inl (fun _ => 0))), (q3, .inl (k3, 41, .inl (fun _ => 0))), (q4, .inl (k4, 18, .inl (fun _ => 0)))] := hD
  have hP := hP.sub (ws' := [yO h hs q3 q4 0 0 0 0 0 0 (-1), sO hs q1 q2 q7 q5 q6 0 0 0, (q1, .inl (k1, 420, .inl (fun _ => 0))), (q2, .inl (k2, 420, .inl (fun _ => 0))), (q7, .inl (k7, 420, .inr (.inl (fun _ => 0)))), (q3, .inl (k3, 41, .inl (fun _ => 0))), (q4, .inl (k4, 18, .inl (fun _ => 0))), (q5, .inl (k5, 18, .inl (fun _ => 0))), (q6, .inl (k6, 18, .inl (fun _ => 0)))]) [0, 1, 2, 3, 4, 7, 8, 5, 6] rfl
  have hD := hD.sub (ws' := [yO h hs q3 q4 0 0 0 0 0 0 (-1), sO hs q1 q2 q7 q5 q6 0 0 0, (q1, .inl (k1, 420, .inl (fun _ => 0))), (q2, .inl (k2, 420, .inl (fun _ => 0))), (q7, .inl (k7, 420, .inr (.inl (fun _ => 0)))), (q3, .inl (k3, 41, .inl (fun _ => 0))), (q4, .inl (k4, 18, .inl (fun _ => 0))), (q5, .inl (k5, 18, .inl (fun _ => 0))), (q6, .inl (k6, 18, .inl (fun _ => 0)))]) [0, 1, 2, 3, 4, 7, 8, 5, 6] (by decide) rfl
  have hK := hK.sub (tys' := [(k1, .int), (k2, .int), (k7, .long), (k3, .int), (k4, .int), (k5, .int), (k6, .int)]) [0, 1, 2, 5, 6, 3, 4] rfl
  refine W.widen (k := 8) (n := 1363) (by decide) (by decide) ?_
  exact W.vret hx hb hr (fun t ht hW => ⟨⟨(), rfl, trivial, hs, q1, q2, q7, q3, q4, q5, q6, k1, k2, k7, k3, k4, k5, k6, by rw [ht]; exact hP, va_K.moved hW.alike hK, hD⟩, hS.F ht⟩) hS.2.2 dX0_init_36
