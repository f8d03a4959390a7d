/-- the reference's own cell: seven rows, six numbers -/
abbrev zO (h : Nat) (th : Int32) (q1 : Nat) (ts cn : Int32) (q2 q3 q4 : Nat) (lv : Int32) (q5 : Nat) (an md : Int32) (q6 q7 : Nat) : Nat × va_E := (h, .inr (1, [.int th, .ref q1, .int ts, .int cn, .ref q2, .ref q3, .ref q4, .int lv, .ref q5, .int an, .int md, .ref q6, .ref q7]))

set_option maxHeartbeats 4000000 in
set_option maxRecDepth 100000 in
theorem r_isLiteral (l : Launch) (dC : Nat → ClassId) (dI : Nat → Nat → Nat) (p0 : Int32) (sz : Nat)  : Met l yX1_isLiteral wsX1_isLiteral ({ frames := 0, cells := 0, slots := 0, locals := 0 }) (va_Pc [.int p0] (fun U => U.heap.size = sz ∧ va_P (dC, dI) vwCl [] U.heap ∧ va_K (dC, dI) vwCl [] U ∧ va_D (fun _ => True) [])) (va_Qi (fun (r : Int32) (u : Unit) => (r = 1 ∧ yLit p0) ∨ (r = 0 ∧ ¬ yLit p0)) (fun (u : Unit) (t : State) => va_P (dC, dI) vwCl [] t.heap ∧ va_K (dC, dI) vwCl [] t ∧ va_D (va_A [] sz) []) (va_A [] sz)) 0 0 (va_A [] sz) := by
  refine Met.ofW (cc := cX1_isLiteral) (maxL := 1) (ret := (some .boolean)) (by decide) rfl ?_
  intro p e s m args below meth c s₁ B hml hv
  obtain ⟨rfl, hsz, hP, hK, hD0⟩ := hv
  have hx := B.exec
  have hb := B.bytes
  have hr := B.returns
  have hts := atoms_spec (ws := wsX1_isLiteral) B.pre
  have htA : ∀ w ∈ wsA, w.before _ s = true := fun w h => hts w (List.mem_cons_of_mem _ h)
  have hown : s.vm.findClass RX1 = some m.cls := findClass_of_methodNamed B.named
  have hlocks := B.notSynchronized
  subst hsz
  have hD := hD0.self (sz := s.heap.size)
  generalize hAe : va_A [] s.heap.size = A at hD ⊢
  have hA : ∀ q : Nat, s.heap.size ≤ q → A q := fun q h => by rw [← hAe]; exact Or.inr h
  have hS : va_S A s.heap s.heap [] := va_S.rf
  have hP : va_P (dC, dI) vwCl [] s.heap := hP
  have hl := lv_entry ([.int p0]) (n := 1) (Nat.le_of_ble_eq_true rfl)
  rw [lg_entry_eq]
  generalize (lg_sl ([.int p0]) ++ List.replicate (1 - (lg_sl ([.int p0])).length) Slot.unset).toArray = ls at hl ⊢
  have hl : lv_has ls 1 [(0, .int p0)] := hl
  refine lv_iload_n hx hb dX1_isLiteral_0 rfl (lv_at hl 0 rfl) ?_
  refine lv_if_eq (tgt := 20) hx hb dX1_isLiteral_1 (by decide) (fun cb_1 => ?_) (fun cb_1 => ?_)
  · refine lv_iconst (v := 0) hx hb dX1_isLiteral_20 (by decide) ?_
    exact W.zret (v := 0) (ty := .boolean) hx hb hr (by decide) (fun t ht hW => ⟨⟨0, (), rfl, Or.inr ⟨rfl, fun h => (yLit_not h).1 cb_1⟩, by rw [ht]; exact hP, va_K.moved hW.alike hK, hD⟩, hS.F ht⟩) hS.2.2 dX1_isLiteral_21
  · refine lv_iload_n hx hb dX1_isLiteral_4 rfl (lv_at hl 0 rfl) ?_
    refine lv_bipush (v := (-18)) hx hb dX1_isLiteral_5 (by decide) ?_
    refine lv_icmp_lt (tgt := 20) hx hb dX1_isLiteral_7 (by decide) (fun cb_2 => ?_) (fun cb_2 => ?_)
    · refine lv_iconst (v := 0) hx hb dX1_isLiteral_20 (by decide) ?_
      exact W.zret (v := 0) (ty := .boolean) hx hb hr (by decide) (fun t ht hW => ⟨⟨0, (), rfl, Or.inr ⟨rfl, fun h => (yLit_not h).2.1 cb_2⟩, by rw [ht]; exact hP, va_K.moved hW.alike hK, hD⟩, hS.F ht⟩) hS.2.2 dX1_isLiteral_21
    · refine lv_iload_n hx hb dX1_isLiteral_10 rfl (lv_at hl 0 rfl) ?_
      refine lv_bipush (v := 18) hx hb dX1_isLiteral_11 (by decide) ?_
      refine lv_icmp_gt (tgt := 20) hx hb dX1_isLiteral_13 (by decide) (fun cb_3 => ?_) (fun cb_3 => ?_)
      · refine lv_iconst (v := 0) hx hb dX1_isLiteral_20 (by decide) ?_
        exact W.zret (v := 0) (ty := .boolean) hx hb hr (by decide) (fun t ht hW => ⟨⟨0, (), rfl, Or.inr ⟨rfl, fun h => (yLit_not h).2.2 cb_3⟩, by rw [ht]; exact hP, va_K.moved hW.alike hK, hD⟩, hS.F ht⟩) hS.2.2 dX1_isLiteral_21
      · refine lv_iconst (v := 1) hx hb dX1_isLiteral_16 (by decide) ?_
        refine lv_goto (tgt := 21) hx hb dX1_isLiteral_17 (by decide) ?_
        exact W.zret (v := 1) (ty := .boolean) hx hb hr (by decide) (fun t ht hW => ⟨⟨1, (), rfl, Or.inl ⟨rfl, yLit_of cb_1 cb_2 cb_3⟩, by rw [ht]; exact hP, va_K.moved hW.alike hK, hD⟩, hS.F ht⟩) hS.2.2 dX1_isLiteral_21
set_option maxHeartbeats 4000000 in
set_option maxRecDepth 100000 in
theorem r_thrown (l : Launch) (dC : Nat → ClassId) (dI : Nat → Nat → Nat) (h : Nat) (q1 : Nat) (q2 : Nat) (q3 : Nat) (q4 : Nat) (q5 : Nat) (q6 : Nat) (q7 : Nat) (th : Int32) (ts : Int32) (cn : Int32) (lv : Int32) (an : Int32) (md : Int32) (sz : Nat)  : Met l yX1_thrown wsX1_thrown ({ frames := 0, cells := 0, slots := 0, locals := 0 }) (va_Pc [.ref h] (fun U => U.heap.size = sz ∧ va_P (dC, dI) vwCl [zO h th q1 ts cn q2 q3 q4 lv q5 an md q6 q7] U.heap ∧ va_K (dC, dI) vwCl [] U ∧ va_D (fun _ => True) [zO h th q1 ts cn q2 q3 q4 lv q5 an md q6 q7])) (va_Qi (fun (r : Int32) (u : Unit) => r = th) (fun (u : Unit) (t : State) => va_P (dC, dI) vwCl [zO h th q1 ts cn q2 q3 q4 lv q5 an md q6 q7] t.heap ∧ va_K (dC, dI) vwCl [] t ∧ va_D (va_A [zO h th q1 ts cn q2 q3 q4 lv q5 an md q6 q7] sz) [zO h th q1 ts cn q2 q3 q4 lv q5 an md q6 q7]) (va_A [zO h th q1 ts cn q2 q3 q4 lv q5 an md q6 q7] sz)) 0 0 (va_A [zO h th q1 ts cn q2 q3 q4 lv q5 an md q6 q7] sz) := by
  refine Met.ofW (cc := cX1_thrown) (maxL := 1) (ret := (some .int)) (by decide) rfl ?_
  intro p e s m args below meth c s₁ B hml hv
  obtain ⟨rfl, hsz, hP, hK, hD0⟩ := hv
  have hx := B.exec
  have hb := B.bytes
  have hr := B.returns
  have hts := atoms_spec (ws := wsX1_thrown) B.pre
  have htA : ∀ w ∈ wsA, w.before _ s = true := fun w h => hts w (List.mem_cons_of_mem _ h)
  have hown : s.vm.findClass RX1 = some m.cls := findClass_of_methodNamed B.named
  have hlocks := B.notSynchronized
  subst hsz
  have hD := hD0.self (sz := s.heap.size)
  generalize hAe : va_A [zO h th q1 ts cn q2 q3 q4 lv q5 an md q6 q7] s.heap.size = A at hD ⊢
  have hA : ∀ q : Nat, s.heap.size ≤ q → A q := fun q h => by rw [← hAe]; exact Or.inr h
  have hS : va_S A s.heap s.heap [] := va_S.rf
  have hP : va_P (dC, dI) vwCl [zO h th q1 ts cn q2 q3 q4 lv q5 an md q6 q7] s.heap := hP
  have hl := lv_entry ([.ref h]) (n := 1) (Nat.le_of_ble_eq_true rfl)
  rw [lg_entry_eq]
  generalize (lg_sl ([.ref h]) ++ List.replicate (1 - (lg_sl ([.ref h])).length) Slot.unset).toArray = ls at hl ⊢
  have hl : lv_has ls 1 [(0, .ref h)] := hl
  refine lv_aload_n hx hb dX1_thrown_0 rfl (lv_at hl 0 rfl) ?_
  refine va_get (D := (dC, dI)) (ci := 1) (v := .int th) (C := RX1) (T := TX1) (N := 13) hx hb htA inX1 hown hK hP 0 rfl rfl 0 (by decide) (htA _ lkX1_51) (fun _ h9 => h9) rfl dX1_thrown_1 ?_
  exact W.iret (v := th) hx hb hr (fun t ht hW => ⟨⟨th, (), rfl, rfl, by rw [ht]; exact hP, va_K.moved hW.alike hK, hD⟩, hS.F ht⟩) hS.2.2 dX1_thrown_4
set_option maxHeartbeats 4000000 in
set_option maxRecDepth 100000 in
theorem r_throwing (l : Launch) (dC : Nat → ClassId) (dI : Nat → Nat → Nat) (h : Nat) (q1 : Nat) (q2 : Nat) (q3 : Nat) (q4 : Nat) (q5 : Nat) (q6 : Nat) (q7 : Nat) (th : Int32) (ts : Int32) (cn : Int32) (lv : Int32) (an : Int32) (md : Int32) (p0 : Int32) (p1 : Int32) (sz : Nat)  : Met l yX1_throwing wsX1_throwing ({ frames := 0, cells := 0, slots := 0, locals := 0 }) (va_Pc [.ref h, .int p0, .int p1] (fun U => U.heap.size = sz ∧ va_P (dC, dI) vwCl [zO h th q1 ts cn q2 q3 q4 lv q5 an md q6 q7] U.heap ∧ va_K (dC, dI) vwCl [] U ∧ va_D (fun _ => True) [zO h th q1 ts cn q2 q3 q4 lv q5 an md q6 q7])) (va_Qi (fun (r : Int32) (u : Int32) => (¬ p0 = 0 ∧ u = 1 ∧ r = 1) ∨ (p0 = 0 ∧ ¬ p1 = 0 ∧ u = 2 ∧ r = 1) ∨ (p0 = 0 ∧ p1 = 0 ∧ u = 0 ∧ r = 0)) (fun (u : Int32) (t : State) => va_P (dC, dI) vwCl [zO h u q1 ts cn q2 q3 q4 lv q5 an md q6 q7] t.heap ∧ va_K (dC, dI) vwCl [] t ∧ va_D (va_A [zO h th q1 ts cn q2 q3 q4 lv q5 an md q6 q7] sz) [zO h u q1 ts cn q2 q3 q4 lv q5 an md q6 q7]) (va_A [zO h th q1 ts cn q2 q3 q4 lv q5 an md q6 q7] sz)) 0 0 (va_A [zO h th q1 ts cn q2 q3 q4 lv q5 an md q6 q7] sz) := by
  refine Met.ofW (cc := cX1_throwing) (maxL := 3) (ret := (some .boolean)) (by decide) rfl ?_
  intro p e s m args below meth c s₁ B hml hv
  obtain ⟨rfl, hsz, hP, hK, hD0⟩ := hv
  have hx := B.exec
  have hb := B.bytes
  have hr := B.returns
  have hts := atoms_spec (ws := wsX1_throwing) B.pre
  have htA : ∀ w ∈ wsA, w.before _ s = true := fun w h => hts w (List.mem_cons_of_mem _ h)
  have hown : s.vm.findClass RX1 = some m.cls := findClass_of_methodNamed B.named
  have hlocks := B.notSynchronized
  subst hsz
  have hD := hD0.self (sz := s.heap.size)
  generalize hAe : va_A [zO h th q1 ts cn q2 q3 q4 lv q5 an md q6 q7] s.heap.size = A at hD ⊢
  have hA : ∀ q : Nat, s.heap.size ≤ q → A q := fun q h => by rw [← hAe]; exact Or.inr h
  have hS : va_S A s.heap s.heap [] := va_S.rf
  have hP : va_P (dC, dI) vwCl [zO h th q1 ts cn q2 q3 q4 lv q5 an md q6 q7] s.heap := hP
  have hl := lv_entry ([.ref h, .int p0, .int p1]) (n := 3) (Nat.le_of_ble_eq_true rfl)
  rw [lg_entry_eq]
  generalize (lg_sl ([.ref h, .int p0, .int p1]) ++ List.replicate (3 - (lg_sl ([.ref h, .int p0, .int p1])).length) Slot.unset).toArray = ls at hl ⊢
  have hl : lv_has ls 3 [(0, .ref h), (1, .int p0), (2, .int p1)] := hl
  refine lv_aload_n hx hb dX1_throwing_0 rfl (lv_at hl 0 rfl) ?_
  refine lv_iload_n hx hb dX1_throwing_1 rfl (lv_at hl 1 rfl) ?_
  refine lv_if_eq (tgt := 9) hx hb dX1_throwing_2 (by decide) (fun cb_4 => ?_) (fun cb_4 => ?_)
  · refine lv_iload_n hx hb dX1_throwing_9 rfl (lv_at hl 2 rfl) ?_
    refine lv_if_eq (tgt := 17) hx hb dX1_throwing_10 (by decide) (fun cb_6 => ?_) (fun cb_6 => ?_)
    · refine lv_iconst (v := 0) hx hb dX1_throwing_17 (by decide) ?_
      refine va_put (D := (dC, dI)) (ci := 1) (v := .int 0) (ty := .int) (C := RX1) (T := TX1) (N := 13) hx hb htA inX1 tyX1 tyX1_ok nX1 hown hK hP hD hS 0 rfl rfl 0 (by decide) (htA _ lkX1_51) (fun _ h9 => h9) rfl (by decide +kernel) rfl rfl (Nat.le_of_ble_eq_true rfl) dX1_throwing_18 (fun H locs hP hD hS => ?_)
      have hP : va_P (dC, dI) vwCl [zO h 0 q1 ts cn q2 q3 q4 lv q5 an md q6 q7] H := hP
      have hD : va_D A [zO h 0 q1 ts cn q2 q3 q4 lv q5 an md q6 q7] := hD
      refine lv_aload_n hx hb dX1_throwing_21 rfl (lv_at hl 0 rfl) ?_
      refine va_get (D := (dC, dI)) (ci := 1) (v := .int 0) (C := RX1) (T := TX1) (N := 13) hx hb htA inX1 hown hK hP 0 rfl rfl 0 (by decide) (htA _ lkX1_51) (fun _ h9 => h9) rfl dX1_throwing_22 ?_
      refine lv_if_le (tgt := 32) hx hb dX1_throwing_25 (by decide) (fun cb_8 => ?_) (fun cb_8 => ?_)
      · refine lv_iconst (v := 0) hx hb dX1_throwing_32 (by decide) ?_
        exact W.zret (v := 0) (ty := .boolean) hx hb hr (by decide) (fun t ht hW => ⟨⟨0, 0, rfl, Or.inr (Or.inr ⟨cb_4, cb_6, rfl, rfl⟩), by rw [ht]; exact hP, va_K.moved hW.alike hK, hD⟩, hS.F ht⟩) hS.2.2 dX1_throwing_33
      · exact absurd (by decide) cb_8
    · refine lv_iconst (v := 2) hx hb dX1_throwing_13 (by decide) ?_
      refine lv_goto (tgt := 18) hx hb dX1_throwing_14 (by decide) ?_
      refine va_put (D := (dC, dI)) (ci := 1) (v := .int 2) (ty := .int) (C := RX1) (T := TX1) (N := 13) hx hb htA inX1 tyX1 tyX1_ok nX1 hown hK hP hD hS 0 rfl rfl 0 (by decide) (htA _ lkX1_51) (fun _ h9 => h9) rfl (by decide +kernel) rfl rfl (Nat.le_of_ble_eq_true rfl) dX1_throwing_18 (fun H locs hP hD hS => ?_)
      have hP : va_P (dC, dI) vwCl [zO h 2 q1 ts cn q2 q3 q4 lv q5 an md q6 q7] H := hP
      have hD : va_D A [zO h 2 q1 ts cn q2 q3 q4 lv q5 an md q6 q7] := hD
      refine lv_aload_n hx hb dX1_throwing_21 rfl (lv_at hl 0 rfl) ?_
      refine va_get (D := (dC, dI)) (ci := 1) (v := .int 2) (C := RX1) (T := TX1) (N := 13) hx hb htA inX1 hown hK hP 0 rfl rfl 0 (by decide) (htA _ lkX1_51) (fun _ h9 => h9) rfl dX1_throwing_22 ?_
      refine lv_if_le (tgt := 32) hx hb dX1_throwing_25 (by decide) (fun cb_7 => ?_) (fun cb_7 => ?_)
      · exact absurd cb_7 (by decide)
      · refine lv_iconst (v := 1) hx hb dX1_throwing_28 (by decide) ?_
        refine lv_goto (tgt := 33) hx hb dX1_throwing_29 (by decide) ?_
        exact W.zret (v := 1) (ty := .boolean) hx hb hr (by decide) (fun t ht hW => ⟨⟨1, 2, rfl, Or.inr (Or.inl ⟨cb_4, cb_6, rfl, rfl⟩), by rw [ht]; exact hP, va_K.moved hW.alike hK, hD⟩, hS.F ht⟩) hS.2.2 dX1_throwing_33
  · refine lv_iconst (v := 1) hx hb dX1_throwing_5 (by decide) ?_
    refine lv_goto (tgt := 18) hx hb dX1_throwing_6 (by decide) ?_
    refine va_put (D := (dC, dI)) (ci := 1) (v := .int 1) (ty := .int) (C := RX1) (T := TX1) (N := 13) hx hb htA inX1 tyX1 tyX1_ok nX1 hown hK hP hD hS 0 rfl rfl 0 (by decide) (htA _ lkX1_51) (fun _ h9 => h9) rfl (by decide +kernel) rfl rfl (Nat.le_of_ble_eq_true rfl) dX1_throwing_18 (fun H locs hP hD hS => ?_)
    have hP : va_P (dC, dI) vwCl [zO h 1 q1 ts cn q2 q3 q4 lv q5 an md q6 q7] H := hP
    have hD : va_D A [zO h 1 q1 ts cn q2 q3 q4 lv q5 an md q6 q7] := hD
    refine lv_aload_n hx hb dX1_throwing_21 rfl (lv_at hl 0 rfl) ?_
    refine va_get (D := (dC, dI)) (ci := 1) (v := .int 1) (C := RX1) (T := TX1) (N := 13) hx hb htA inX1 hown hK hP 0 rfl rfl 0 (by decide) (htA _ lkX1_51) (fun _ h9 => h9) rfl dX1_throwing_22 ?_
    refine lv_if_le (tgt := 32) hx hb dX1_throwing_25 (by decide) (fun cb_5 => ?_) (fun cb_5 => ?_)
    · exact absurd cb_5 (by decide)
    · refine lv_iconst (v := 1) hx hb dX1_throwing_28 (by decide) ?_
      refine lv_goto (tgt := 33) hx hb dX1_throwing_29 (by decide) ?_
      exact W.zret (v := 1) (ty := .boolean) hx hb hr (by decide) (fun t ht hW => ⟨⟨1, 1, rfl, Or.inl ⟨cb_4, rfl, rfl⟩, by rw [ht]; exact hP, va_K.moved hW.alike hK, hD⟩, hS.F ht⟩) hS.2.2 dX1_throwing_33
set_option maxHeartbeats 4000000 in
set_option maxRecDepth 100000 in
theorem r_truth (l : Launch) (dC : Nat → ClassId) (dI : Nat → Nat → Nat) (h : Nat) (q1 : Nat) (q2 : Nat) (q3 : Nat) (q4 : Nat) (q5 : Nat) (q6 : Nat) (q7 : Nat) (k7 : ClassId) (f7 : Nat → Int64) (th : Int32) (ts : Int32) (cn : Int32) (lv : Int32) (an : Int32) (md : Int32) (l0 : Int32) (w : Nat) (sz : Nat) (hw4 : w < 4096) (hl0 : yLit l0) (h7 : zIn f7) : Met l yX1_truth wsX1_truth ({ frames := 0, cells := 0, slots := 0, locals := 0 }) (va_Pc [.ref h, .int l0, .int (nI w)] (fun U => U.heap.size = sz ∧ va_P (dC, dI) vwCl [zO h th q1 ts cn q2 q3 q4 lv q5 an md q6 q7, (q7, .inl (k7, 6, .inr (.inl f7)))] U.heap ∧ va_K (dC, dI) vwCl [(k7, .long)] U ∧ va_D (fun _ => True) [zO h th q1 ts cn q2 q3 q4 lv q5 an md q6 q7, (q7, .inl (k7, 6, .inr (.inl f7)))])) (va_Ql (fun (r : Int64) (u : Unit) => zW (yT l0) w r) (fun (u : Unit) (t : State) => va_P (dC, dI) vwCl [zO h th q1 ts cn q2 q3 q4 lv q5 an md q6 q7, (q7, .inl (k7, 6, .inr (.inl f7)))] t.heap ∧ va_K (dC, dI) vwCl [(k7, .long)] t ∧ va_D (va_A [zO h th q1 ts cn q2 q3 q4 lv q5 an md q6 q7, (q7, .inl (k7, 6, .inr (.inl f7)))] sz) [zO h th q1 ts cn q2 q3 q4 lv q5 an md q6 q7, (q7, .inl (k7, 6, .inr (.inl f7)))]) (va_A [zO h th q1 ts cn q2 q3 q4 lv q5 an md q6 q7, (q7, .inl (k7, 6, .inr (.inl f7)))] sz)) 0 0 (va_A [zO h th q1 ts cn q2 q3 q4 lv q5 an md q6 q7, (q7, .inl (k7, 6, .inr (.inl f7)))] sz) := by
  refine Met.ofW (cc := cX1_truth) (maxL := 6) (ret := (some .long)) (by decide) rfl ?_
  intro p e s m args below meth c s₁ B hml hv
  obtain ⟨rfl, hsz, hP, hK, hD0⟩ := hv
  have hx := B.exec
  have hb := B.bytes
  have hr := B.returns
  have hts := atoms_spec (ws := wsX1_truth) B.pre
  have htA : ∀ w ∈ wsA, w.before _ s = true := fun w h => hts w (List.mem_cons_of_mem _ h)
  have hown : s.vm.findClass RX1 = some m.cls := findClass_of_methodNamed B.named
  have hlocks := B.notSynchronized
  subst hsz
  have hD := hD0.self (sz := s.heap.size)
  generalize hAe : va_A [zO h th q1 ts cn q2 q3 q4 lv q5 an md q6 q7, (q7, .inl (k7, 6, .inr (.inl f7)))] s.heap.size = A at hD ⊢
  have hA : ∀ q : Nat, s.heap.size ≤ q → A q := fun q h => by rw [← hAe]; exact Or.inr h
  have hS : va_S A s.heap s.heap [] := va_S.rf
  have hP : va_P (dC, dI) vwCl [zO h th q1 ts cn q2 q3 q4 lv q5 an md q6 q7, (q7, .inl (k7, 6, .inr (.inl f7)))] s.heap := hP
  have hl := lv_entry ([.ref h, .int l0, .int (nI w)]) (n := 6) (Nat.le_of_ble_eq_true rfl)
  rw [lg_entry_eq]
  generalize (lg_sl ([.ref h, .int l0, .int (nI w)]) ++ List.replicate (6 - (lg_sl ([.ref h, .int l0, .int (nI w)])).length) Slot.unset).toArray = ls at hl ⊢
  have hl : lv_has ls 6 [(0, .ref h), (1, .int l0), (2, .int (nI w))] := hl
  obtain ⟨v, hv, rfl | rfl⟩ := hl0
  · refine lv_iload_n hx hb dX1_truth_0 rfl (lv_at hl 1 rfl) ?_
    refine lv_if_ge (tgt := 9) hx hb dX1_truth_1 (by decide) (fun cb_9 => ?_) (fun cb_9 => ?_)
    · refine lv_iload_n hx hb dX1_truth_9 rfl (lv_at hl 1 rfl) ?_
      refine lv_istore_n (lv' := [(3, .int (nI (v + 1))), (0, .ref h), (1, .int (nI (v + 1))), (2, .int (nI w))]) hx hb dX1_truth_10 rfl hl (by decide) rfl (fun ls hl => ?_)
      refine lv_iload_n hx hb dX1_truth_11 rfl (lv_at hl 0 rfl) ?_
      refine lv_bipush (v := 7) hx hb dX1_truth_12 (by decide) ?_
      refine lv_icmp_ge (tgt := 28) hx hb dX1_truth_14 (by decide) (fun cb_10 => ?_) (fun cb_10 => ?_)
      · have hv6 : 6 ≤ v := by
          rcases Nat.lt_or_ge v 6 with q | q
          · exact absurd cb_10 (nI_ge (b := 7) (show v + 1 < 7 by omega) (by omega))
          · exact q
        refine lv_iload_n hx hb dX1_truth_28 rfl (lv_at hl 3 rfl) ?_
        refine lv_iload_n hx hb dX1_truth_29 rfl (lv_at hl 0 rfl) ?_
        refine lv_bipush (v := 7) hx hb dX1_truth_30 (by decide) ?_
        refine lv_isub hx hb dX1_truth_32 ?_
        refine W.eq (g2 := F0 m 33 ls [.int (nI (v - 6)), .int (nI w)]) (by rw [show nI (v + 1) - 7 = nI (v + 1 - 7) from pk_sub (a := v + 1) (b := 7) (by omega), show v + 1 - 7 = v - 6 by omega]) ?_
        refine lv_ishr hx hb dX1_truth_33 ?_
        refine lv_iconst (v := 1) hx hb dX1_truth_34 (by decide) ?_
        refine lv_iand hx hb dX1_truth_35 ?_
        refine lv_iconst (v := 1) hx hb dX1_truth_36 (by decide) ?_
        refine lv_icmp_ne (tgt := 46) hx hb dX1_truth_37 (by decide) (fun cb_12 => ?_) (fun cb_12 => ?_)
        · refine lv_lconst (v := 0) hx hb dX1_truth_46 (by decide) ?_
          refine lv_lstore (lv' := [(4, .long 0), (3, .int (nI (v + 1))), (0, .ref h), (1, .int (nI (v + 1))), (2, .int (nI w))]) hx hb dX1_truth_47 hl (by decide) rfl (fun ls hl => ?_)
          refine lv_iload_n hx hb dX1_truth_49 rfl (lv_at hl 3 rfl) ?_
          refine lv_if_ge (tgt := 62) hx hb dX1_truth_50 (by decide) (fun cb_13 => ?_) (fun cb_13 => ?_)
          · refine lv_lload hx hb dX1_truth_62 (lv_at hl 0 rfl) ?_
            exact W.lret (v := 0) hx hb hr (fun t ht hW => ⟨⟨0, (), rfl, zW_p hv (zW_hi0 hv6 (fun q => cb_12 ((z_bit1 (by omega) (by omega)).mpr q))), by rw [ht]; exact hP, va_K.moved hW.alike hK, hD⟩, hS.F ht⟩) hS.2.2 dX1_truth_64
          · exact absurd (nI_pos' (by omega)) cb_13
        · refine lv_ldc2 (own := RX1) (v := (-1)) hx hb hown (htA _ lkX1_54) dX1_truth_40 ?_
          refine lv_goto (tgt := 47) hx hb dX1_truth_43 (by decide) ?_
          refine lv_lstore (lv' := [(4, .long (-1)), (3, .int (nI (v + 1))), (0, .ref h), (1, .int (nI (v + 1))), (2, .int (nI w))]) hx hb dX1_truth_47 hl (by decide) rfl (fun ls hl => ?_)
          refine lv_iload_n hx hb dX1_truth_49 rfl (lv_at hl 3 rfl) ?_
          refine lv_if_ge (tgt := 62) hx hb dX1_truth_50 (by decide) (fun cb_14 => ?_) (fun cb_14 => ?_)
          · refine lv_lload hx hb dX1_truth_62 (lv_at hl 0 rfl) ?_
            exact W.lret (v := (-1)) hx hb hr (fun t ht hW => ⟨⟨(-1), (), rfl, zW_p hv (zW_hi1 hv6 ((z_bit1 (by omega) (by omega)).mp cb_12)), by rw [ht]; exact hP, va_K.moved hW.alike hK, hD⟩, hS.F ht⟩) hS.2.2 dX1_truth_64
          · exact absurd (nI_pos' (by omega)) cb_14
      · have hv6 : v < 6 := by
          rcases Nat.lt_or_ge v 6 with q | q
          · exact q
          · exact absurd (nI_le (a := 7) (show 7 ≤ v + 1 by omega) (by omega)) cb_10
        refine lv_aload_n hx hb dX1_truth_17 rfl (lv_at hl 1 rfl) ?_
        refine va_get (D := (dC, dI)) (ci := 1) (v := .ref q7) (C := RX1) (T := TX1) (N := 13) hx hb htA inX1 hown hK hP 0 rfl rfl 12 (by decide) (htA _ lkX1_45) (fun _ h9 => h9) rfl dX1_truth_18 ?_
        refine lv_iload_n hx hb dX1_truth_21 rfl (lv_at hl 0 rfl) ?_
        refine lv_iconst (v := 1) hx hb dX1_truth_22 (by decide) ?_
        refine lv_isub hx hb dX1_truth_23 ?_
        refine W.eq (g2 := F0 m 24 ls [.int (nI v), .ref q7]) (by rw [nI_pred]) ?_
        refine yv_lald hx hb hK hP 1 0 rfl rfl (k := v) hv6 (by decide) dX1_truth_24 ?_
        refine lv_goto (tgt := 47) hx hb dX1_truth_25 (by decide) ?_
        refine lv_lstore (lv' := [(4, .long (f7 v)), (3, .int (nI (v + 1))), (0, .ref h), (1, .int (nI (v + 1))), (2, .int (nI w))]) hx hb dX1_truth_47 hl (by decide) rfl (fun ls hl => ?_)
        refine lv_iload_n hx hb dX1_truth_49 rfl (lv_at hl 3 rfl) ?_
        refine lv_if_ge (tgt := 62) hx hb dX1_truth_50 (by decide) (fun cb_11 => ?_) (fun cb_11 => ?_)
        · refine lv_lload hx hb dX1_truth_62 (lv_at hl 0 rfl) ?_
          exact W.lret (v := f7 v) hx hb hr (fun t ht hW => ⟨⟨f7 v, (), rfl, zW_p hv (zW_low h7 hv6), by rw [ht]; exact hP, va_K.moved hW.alike hK, hD⟩, hS.F ht⟩) hS.2.2 dX1_truth_64
        · exact absurd (nI_pos' (by omega)) cb_11
    · exact absurd (nI_pos' (by omega)) cb_9
  · refine lv_iload_n hx hb dX1_truth_0 rfl (lv_at hl 1 rfl) ?_
    refine lv_if_ge (tgt := 9) hx hb dX1_truth_1 (by decide) (fun cb_15 => ?_) (fun cb_15 => ?_)
    · exact absurd cb_15 ((by decide +kernel : ∀ v, v < 18 → ¬ 0 ≤ -nI (v + 1)) v hv)
    · refine lv_iload_n hx hb dX1_truth_4 rfl (lv_at hl 1 rfl) ?_
      refine lv_ineg hx hb dX1_truth_5 ?_
      refine W.eq (g2 := F0 m 6 ls [.int (nI (v + 1))]) (by rw [Int32.neg_neg]) ?_
      refine lv_goto (tgt := 10) hx hb dX1_truth_6 (by decide) ?_
      refine lv_istore_n (lv' := [(3, .int (nI (v + 1))), (0, .ref h), (1, .int (-nI (v + 1))), (2, .int (nI w))]) hx hb dX1_truth_10 rfl hl (by decide) rfl (fun ls hl => ?_)
      refine lv_iload_n hx hb dX1_truth_11 rfl (lv_at hl 0 rfl) ?_
      refine lv_bipush (v := 7) hx hb dX1_truth_12 (by decide) ?_
      refine lv_icmp_ge (tgt := 28) hx hb dX1_truth_14 (by decide) (fun cb_16 => ?_) (fun cb_16 => ?_)
      · have hv6 : 6 ≤ v := by
          rcases Nat.lt_or_ge v 6 with q | q
          · exact absurd cb_16 (nI_ge (b := 7) (show v + 1 < 7 by omega) (by omega))
          · exact q
        refine lv_iload_n hx hb dX1_truth_28 rfl (lv_at hl 3 rfl) ?_
        refine lv_iload_n hx hb dX1_truth_29 rfl (lv_at hl 0 rfl) ?_
        refine lv_bipush (v := 7) hx hb dX1_truth_30 (by decide) ?_
        refine lv_isub hx hb dX1_truth_32 ?_
        refine W.eq (g2 := F0 m 33 ls [.int (nI (v - 6)), .int (nI w)]) (by rw [show nI (v + 1) - 7 = nI (v + 1 - 7) from pk_sub (a := v + 1) (b := 7) (by omega), show v + 1 - 7 = v - 6 by omega]) ?_
        refine lv_ishr hx hb dX1_truth_33 ?_
        refine lv_iconst (v := 1) hx hb dX1_truth_34 (by decide) ?_
        refine lv_iand hx hb dX1_truth_35 ?_
        refine lv_iconst (v := 1) hx hb dX1_truth_36 (by decide) ?_
        refine lv_icmp_ne (tgt := 46) hx hb dX1_truth_37 (by decide) (fun cb_18 => ?_) (fun cb_18 => ?_)
        · refine lv_lconst (v := 0) hx hb dX1_truth_46 (by decide) ?_
          refine lv_lstore (lv' := [(4, .long 0), (3, .int (nI (v + 1))), (0, .ref h), (1, .int (-nI (v + 1))), (2, .int (nI w))]) hx hb dX1_truth_47 hl (by decide) rfl (fun ls hl => ?_)
          refine lv_iload_n hx hb dX1_truth_49 rfl (lv_at hl 3 rfl) ?_
          refine lv_if_ge (tgt := 62) hx hb dX1_truth_50 (by decide) (fun cb_19 => ?_) (fun cb_19 => ?_)
          · exact absurd cb_19 ((by decide +kernel : ∀ v, v < 18 → ¬ 0 ≤ -nI (v + 1)) v hv)
          · refine lv_lload hx hb dX1_truth_53 (lv_at hl 0 rfl) ?_
            refine lv_ldc2 (own := RX1) (v := (-1)) hx hb hown (htA _ lkX1_54) dX1_truth_55 ?_
            refine lv_lxor hx hb dX1_truth_58 ?_
            refine lv_goto (tgt := 64) hx hb dX1_truth_59 (by decide) ?_
            exact W.lret (v := 0 ^^^ (-1)) hx hb hr (fun t ht hW => ⟨⟨0 ^^^ (-1), (), rfl, zW_n hv (zW_hi0 hv6 (fun q => cb_18 ((z_bit1 (by omega) (by omega)).mpr q))), by rw [ht]; exact hP, va_K.moved hW.alike hK, hD⟩, hS.F ht⟩) hS.2.2 dX1_truth_64
        · refine lv_ldc2 (own := RX1) (v := (-1)) hx hb hown (htA _ lkX1_54) dX1_truth_40 ?_
          refine lv_goto (tgt := 47) hx hb dX1_truth_43 (by decide) ?_
          refine lv_lstore (lv' := [(4, .long (-1)), (3, .int (nI (v + 1))), (0, .ref h), (1, .int (-nI (v + 1))), (2, .int (nI w))]) hx hb dX1_truth_47 hl (by decide) rfl (fun ls hl => ?_)
          refine lv_iload_n hx hb dX1_truth_49 rfl (lv_at hl 3 rfl) ?_
          refine lv_if_ge (tgt := 62) hx hb dX1_truth_50 (by decide) (fun cb_20 => ?_) (fun cb_20 => ?_)
          · exact absurd cb_20 ((by decide +kernel : ∀ v, v < 18 → ¬ 0 ≤ -nI (v + 1)) v hv)
          · refine lv_lload hx hb dX1_truth_53 (lv_at hl 0 rfl) ?_
            refine lv_ldc2 (own := RX1) (v := (-1)) hx hb hown (htA _ lkX1_54) dX1_truth_55 ?_
            refine lv_lxor hx hb dX1_truth_58 ?_
            refine lv_goto (tgt := 64) hx hb dX1_truth_59 (by decide) ?_
            exact W.lret (v := (-1) ^^^ (-1)) hx hb hr (fun t ht hW => ⟨⟨(-1) ^^^ (-1), (), rfl, zW_n hv (zW_hi1 hv6 ((z_bit1 (by omega) (by omega)).mp cb_18)), by rw [ht]; exact hP, va_K.moved hW.alike hK, hD⟩, hS.F ht⟩) hS.2.2 dX1_truth_64
      · have hv6 : v < 6 := by
          rcases Nat.lt_or_ge v 6 with q | q
          · exact q
          · exact absurd (nI_le (a := 7) (show 7 ≤ v + 1 by omega) (by omega)) cb_16
        refine lv_aload_n hx hb dX1_truth_17 rfl (lv_at hl 1 rfl) ?_
        refine va_get (D := (dC, dI)) (ci := 1) (v := .ref q7) (C := RX1) (T := TX1) (N := 13) hx hb htA inX1 hown hK hP 0 rfl rfl 12 (by decide) (htA _ lkX1_45) (fun _ h9 => h9) rfl dX1_truth_18 ?_
        refine lv_iload_n hx hb dX1_truth_21 rfl (lv_at hl 0 rfl) ?_
        refine lv_iconst (v := 1) hx hb dX1_truth_22 (by decide) ?_
        refine lv_isub hx hb dX1_truth_23 ?_
        refine W.eq (g2 := F0 m 24 ls [.int (nI v), .ref q7]) (by rw [nI_pred]) ?_
        refine yv_lald hx hb hK hP 1 0 rfl rfl (k := v) hv6 (by decide) dX1_truth_24 ?_
        refine lv_goto (tgt := 47) hx hb dX1_truth_25 (by decide) ?_
        refine lv_lstore (lv' := [(4, .long (f7 v)), (3, .int (nI (v + 1))), (0, .ref h), (1, .int (-nI (v + 1))), (2, .int (nI w))]) hx hb dX1_truth_47 hl (by decide) rfl (fun ls hl => ?_)
        refine lv_iload_n hx hb dX1_truth_49 rfl (lv_at hl 3 rfl) ?_
        refine lv_if_ge (tgt := 62) hx hb dX1_truth_50 (by decide) (fun cb_17 => ?_) (fun cb_17 => ?_)
        · exact absurd cb_17 ((by decide +kernel : ∀ v, v < 18 → ¬ 0 ≤ -nI (v + 1)) v hv)
        · refine lv_lload hx hb dX1_truth_53 (lv_at hl 0 rfl) ?_
          refine lv_ldc2 (own := RX1) (v := (-1)) hx hb hown (htA _ lkX1_54) dX1_truth_55 ?_
          refine lv_lxor hx hb dX1_truth_58 ?_
          refine lv_goto (tgt := 64) hx hb dX1_truth_59 (by decide) ?_
          exact W.lret (v := (f7 v) ^^^ (-1)) hx hb hr (fun t ht hW => ⟨⟨(f7 v) ^^^ (-1), (), rfl, zW_n hv (zW_low h7 hv6), by rw [ht]; exact hP, va_K.moved hW.alike hK, hD⟩, hS.F ht⟩) hS.2.2 dX1_truth_64
