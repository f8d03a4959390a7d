/-- the yard's own cell: six rows of ints, seven numbers -/
abbrev yO (h q1 q2 q3 q4 q5 q6 : Nat) (cc lv ac tc ty tn md : Int32) : Nat × va_E := (h, .inr (0, [.ref q1, .ref q2, .ref q3, .ref q4, .ref q5, .ref q6, .int cc, .int lv, .int ac, .int tc, .int ty, .int tn, .int md]))
section YARR
variable {p : Program} {l : Launch} {e : Env} {R : Room} {s : State} {m : MethodId} {args : Array Value} {below : List Frame} {meth : Method} {c : Code} {H : Heap} {locs : List Loc} {cells slots : Nat} {Q : State → Prop}
variable {cc : ByteArray} {pc : Nat} {ls : Array Slot} {rest : List Value} {D : va_G} {cl : List vw_C} {A : Nat → Prop} {a : Nat} {tys : List (ClassId × FieldType)} {ws : va_W} {H0 : Heap}
/-- an int array read, and written, at a counted place -/
theorem yv_iald (hexec : p.tables.exec = Jvm.exec) (hb : c.code = cc) (hK : va_K D cl tys s) (hP : va_P D cl ws H) (q0 t0 : Nat) {cA : ClassId} {n : Nat} {f : Nat → Int32} (ha : ws[q0]? = some (a, .inl (cA, n, .inl f))) (ht : tys[t0]? = some (cA, .int)) {k : Nat} (hk : k < n) (hn : n < 2 ^ 31) (hdg : decode cc pc = .ok (.iaload, 1))
    (kk : W p l e R s m args below meth c H locs cells slots Q (F0 m (pc + 1) ls (.int (f k) :: rest))) : W p l e R s m args below meth c H locs cells slots Q (F0 m pc ls (.int (nI k) :: .ref a :: rest)) := by
  refine va_iald hexec hb hK hP q0 t0 ha ht (vp_in_nI hk hn) hdg ?_
  rw [nI_clamp (by omega)]
  exact kk
theorem yv_iast (hexec : p.tables.exec = Jvm.exec) (hb : c.code = cc) (hK : va_K D cl tys s) (hP : va_P D cl ws H) (hD : va_D A ws) (hS : va_S A H0 H locs) (q0 t0 : Nat) {cA : ClassId} {n : Nat} {f : Nat → Int32} (ha : ws[q0]? = some (a, .inl (cA, n, .inl f))) (ht : tys[t0]? = some (cA, .int)) {k : Nat} {x : Int32} (hk : k < n) (hn : n < 2 ^ 31) (hdg : decode cc pc = .ok (.iastore, 1))
    (kk : ∀ (H1 : Heap) (locs1 : List Loc), va_P D cl (ws.set q0 (a, .inl (cA, n, .inl (upd f k x)))) H1 → va_D A (ws.set q0 (a, .inl (cA, n, .inl (upd f k x)))) → va_S A H0 H1 locs1 → W p l e R s m args below meth c H1 locs1 cells slots Q (F0 m (pc + 1) ls rest)) : W p l e R s m args below meth c H locs cells slots Q (F0 m pc ls (.int x :: .int (nI k) :: .ref a :: rest)) := by
  refine va_iast hexec hb hK hP hD hS q0 t0 ha ht (vp_in_nI hk hn) hdg (fun H1 locs1 => ?_)
  rw [nI_clamp (by omega)]
  exact kk H1 locs1
end YARR
set_option maxHeartbeats 4000000 in
set_option maxRecDepth 100000 in
theorem c_isLiteral (l : Launch) (dC : Nat → ClassId) (dI : Nat → Nat → Nat) (p0 : Int32) (sz : Nat)  : Met l yX0_isLiteral wsX0_isLiteral ({ frames := 0, cells := 0, slots := 0, locals := 0 }) (va_Pc [.int p0] (fun U => U.heap.size = sz ∧ va_P (dC, dI) vwCl [] U.heap ∧ va_K (dC, dI) vwCl [] U ∧ va_D (fun _ => True) [])) (va_Qi (fun (r : Int32) (u : Unit) => (r = 1 ∧ yLit p0) ∨ (r = 0 ∧ ¬ yLit p0)) (fun (u : Unit) (t : State) => va_P (dC, dI) vwCl [] t.heap ∧ va_K (dC, dI) vwCl [] t ∧ va_D (va_A [] sz) []) (va_A [] sz)) 0 0 (va_A [] sz) := by
  refine Met.ofW (cc := cX0_isLiteral) (maxL := 1) (ret := (some .boolean)) (by decide) rfl ?_
  intro p e s m args below meth c s₁ B hml hv
  obtain ⟨rfl, hsz, hP, hK, hD0⟩ := hv
  have hx := B.exec
  have hb := B.bytes
  have hr := B.returns
  have hts := atoms_spec (ws := wsX0_isLiteral) B.pre
  have htA : ∀ w ∈ wsA, w.before _ s = true := fun w h => hts w (List.mem_cons_of_mem _ h)
  have hown : s.vm.findClass RX0 = some m.cls := findClass_of_methodNamed B.named
  have hlocks := B.notSynchronized
  subst hsz
  have hD := hD0.self (sz := s.heap.size)
  generalize hAe : va_A [] s.heap.size = A at hD ⊢
  have hA : ∀ q : Nat, s.heap.size ≤ q → A q := fun q h => by rw [← hAe]; exact Or.inr h
  have hS : va_S A s.heap s.heap [] := va_S.rf
  have hP : va_P (dC, dI) vwCl [] s.heap := hP
  have hl := lv_entry ([.int p0]) (n := 1) (Nat.le_of_ble_eq_true rfl)
  rw [lg_entry_eq]
  generalize (lg_sl ([.int p0]) ++ List.replicate (1 - (lg_sl ([.int p0])).length) Slot.unset).toArray = ls at hl ⊢
  have hl : lv_has ls 1 [(0, .int p0)] := hl
  refine lv_iload_n hx hb dX0_isLiteral_0 rfl (lv_at hl 0 rfl) ?_
  refine lv_if_eq (tgt := 20) hx hb dX0_isLiteral_1 (by decide) (fun cb_1 => ?_) (fun cb_1 => ?_)
  · refine lv_iconst (v := 0) hx hb dX0_isLiteral_20 (by decide) ?_
    exact W.zret (v := 0) (ty := .boolean) hx hb hr (by decide) (fun t ht hW => ⟨⟨0, (), rfl, Or.inr ⟨rfl, fun h => (yLit_not h).1 cb_1⟩, by rw [ht]; exact hP, va_K.moved hW.alike hK, hD⟩, hS.F ht⟩) hS.2.2 dX0_isLiteral_21
  · refine lv_iload_n hx hb dX0_isLiteral_4 rfl (lv_at hl 0 rfl) ?_
    refine lv_bipush (v := (-18)) hx hb dX0_isLiteral_5 (by decide) ?_
    refine lv_icmp_lt (tgt := 20) hx hb dX0_isLiteral_7 (by decide) (fun cb_2 => ?_) (fun cb_2 => ?_)
    · refine lv_iconst (v := 0) hx hb dX0_isLiteral_20 (by decide) ?_
      exact W.zret (v := 0) (ty := .boolean) hx hb hr (by decide) (fun t ht hW => ⟨⟨0, (), rfl, Or.inr ⟨rfl, fun h => (yLit_not h).2.1 cb_2⟩, by rw [ht]; exact hP, va_K.moved hW.alike hK, hD⟩, hS.F ht⟩) hS.2.2 dX0_isLiteral_21
    · refine lv_iload_n hx hb dX0_isLiteral_10 rfl (lv_at hl 0 rfl) ?_
      refine lv_bipush (v := 18) hx hb dX0_isLiteral_11 (by decide) ?_
      refine lv_icmp_gt (tgt := 20) hx hb dX0_isLiteral_13 (by decide) (fun cb_3 => ?_) (fun cb_3 => ?_)
      · refine lv_iconst (v := 0) hx hb dX0_isLiteral_20 (by decide) ?_
        exact W.zret (v := 0) (ty := .boolean) hx hb hr (by decide) (fun t ht hW => ⟨⟨0, (), rfl, Or.inr ⟨rfl, fun h => (yLit_not h).2.2 cb_3⟩, by rw [ht]; exact hP, va_K.moved hW.alike hK, hD⟩, hS.F ht⟩) hS.2.2 dX0_isLiteral_21
      · refine lv_iconst (v := 1) hx hb dX0_isLiteral_16 (by decide) ?_
        refine lv_goto (tgt := 21) hx hb dX0_isLiteral_17 (by decide) ?_
        exact W.zret (v := 1) (ty := .boolean) hx hb hr (by decide) (fun t ht hW => ⟨⟨1, (), rfl, Or.inl ⟨rfl, yLit_of cb_1 cb_2 cb_3⟩, by rw [ht]; exact hP, va_K.moved hW.alike hK, hD⟩, hS.F ht⟩) hS.2.2 dX0_isLiteral_21
set_option maxHeartbeats 4000000 in
set_option maxRecDepth 100000 in
theorem c_yesMask (l : Launch) (dC : Nat → ClassId) (dI : Nat → Nat → Nat) (p0 : Int32) (sz : Nat)  : Met l yX0_yesMask wsX0_yesMask ({ frames := 0, cells := 0, slots := 0, locals := 0 }) (va_Pc [.int p0] (fun U => U.heap.size = sz ∧ va_P (dC, dI) vwCl [] U.heap ∧ va_K (dC, dI) vwCl [] U ∧ va_D (fun _ => True) [])) (va_Qi (fun (r : Int32) (u : Unit) => r = yYes p0) (fun (u : Unit) (t : State) => va_P (dC, dI) vwCl [] t.heap ∧ va_K (dC, dI) vwCl [] t ∧ va_D (va_A [] sz) []) (va_A [] sz)) 0 0 (va_A [] sz) := by
  refine Met.ofW (cc := cX0_yesMask) (maxL := 1) (ret := (some .int)) (by decide) rfl ?_
  intro p e s m args below meth c s₁ B hml hv
  obtain ⟨rfl, hsz, hP, hK, hD0⟩ := hv
  have hx := B.exec
  have hb := B.bytes
  have hr := B.returns
  have hts := atoms_spec (ws := wsX0_yesMask) B.pre
  have htA : ∀ w ∈ wsA, w.before _ s = true := fun w h => hts w (List.mem_cons_of_mem _ h)
  have hown : s.vm.findClass RX0 = some m.cls := findClass_of_methodNamed B.named
  have hlocks := B.notSynchronized
  subst hsz
  have hD := hD0.self (sz := s.heap.size)
  generalize hAe : va_A [] s.heap.size = A at hD ⊢
  have hA : ∀ q : Nat, s.heap.size ≤ q → A q := fun q h => by rw [← hAe]; exact Or.inr h
  have hS : va_S A s.heap s.heap [] := va_S.rf
  have hP : va_P (dC, dI) vwCl [] s.heap := hP
  have hl := lv_entry ([.int p0]) (n := 1) (Nat.le_of_ble_eq_true rfl)
  rw [lg_entry_eq]
  generalize (lg_sl ([.int p0]) ++ List.replicate (1 - (lg_sl ([.int p0])).length) Slot.unset).toArray = ls at hl ⊢
  have hl : lv_has ls 1 [(0, .int p0)] := hl
  refine lv_iload_n hx hb dX0_yesMask_0 rfl (lv_at hl 0 rfl) ?_
  refine lv_if_le (tgt := 12) hx hb dX0_yesMask_1 (by decide) (fun cb_4 => ?_) (fun cb_4 => ?_)
  · refine lv_iconst (v := 0) hx hb dX0_yesMask_12 (by decide) ?_
    exact W.iret (v := 0) hx hb hr (fun t ht hW => ⟨⟨0, (), rfl, (if_neg (Int32.not_lt.mpr cb_4)).symm, by rw [ht]; exact hP, va_K.moved hW.alike hK, hD⟩, hS.F ht⟩) hS.2.2 dX0_yesMask_13
  · refine lv_iconst (v := 1) hx hb dX0_yesMask_4 (by decide) ?_
    refine lv_iload_n hx hb dX0_yesMask_5 rfl (lv_at hl 0 rfl) ?_
    refine lv_iconst (v := 1) hx hb dX0_yesMask_6 (by decide) ?_
    refine lv_isub hx hb dX0_yesMask_7 ?_
    refine lv_ishl hx hb dX0_yesMask_8 ?_
    refine lv_goto (tgt := 13) hx hb dX0_yesMask_9 (by decide) ?_
    exact W.iret (v := (1 : Int32) <<< ((p0 - 1) &&& 31)) hx hb hr (fun t ht hW => ⟨⟨(1 : Int32) <<< ((p0 - 1) &&& 31), (), rfl, (if_pos (Int32.not_le.mp cb_4)).symm, by rw [ht]; exact hP, va_K.moved hW.alike hK, hD⟩, hS.F ht⟩) hS.2.2 dX0_yesMask_13
set_option maxHeartbeats 4000000 in
set_option maxRecDepth 100000 in
theorem c_noMask (l : Launch) (dC : Nat → ClassId) (dI : Nat → Nat → Nat) (p0 : Int32) (sz : Nat)  : Met l yX0_noMask wsX0_noMask ({ frames := 0, cells := 0, slots := 0, locals := 0 }) (va_Pc [.int p0] (fun U => U.heap.size = sz ∧ va_P (dC, dI) vwCl [] U.heap ∧ va_K (dC, dI) vwCl [] U ∧ va_D (fun _ => True) [])) (va_Qi (fun (r : Int32) (u : Unit) => r = yNo p0) (fun (u : Unit) (t : State) => va_P (dC, dI) vwCl [] t.heap ∧ va_K (dC, dI) vwCl [] t ∧ va_D (va_A [] sz) []) (va_A [] sz)) 0 0 (va_A [] sz) := by
  refine Met.ofW (cc := cX0_noMask) (maxL := 1) (ret := (some .int)) (by decide) rfl ?_
  intro p e s m args below meth c s₁ B hml hv
  obtain ⟨rfl, hsz, hP, hK, hD0⟩ := hv
  have hx := B.exec
  have hb := B.bytes
  have hr := B.returns
  have hts := atoms_spec (ws := wsX0_noMask) B.pre
  have htA : ∀ w ∈ wsA, w.before _ s = true := fun w h => hts w (List.mem_cons_of_mem _ h)
  have hown : s.vm.findClass RX0 = some m.cls := findClass_of_methodNamed B.named
  have hlocks := B.notSynchronized
  subst hsz
  have hD := hD0.self (sz := s.heap.size)
  generalize hAe : va_A [] s.heap.size = A at hD ⊢
  have hA : ∀ q : Nat, s.heap.size ≤ q → A q := fun q h => by rw [← hAe]; exact Or.inr h
  have hS : va_S A s.heap s.heap [] := va_S.rf
  have hP : va_P (dC, dI) vwCl [] s.heap := hP
  have hl := lv_entry ([.int p0]) (n := 1) (Nat.le_of_ble_eq_true rfl)
  rw [lg_entry_eq]
  generalize (lg_sl ([.int p0]) ++ List.replicate (1 - (lg_sl ([.int p0])).length) Slot.unset).toArray = ls at hl ⊢
  have hl : lv_has ls 1 [(0, .int p0)] := hl
  refine lv_iload_n hx hb dX0_noMask_0 rfl (lv_at hl 0 rfl) ?_
  refine lv_if_ge (tgt := 13) hx hb dX0_noMask_1 (by decide) (fun cb_5 => ?_) (fun cb_5 => ?_)
  · refine lv_iconst (v := 0) hx hb dX0_noMask_13 (by decide) ?_
    exact W.iret (v := 0) hx hb hr (fun t ht hW => ⟨⟨0, (), rfl, (if_neg (Int32.not_lt.mpr cb_5)).symm, by rw [ht]; exact hP, va_K.moved hW.alike hK, hD⟩, hS.F ht⟩) hS.2.2 dX0_noMask_14
  · refine lv_iconst (v := 1) hx hb dX0_noMask_4 (by decide) ?_
    refine lv_iload_n hx hb dX0_noMask_5 rfl (lv_at hl 0 rfl) ?_
    refine lv_ineg hx hb dX0_noMask_6 ?_
    refine lv_iconst (v := 1) hx hb dX0_noMask_7 (by decide) ?_
    refine lv_isub hx hb dX0_noMask_8 ?_
    refine lv_ishl hx hb dX0_noMask_9 ?_
    refine lv_goto (tgt := 14) hx hb dX0_noMask_10 (by decide) ?_
    exact W.iret (v := (1 : Int32) <<< (((-p0) - 1) &&& 31)) hx hb hr (fun t ht hW => ⟨⟨(1 : Int32) <<< (((-p0) - 1) &&& 31), (), rfl, (if_pos (Int32.not_le.mp cb_5)).symm, by rw [ht]; exact hP, va_K.moved hW.alike hK, hD⟩, hS.F ht⟩) hS.2.2 dX0_noMask_14
set_option maxHeartbeats 4000000 in
set_option maxRecDepth 100000 in
theorem c_writeRow (l : Launch) (dC : Nat → ClassId) (dI : Nat → Nat → Nat) (h : Nat) (q1 : Nat) (q2 : Nat) (q3 : Nat) (q4 : Nat) (q5 : Nat) (q6 : Nat) (k1 : ClassId) (k2 : ClassId) (f1 : Nat → Int32) (f2 : Nat → Int32) (cc : Int32) (lv : Int32) (ac : Int32) (tc : Int32) (ty : Int32) (tn : Int32) (md : Int32) (k : Nat) (y : Int32) (n : Int32) (sz : Nat) (hk : k < 419) : Met l yX0_writeRow wsX0_writeRow ({ frames := 0, cells := 0, slots := 0, locals := 0 }) (va_Pc [.ref h, .int (nI k), .int y, .int n] (fun U => U.heap.size = sz ∧ va_P (dC, dI) vwCl [yO h q1 q2 q3 q4 q5 q6 cc lv ac tc ty tn md, (q1, .inl (k1, 419, .inl f1)), (q2, .inl (k2, 419, .inl f2))] U.heap ∧ va_K (dC, dI) vwCl [(k1, .int), (k2, .int)] U ∧ va_D (fun _ => True) [yO h q1 q2 q3 q4 q5 q6 cc lv ac tc ty tn md, (q1, .inl (k1, 419, .inl f1)), (q2, .inl (k2, 419, .inl f2))])) (va_Qv (fun (u : (Nat → Int32) × (Nat → Int32)) => u.1 = upd f1 k y ∧ u.2 = upd f2 k n) (fun (u : (Nat → Int32) × (Nat → Int32)) (t : State) => va_P (dC, dI) vwCl [yO h q1 q2 q3 q4 q5 q6 cc lv ac tc ty tn md, (q1, .inl (k1, 419, .inl u.1)), (q2, .inl (k2, 419, .inl u.2))] t.heap ∧ va_K (dC, dI) vwCl [(k1, .int), (k2, .int)] t ∧ va_D (va_A [yO h q1 q2 q3 q4 q5 q6 cc lv ac tc ty tn md, (q1, .inl (k1, 419, .inl f1)), (q2, .inl (k2, 419, .inl f2))] sz) [yO h q1 q2 q3 q4 q5 q6 cc lv ac tc ty tn md, (q1, .inl (k1, 419, .inl u.1)), (q2, .inl (k2, 419, .inl u.2))]) (va_A [yO h q1 q2 q3 q4 q5 q6 cc lv ac tc ty tn md, (q1, .inl (k1, 419, .inl f1)), (q2, .inl (k2, 419, .inl f2))] sz)) 0 0 (va_A [yO h q1 q2 q3 q4 q5 q6 cc lv ac tc ty tn md, (q1, .inl (k1, 419, .inl f1)), (q2, .inl (k2, 419, .inl f2))] sz) := by
  refine Met.ofW (cc := cX0_writeRow) (maxL := 4) (ret := none) (by decide) rfl ?_
  intro p e s m args below meth c s₁ B hml hv
  obtain ⟨rfl, hsz, hP, hK, hD0⟩ := hv
  have hx := B.exec
  have hb := B.bytes
  have hr := B.returns
  have hts := atoms_spec (ws := wsX0_writeRow) B.pre
  have htA : ∀ w ∈ wsA, w.before _ s = true := fun w h => hts w (List.mem_cons_of_mem _ h)
  have hown : s.vm.findClass RX0 = some m.cls := findClass_of_methodNamed B.named
  have hlocks := B.notSynchronized
  subst hsz
  have hD := hD0.self (sz := s.heap.size)
  generalize hAe : va_A [yO h q1 q2 q3 q4 q5 q6 cc lv ac tc ty tn md, (q1, .inl (k1, 419, .inl f1)), (q2, .inl (k2, 419, .inl f2))] s.heap.size = A at hD ⊢
  have hA : ∀ q : Nat, s.heap.size ≤ q → A q := fun q h => by rw [← hAe]; exact Or.inr h
  have hS : va_S A s.heap s.heap [] := va_S.rf
  have hP : va_P (dC, dI) vwCl [yO h q1 q2 q3 q4 q5 q6 cc lv ac tc ty tn md, (q1, .inl (k1, 419, .inl f1)), (q2, .inl (k2, 419, .inl f2))] s.heap := hP
  have hl := lv_entry ([.ref h, .int (nI k), .int y, .int n]) (n := 4) (Nat.le_of_ble_eq_true rfl)
  rw [lg_entry_eq]
  generalize (lg_sl ([.ref h, .int (nI k), .int y, .int n]) ++ List.replicate (4 - (lg_sl ([.ref h, .int (nI k), .int y, .int n])).length) Slot.unset).toArray = ls at hl ⊢
  have hl : lv_has ls 4 [(0, .ref h), (1, .int (nI k)), (2, .int y), (3, .int n)] := hl
  refine lv_iload_n hx hb dX0_writeRow_0 rfl (lv_at hl 1 rfl) ?_
  refine lv_if_lt (tgt := 25) hx hb dX0_writeRow_1 (by decide) (fun cb_6 => ?_) (fun cb_6 => ?_)
  · exact absurd cb_6 (nI_pos (by omega))
  · refine lv_iload_n hx hb dX0_writeRow_4 rfl (lv_at hl 1 rfl) ?_
    refine lv_sipush (v := 419) hx hb dX0_writeRow_5 (by decide) ?_
    refine lv_icmp_ge (tgt := 25) hx hb dX0_writeRow_8 (by decide) (fun cb_7 => ?_) (fun cb_7 => ?_)
    · exact absurd cb_7 (nI_ge (b := 419) hk (by omega))
    · refine lv_aload_n hx hb dX0_writeRow_11 rfl (lv_at hl 0 rfl) ?_
      refine va_get (D := (dC, dI)) (ci := 0) (v := .ref q1) (C := RX0) (T := TX0) (N := 13) hx hb htA inX0 hown hK hP 0 rfl rfl 0 (by decide) (htA _ lkX0_9) (fun _ h9 => h9) rfl dX0_writeRow_12 ?_
      refine lv_iload_n hx hb dX0_writeRow_15 rfl (lv_at hl 1 rfl) ?_
      refine lv_iload_n hx hb dX0_writeRow_16 rfl (lv_at hl 2 rfl) ?_
      refine yv_iast hx hb hK hP hD hS 1 0 rfl rfl (k := k) hk (by decide) dX0_writeRow_17 (fun H locs hP hD hS => ?_)
      have hP : va_P (dC, dI) vwCl [yO h q1 q2 q3 q4 q5 q6 cc lv ac tc ty tn md, (q1, .inl (k1, 419, .inl (upd f1 k y))), (q2, .inl (k2, 419, .inl f2))] H := hP
      have hD : va_D A [yO h q1 q2 q3 q4 q5 q6 cc lv ac tc ty tn md, (q1, .inl (k1, 419, .inl (upd f1 k y))), (q2, .inl (k2, 419, .inl f2))] := hD
      refine lv_aload_n hx hb dX0_writeRow_18 rfl (lv_at hl 0 rfl) ?_
      refine va_get (D := (dC, dI)) (ci := 0) (v := .ref q2) (C := RX0) (T := TX0) (N := 13) hx hb htA inX0 hown hK hP 0 rfl rfl 1 (by decide) (htA _ lkX0_13) (fun _ h9 => h9) rfl dX0_writeRow_19 ?_
      refine lv_iload_n hx hb dX0_writeRow_22 rfl (lv_at hl 1 rfl) ?_
      refine lv_iload_n hx hb dX0_writeRow_23 rfl (lv_at hl 3 rfl) ?_
      refine yv_iast hx hb hK hP hD hS 2 1 rfl rfl (k := k) hk (by decide) dX0_writeRow_24 (fun H locs hP hD hS => ?_)
      have hP : va_P (dC, dI) vwCl [yO h q1 q2 q3 q4 q5 q6 cc lv ac tc ty tn md, (q1, .inl (k1, 419, .inl (upd f1 k y))), (q2, .inl (k2, 419, .inl (upd f2 k n)))] H := hP
      have hD : va_D A [yO h q1 q2 q3 q4 q5 q6 cc lv ac tc ty tn md, (q1, .inl (k1, 419, .inl (upd f1 k y))), (q2, .inl (k2, 419, .inl (upd f2 k n)))] := hD
      exact W.vret hx hb hr (fun t ht hW => ⟨⟨(upd f1 k y, upd f2 k n), rfl, ⟨rfl, rfl⟩, by rw [ht]; exact hP, va_K.moved hW.alike hK, hD⟩, hS.F ht⟩) hS.2.2 dX0_writeRow_25
