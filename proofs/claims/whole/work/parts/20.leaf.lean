/-- the yard's own cell: its search, two rows of ints, seven numbers -/
abbrev yO (h hs q3 q4 : Nat) (cc lv ac tc ty tn md : Int32) : Nat × va_E := (h, .inr (0, [.ref hs, .ref q3, .ref q4, .int cc, .int lv, .int ac, .int tc, .int ty, .int tn, .int md]))
/-- the search's own cell -/
abbrev sO (hs q1 q2 q7 q5 q6 : Nat) (bY bN : Int32) (fd : Int64) : Nat × va_E := (hs, .inr (2, [.ref q1, .ref q2, .ref q7, .ref q5, .ref q6, .int bY, .int bN, .long fd]))
theorem y_dec' {v : Nat} (h : 1 ≤ v) : nI v + Int32.ofInt (-1) = nI (v - 1) := by
  rw [show Int32.ofInt (-1) = (-1 : Int32) by decide]; exact y_dec h
section YARR
variable {p : Program} {l : Launch} {e : Env} {R : Room} {s : State} {m : MethodId} {args : Array Value} {below : List Frame} {meth : Method} {c : Code} {H : Heap} {locs : List Loc} {cells slots : Nat} {Q : State → Prop}
variable {cc : ByteArray} {pc : Nat} {ls : Array Slot} {rest : List Value} {D : va_G} {cl : List vw_C} {A : Nat → Prop} {a : Nat} {tys : List (ClassId × FieldType)} {ws : va_W} {H0 : Heap}
/-- an int array read, and written, at a counted place -/
theorem yv_iald (hexec : p.tables.exec = Jvm.exec) (hb : c.code = cc) (hK : va_K D cl tys s) (hP : va_P D cl ws H) (q0 t0 : Nat) {cA : ClassId} {n : Nat} {f : Nat → Int32} (ha : ws[q0]? = some (a, .inl (cA, n, .inl f))) (ht : tys[t0]? = some (cA, .int)) {k : Nat} (hk : k < n) (hn : n < 2 ^ 31) (hdg : decode cc pc = .ok (.iaload, 1))
    (kk : W p l e R s m args below meth c H locs cells slots Q (F0 m (pc + 1) ls (.int (f k) :: rest))) : W p l e R s m args below meth c H locs cells slots Q (F0 m pc ls (.int (nI k) :: .ref a :: rest)) := by
  refine va_iald hexec hb hK hP q0 t0 ha ht (vp_in_nI hk hn) hdg ?_
  rw [nI_clamp (by omega)]
  exact kk
theorem yv_iast (hexec : p.tables.exec = Jvm.exec) (hb : c.code = cc) (hK : va_K D cl tys s) (hP : va_P D cl ws H) (hD : va_D A ws) (hS : va_S A H0 H locs) (q0 t0 : Nat) {cA : ClassId} {n : Nat} {f : Nat → Int32} (ha : ws[q0]? = some (a, .inl (cA, n, .inl f))) (ht : tys[t0]? = some (cA, .int)) {k : Nat} {x : Int32} (hk : k < n) (hn : n < 2 ^ 31) (hdg : decode cc pc = .ok (.iastore, 1))
    (kk : ∀ (H1 : Heap) (locs1 : List Loc), va_P D cl (ws.set q0 (a, .inl (cA, n, .inl (upd f k x)))) H1 → va_D A (ws.set q0 (a, .inl (cA, n, .inl (upd f k x)))) → va_S A H0 H1 locs1 → W p l e R s m args below meth c H1 locs1 cells slots Q (F0 m (pc + 1) ls rest)) : W p l e R s m args below meth c H locs cells slots Q (F0 m pc ls (.int x :: .int (nI k) :: .ref a :: rest)) := by
  refine va_iast hexec hb hK hP hD hS q0 t0 ha ht (vp_in_nI hk hn) hdg (fun H1 locs1 => ?_)
  rw [nI_clamp (by omega)]
  exact kk H1 locs1
end YARR
section ZARR
variable {p : Program} {l : Launch} {e : Env} {R : Room} {s : State} {m : MethodId} {args : Array Value} {below : List Frame} {meth : Method} {c : Code} {H : Heap} {locs : List Loc} {cells slots : Nat} {Q : State → Prop}
variable {cc : ByteArray} {pc : Nat} {ls : Array Slot} {rest : List Value} {D : va_G} {cl : List vw_C} {A : Nat → Prop} {a : Nat} {tys : List (ClassId × FieldType)} {ws : va_W} {H0 : Heap}
theorem yv_lald (hexec : p.tables.exec = Jvm.exec) (hb : c.code = cc) (hK : va_K D cl tys s) (hP : va_P D cl ws H) (q0 t0 : Nat) {cA : ClassId} {n : Nat} {f : Nat → Int64} (ha : ws[q0]? = some (a, .inl (cA, n, .inr (.inl f)))) (ht : tys[t0]? = some (cA, .long)) {k : Nat} (hk : k < n) (hn : n < 2 ^ 31) (hdg : decode cc pc = .ok (.laload, 1))
    (kk : W p l e R s m args below meth c H locs cells slots Q (F0 m (pc + 1) ls (.long (f k) :: rest))) : W p l e R s m args below meth c H locs cells slots Q (F0 m pc ls (.int (nI k) :: .ref a :: rest)) := by
  refine va_lald hexec hb hK hP q0 t0 ha ht (vp_in_nI hk hn) hdg ?_
  rw [nI_clamp (by omega)]
  exact kk
theorem yv_last (hexec : p.tables.exec = Jvm.exec) (hb : c.code = cc) (hK : va_K D cl tys s) (hP : va_P D cl ws H) (hD : va_D A ws) (hS : va_S A H0 H locs) (q0 t0 : Nat) {cA : ClassId} {n : Nat} {f : Nat → Int64} (ha : ws[q0]? = some (a, .inl (cA, n, .inr (.inl f)))) (ht : tys[t0]? = some (cA, .long)) {k : Nat} {x : Int64} (hk : k < n) (hn : n < 2 ^ 31) (hdg : decode cc pc = .ok (.lastore, 1))
    (kk : ∀ (H1 : Heap) (locs1 : List Loc), va_P D cl (ws.set q0 (a, .inl (cA, n, .inr (.inl (vp_updL f k x))))) H1 → va_D A (ws.set q0 (a, .inl (cA, n, .inr (.inl (vp_updL f k x))))) → va_S A H0 H1 locs1 → W p l e R s m args below meth c H1 locs1 cells slots Q (F0 m (pc + 1) ls rest)) : W p l e R s m args below meth c H locs cells slots Q (F0 m pc ls (.long x :: .int (nI k) :: .ref a :: rest)) := by
  refine va_last hexec hb hK hP hD hS q0 t0 ha ht (vp_in_nI hk hn) hdg (fun H1 locs1 => ?_)
  rw [nI_clamp (by omega)]
  exact kk H1 locs1
end ZARR
set_option maxHeartbeats 4000000 in
set_option maxRecDepth 100000 in
theorem c_isLiteral (l : Launch) (dC : Nat → ClassId) (dI : Nat → Nat → Nat) (p0 : Int32) (sz : Nat)  : Met l yX0_isLiteral wsX0_isLiteral ({ frames := 0, cells := 0, slots := 0, locals := 0 }) (va_Pc [.int p0] (fun U => U.heap.size = sz ∧ va_P (dC, dI) vwCl [] U.heap ∧ va_K (dC, dI) vwCl [] U ∧ va_D (fun _ => True) [])) (va_Qi (fun (r : Int32) (u : Unit) => (r = 1 ∧ yLit p0) ∨ (r = 0 ∧ ¬ yLit p0)) (fun (u : Unit) (t : State) => va_P (dC, dI) vwCl [] t.heap ∧ va_K (dC, dI) vwCl [] t ∧ va_D (va_A [] sz) []) (va_A [] sz)) 0 0 (va_A [] sz) := by
  refine Met.ofW (cc := cX0_isLiteral) (maxL := 1) (ret := (some .boolean)) (by decide) rfl ?_
  intro p e s m args below meth c s₁ B hml hv
  obtain ⟨rfl, hsz, hP, hK, hD0⟩ := hv
  have hx := B.exec
  have hb := B.bytes
  have hr := B.returns
  have hts := atoms_spec (ws := wsX0_isLiteral) B.pre
  have htA : ∀ w ∈ wsA, w.before _ s = true := fun w h => hts w (List.mem_cons_of_mem _ h)
  have hown : s.vm.findClass RX0 = some m.cls := findClass_of_methodNamed B.named
  have hlocks := B.notSynchronized
  subst hsz
  have hD := hD0.self (sz := s.heap.size)
  generalize hAe : va_A [] s.heap.size = A at hD ⊢
  have hA : ∀ q : Nat, s.heap.size ≤ q → A q := fun q h => by rw [← hAe]; exact Or.inr h
  have hS : va_S A s.heap s.heap [] := va_S.rf
  have hP : va_P (dC, dI) vwCl [] s.heap := hP
  have hl := lv_entry ([.int p0]) (n := 1) (Nat.le_of_ble_eq_true rfl)
  rw [lg_entry_eq]
  generalize (lg_sl ([.int p0]) ++ List.replicate (1 - (lg_sl ([.int p0])).length) Slot.unset).toArray = ls at hl ⊢
  have hl : lv_has ls 1 [(0, .int p0)] := hl
  refine lv_iload_n hx hb dX0_isLiteral_0 rfl (lv_at hl 0 rfl) ?_
  refine lv_if_eq (tgt := 20) hx hb dX0_isLiteral_1 (by decide) (fun cb_1 => ?_) (fun cb_1 => ?_)
  · refine lv_iconst (v := 0) hx hb dX0_isLiteral_20 (by decide) ?_
    exact W.zret (v := 0) (ty := .boolean) hx hb hr (by decide) (fun t ht hW => ⟨⟨0, (), rfl, Or.inr ⟨rfl, fun h => (yLit_not h).1 cb_1⟩, by rw [ht]; exact hP, va_K.moved hW.alike hK, hD⟩, hS.F ht⟩) hS.2.2 dX0_isLiteral_21
  · refine lv_iload_n hx hb dX0_isLiteral_4 rfl (lv_at hl 0 rfl) ?_
    refine lv_bipush (v := (-18)) hx hb dX0_isLiteral_5 (by decide) ?_
    refine lv_icmp_lt (tgt := 20) hx hb dX0_isLiteral_7 (by decide) (fun cb_2 => ?_) (fun cb_2 => ?_)
    · refine lv_iconst (v := 0) hx hb dX0_isLiteral_20 (by decide) ?_
      exact W.zret (v := 0) (ty := .boolean) hx hb hr (by decide) (fun t ht hW => ⟨⟨0, (), rfl, Or.inr ⟨rfl, fun h => (yLit_not h).2.1 cb_2⟩, by rw [ht]; exact hP, va_K.moved hW.alike hK, hD⟩, hS.F ht⟩) hS.2.2 dX0_isLiteral_21
    · refine lv_iload_n hx hb dX0_isLiteral_10 rfl (lv_at hl 0 rfl) ?_
      refine lv_bipush (v := 18) hx hb dX0_isLiteral_11 (by decide) ?_
      refine lv_icmp_gt (tgt := 20) hx hb dX0_isLiteral_13 (by decide) (fun cb_3 => ?_) (fun cb_3 => ?_)
      · refine lv_iconst (v := 0) hx hb dX0_isLiteral_20 (by decide) ?_
        exact W.zret (v := 0) (ty := .boolean) hx hb hr (by decide) (fun t ht hW => ⟨⟨0, (), rfl, Or.inr ⟨rfl, fun h => (yLit_not h).2.2 cb_3⟩, by rw [ht]; exact hP, va_K.moved hW.alike hK, hD⟩, hS.F ht⟩) hS.2.2 dX0_isLiteral_21
      · refine lv_iconst (v := 1) hx hb dX0_isLiteral_16 (by decide) ?_
        refine lv_goto (tgt := 21) hx hb dX0_isLiteral_17 (by decide) ?_
        exact W.zret (v := 1) (ty := .boolean) hx hb hr (by decide) (fun t ht hW => ⟨⟨1, (), rfl, Or.inl ⟨rfl, yLit_of cb_1 cb_2 cb_3⟩, by rw [ht]; exact hP, va_K.moved hW.alike hK, hD⟩, hS.F ht⟩) hS.2.2 dX0_isLiteral_21
set_option maxHeartbeats 4000000 in
set_option maxRecDepth 100000 in
theorem c_yesMask (l : Launch) (dC : Nat → ClassId) (dI : Nat → Nat → Nat) (p0 : Int32) (sz : Nat)  : Met l yX0_yesMask wsX0_yesMask ({ frames := 0, cells := 0, slots := 0, locals := 0 }) (va_Pc [.int p0] (fun U => U.heap.size = sz ∧ va_P (dC, dI) vwCl [] U.heap ∧ va_K (dC, dI) vwCl [] U ∧ va_D (fun _ => True) [])) (va_Qi (fun (r : Int32) (u : Unit) => r = yYes p0) (fun (u : Unit) (t : State) => va_P (dC, dI) vwCl [] t.heap ∧ va_K (dC, dI) vwCl [] t ∧ va_D (va_A [] sz) []) (va_A [] sz)) 0 0 (va_A [] sz) := by
  refine Met.ofW (cc := cX0_yesMask) (maxL := 1) (ret := (some .int)) (by decide) rfl ?_
  intro p e s m args below meth c s₁ B hml hv
  obtain ⟨rfl, hsz, hP, hK, hD0⟩ := hv
  have hx := B.exec
  have hb := B.bytes
  have hr := B.returns
  have hts := atoms_spec (ws := wsX0_yesMask) B.pre
  have htA : ∀ w ∈ wsA, w.before _ s = true := fun w h => hts w (List.mem_cons_of_mem _ h)
  have hown : s.vm.findClass RX0 = some m.cls := findClass_of_methodNamed B.named
  have hlocks := B.notSynchronized
  subst hsz
  have hD := hD0.self (sz := s.heap.size)
  generalize hAe : va_A [] s.heap.size = A at hD ⊢
  have hA : ∀ q : Nat, s.heap.size ≤ q → A q := fun q h => by rw [← hAe]; exact Or.inr h
  have hS : va_S A s.heap s.heap [] := va_S.rf
  have hP : va_P (dC, dI) vwCl [] s.heap := hP
  have hl := lv_entry ([.int p0]) (n := 1) (Nat.le_of_ble_eq_true rfl)
  rw [lg_entry_eq]
  generalize (lg_sl ([.int p0]) ++ List.replicate (1 - (lg_sl ([.int p0])).length) Slot.unset).toArray = ls at hl ⊢
  have hl : lv_has ls 1 [(0, .int p0)] := hl
  refine lv_iload_n hx hb dX0_yesMask_0 rfl (lv_at hl 0 rfl) ?_
  refine lv_if_le (tgt := 12) hx hb dX0_yesMask_1 (by decide) (fun cb_4 => ?_) (fun cb_4 => ?_)
  · refine lv_iconst (v := 0) hx hb dX0_yesMask_12 (by decide) ?_
    exact W.iret (v := 0) hx hb hr (fun t ht hW => ⟨⟨0, (), rfl, (if_neg (Int32.not_lt.mpr cb_4)).symm, by rw [ht]; exact hP, va_K.moved hW.alike hK, hD⟩, hS.F ht⟩) hS.2.2 dX0_yesMask_13
  · refine lv_iconst (v := 1) hx hb dX0_yesMask_4 (by decide) ?_
    refine lv_iload_n hx hb dX0_yesMask_5 rfl (lv_at hl 0 rfl) ?_
    refine lv_iconst (v := 1) hx hb dX0_yesMask_6 (by decide) ?_
    refine lv_isub hx hb dX0_yesMask_7 ?_
    refine lv_ishl hx hb dX0_yesMask_8 ?_
    refine lv_goto (tgt := 13) hx hb dX0_yesMask_9 (by decide) ?_
    exact W.iret (v := (1 : Int32) <<< ((p0 - 1) &&& 31)) hx hb hr (fun t ht hW => ⟨⟨(1 : Int32) <<< ((p0 - 1) &&& 31), (), rfl, (if_pos (Int32.not_le.mp cb_4)).symm, by rw [ht]; exact hP, va_K.moved hW.alike hK, hD⟩, hS.F ht⟩) hS.2.2 dX0_yesMask_13
set_option maxHeartbeats 4000000 in
set_option maxRecDepth 100000 in
theorem c_noMask (l : Launch) (dC : Nat → ClassId) (dI : Nat → Nat → Nat) (p0 : Int32) (sz : Nat)  : Met l yX0_noMask wsX0_noMask ({ frames := 0, cells := 0, slots := 0, locals := 0 }) (va_Pc [.int p0] (fun U => U.heap.size = sz ∧ va_P (dC, dI) vwCl [] U.heap ∧ va_K (dC, dI) vwCl [] U ∧ va_D (fun _ => True) [])) (va_Qi (fun (r : Int32) (u : Unit) => r = yNo p0) (fun (u : Unit) (t : State) => va_P (dC, dI) vwCl [] t.heap ∧ va_K (dC, dI) vwCl [] t ∧ va_D (va_A [] sz) []) (va_A [] sz)) 0 0 (va_A [] sz) := by
  refine Met.ofW (cc := cX0_noMask) (maxL := 1) (ret := (some .int)) (by decide) rfl ?_
  intro p e s m args below meth c s₁ B hml hv
  obtain ⟨rfl, hsz, hP, hK, hD0⟩ := hv
  have hx := B.exec
  have hb := B.bytes
  have hr := B.returns
  have hts := atoms_spec (ws := wsX0_noMask) B.pre
  have htA : ∀ w ∈ wsA, w.before _ s = true := fun w h => hts w (List.mem_cons_of_mem _ h)
  have hown : s.vm.findClass RX0 = some m.cls := findClass_of_methodNamed B.named
  have hlocks := B.notSynchronized
  subst hsz
  have hD := hD0.self (sz := s.heap.size)
  generalize hAe : va_A [] s.heap.size = A at hD ⊢
  have hA : ∀ q : Nat, s.heap.size ≤ q → A q := fun q h => by rw [← hAe]; exact Or.inr h
  have hS : va_S A s.heap s.heap [] := va_S.rf
  have hP : va_P (dC, dI) vwCl [] s.heap := hP
  have hl := lv_entry ([.int p0]) (n := 1) (Nat.le_of_ble_eq_true rfl)
  rw [lg_entry_eq]
  generalize (lg_sl ([.int p0]) ++ List.replicate (1 - (lg_sl ([.int p0])).length) Slot.unset).toArray = ls at hl ⊢
  have hl : lv_has ls 1 [(0, .int p0)] := hl
  refine lv_iload_n hx hb dX0_noMask_0 rfl (lv_at hl 0 rfl) ?_
  refine lv_if_ge (tgt := 13) hx hb dX0_noMask_1 (by decide) (fun cb_5 => ?_) (fun cb_5 => ?_)
  · refine lv_iconst (v := 0) hx hb dX0_noMask_13 (by decide) ?_
    exact W.iret (v := 0) hx hb hr (fun t ht hW => ⟨⟨0, (), rfl, (if_neg (Int32.not_lt.mpr cb_5)).symm, by rw [ht]; exact hP, va_K.moved hW.alike hK, hD⟩, hS.F ht⟩) hS.2.2 dX0_noMask_14
  · refine lv_iconst (v := 1) hx hb dX0_noMask_4 (by decide) ?_
    refine lv_iload_n hx hb dX0_noMask_5 rfl (lv_at hl 0 rfl) ?_
    refine lv_ineg hx hb dX0_noMask_6 ?_
    refine lv_iconst (v := 1) hx hb dX0_noMask_7 (by decide) ?_
    refine lv_isub hx hb dX0_noMask_8 ?_
    refine lv_ishl hx hb dX0_noMask_9 ?_
    refine lv_goto (tgt := 14) hx hb dX0_noMask_10 (by decide) ?_
    exact W.iret (v := (1 : Int32) <<< (((-p0) - 1) &&& 31)) hx hb hr (fun t ht hW => ⟨⟨(1 : Int32) <<< (((-p0) - 1) &&& 31), (), rfl, (if_pos (Int32.not_le.mp cb_5)).symm, by rw [ht]; exact hP, va_K.moved hW.alike hK, hD⟩, hS.F ht⟩) hS.2.2 dX0_noMask_14
set_option maxHeartbeats 4000000 in
set_option maxRecDepth 100000 in
theorem c_ntz32 (l : Launch) (dC : Nat → ClassId) (dI : Nat → Nat → Nat) (x : Int32) (t0 : Nat) (sz : Nat) (ht0 : t0 < 32) (h1 : yb x t0 = true) (h0 : ∀ j, j < t0 → yb x j = false) : Met l yJI_numberOfTrailingZeros wsJI_numberOfTrailingZeros ({ frames := 0, cells := 0, slots := 0, locals := 0 }) (va_Pc [.int x] (fun U => U.heap.size = sz ∧ va_P (dC, dI) vwCl [] U.heap ∧ va_K (dC, dI) vwCl [] U ∧ va_D (fun _ => True) [])) (va_Qi (fun (r : Int32) (u : Unit) => r = nI t0) (fun (u : Unit) (t : State) => va_P (dC, dI) vwCl [] t.heap ∧ va_K (dC, dI) vwCl [] t ∧ va_D (va_A [] sz) []) (va_A [] sz)) 0 0 (va_A [] sz) := by
  refine Met.ofW (cc := cJI_numberOfTrailingZeros) (maxL := 2) (ret := (some .int)) (by decide) rfl ?_
  intro p e s m args below meth c s₁ B hml hv
  obtain ⟨rfl, hsz, hP, hK, hD0⟩ := hv
  have hx := B.exec
  have hb := B.bytes
  have hr := B.returns
  have hts := atoms_spec (ws := wsJI_numberOfTrailingZeros) B.pre
  have htA : ∀ w ∈ wsA, w.before _ s = true := fun w h => hts w (List.mem_cons_of_mem _ h)
  have hown : s.vm.findClass RJI = some m.cls := findClass_of_methodNamed B.named
  have hlocks := B.notSynchronized
  subst hsz
  have hD := hD0.self (sz := s.heap.size)
  generalize hAe : va_A [] s.heap.size = A at hD ⊢
  have hA : ∀ q : Nat, s.heap.size ≤ q → A q := fun q h => by rw [← hAe]; exact Or.inr h
  have hS : va_S A s.heap s.heap [] := va_S.rf
  have hP : va_P (dC, dI) vwCl [] s.heap := hP
  have hl := lv_entry ([.int x]) (n := 2) (Nat.le_of_ble_eq_true rfl)
  rw [lg_entry_eq]
  generalize (lg_sl ([.int x]) ++ List.replicate (2 - (lg_sl ([.int x])).length) Slot.unset).toArray = ls at hl ⊢
  have hl : lv_has ls 2 [(0, .int x)] := hl
  refine lv_iload_n hx hb dJI_numberOfTrailingZeros_0 rfl (lv_at hl 0 rfl) ?_
  refine lv_iconst (v := (-1)) hx hb dJI_numberOfTrailingZeros_1 (by decide) ?_
  refine lv_ixor hx hb dJI_numberOfTrailingZeros_2 ?_
  refine lv_iload_n hx hb dJI_numberOfTrailingZeros_3 rfl (lv_at hl 0 rfl) ?_
  refine lv_iconst (v := 1) hx hb dJI_numberOfTrailingZeros_4 (by decide) ?_
  refine lv_isub hx hb dJI_numberOfTrailingZeros_5 ?_
  refine lv_iand hx hb dJI_numberOfTrailingZeros_6 ?_
  refine W.eq (g2 := F0 m 7 ls [.int (nI (2 ^ t0 - 1))]) (by rw [y_low1 h1 h0]) ?_
  refine lv_istore_n (lv' := [(0, .int (nI (2 ^ t0 - 1)))]) hx hb dJI_numberOfTrailingZeros_7 rfl hl (by decide) rfl (fun ls hl => ?_)
  refine lv_iload_n hx hb dJI_numberOfTrailingZeros_8 rfl (lv_at hl 0 rfl) ?_
  refine lv_if_gt (tgt := 17) hx hb dJI_numberOfTrailingZeros_9 (by decide) (fun cb_6 => ?_) (fun cb_6 => ?_)
  · refine lv_iconst (v := 1) hx hb dJI_numberOfTrailingZeros_17 (by decide) ?_
    refine lv_istore_n (lv' := [(1, .int 1), (0, .int (nI (2 ^ t0 - 1)))]) hx hb dJI_numberOfTrailingZeros_18 rfl hl (by decide) rfl (fun ls hl => ?_)
    refine lv_iload_n hx hb dJI_numberOfTrailingZeros_19 rfl (lv_at hl 1 rfl) ?_
    refine lv_ldcw (own := RJI) (v := 65536) hx hb hown (htA _ lkJI_264) dJI_numberOfTrailingZeros_20 ?_
    refine lv_icmp_le (tgt := 34) hx hb dJI_numberOfTrailingZeros_23 (by decide) (fun cb_7 => ?_) (fun cb_7 => ?_)
    · refine lv_iload_n hx hb dJI_numberOfTrailingZeros_34 rfl (lv_at hl 1 rfl) ?_
      refine lv_sipush (v := 256) hx hb dJI_numberOfTrailingZeros_35 (by decide) ?_
      refine lv_icmp_le (tgt := 49) hx hb dJI_numberOfTrailingZeros_38 (by decide) (fun cb_8 => ?_) (fun cb_8 => ?_)
      · refine lv_iload_n hx hb dJI_numberOfTrailingZeros_49 rfl (lv_at hl 1 rfl) ?_
        refine lv_bipush (v := 16) hx hb dJI_numberOfTrailingZeros_50 (by decide) ?_
        refine lv_icmp_le (tgt := 62) hx hb dJI_numberOfTrailingZeros_52 (by decide) (fun cb_9 => ?_) (fun cb_9 => ?_)
        · refine lv_iload_n hx hb dJI_numberOfTrailingZeros_62 rfl (lv_at hl 1 rfl) ?_
          refine lv_iconst (v := 4) hx hb dJI_numberOfTrailingZeros_63 (by decide) ?_
          refine lv_icmp_le (tgt := 74) hx hb dJI_numberOfTrailingZeros_64 (by decide) (fun cb_10 => ?_) (fun cb_10 => ?_)
          · refine lv_iload_n hx hb dJI_numberOfTrailingZeros_74 rfl (lv_at hl 0 rfl) ?_
            refine lv_iload_n hx hb dJI_numberOfTrailingZeros_75 rfl (lv_at hl 1 rfl) ?_
            refine lv_iconst (v := 1) hx hb dJI_numberOfTrailingZeros_76 (by decide) ?_
            refine lv_iushr (v := ((nI (2 ^ t0 - 1)).toUInt32 >>> ((1 : Int32).toUInt32 &&& Int32.toUInt32 31)).toInt32) hx hb dJI_numberOfTrailingZeros_77 rfl ?_
            refine lv_iadd hx hb dJI_numberOfTrailingZeros_78 ?_
            exact W.iret (v := 1 + (((nI (2 ^ t0 - 1)).toUInt32 >>> ((1 : Int32).toUInt32 &&& Int32.toUInt32 31)).toInt32)) hx hb hr (fun t ht hW => ⟨⟨1 + (((nI (2 ^ t0 - 1)).toUInt32 >>> ((1 : Int32).toUInt32 &&& Int32.toUInt32 31)).toInt32), (), rfl, (by decide +kernel : ∀ t0, t0 < 32 → (0 < nI (2 ^ t0 - 1) ∧ (nI (2 ^ t0 - 1)) ≤ 65536 ∧ (nI (2 ^ t0 - 1)) ≤ 256 ∧ (nI (2 ^ t0 - 1)) ≤ 16 ∧ (nI (2 ^ t0 - 1)) ≤ 4) → 1 + (((nI (2 ^ t0 - 1)).toUInt32 >>> ((1 : Int32).toUInt32 &&& Int32.toUInt32 31)).toInt32) = nI t0) t0 ht0 ⟨cb_6, cb_7, cb_8, cb_9, cb_10⟩, by rw [ht]; exact hP, va_K.moved hW.alike hK, hD⟩, hS.F ht⟩) hS.2.2 dJI_numberOfTrailingZeros_79
          · refine lv_iinc (v := 1 + 2) (lv' := [(1, .int (1 + 2)), (0, .int (nI (2 ^ t0 - 1)))]) hx hb dJI_numberOfTrailingZeros_67 hl (k := 0) rfl rfl (by decide) rfl (fun ls hl => ?_)
            refine lv_iload_n hx hb dJI_numberOfTrailingZeros_70 rfl (lv_at hl 1 rfl) ?_
            refine lv_iconst (v := 2) hx hb dJI_numberOfTrailingZeros_71 (by decide) ?_
            refine lv_iushr (v := ((nI (2 ^ t0 - 1)).toUInt32 >>> ((2 : Int32).toUInt32 &&& Int32.toUInt32 31)).toInt32) hx hb dJI_numberOfTrailingZeros_72 rfl ?_
            refine lv_istore_n (lv' := [(0, .int (((nI (2 ^ t0 - 1)).toUInt32 >>> ((2 : Int32).toUInt32 &&& Int32.toUInt32 31)).toInt32)), (1, .int (1 + 2))]) hx hb dJI_numberOfTrailingZeros_73 rfl hl (by decide) rfl (fun ls hl => ?_)
            refine lv_iload_n hx hb dJI_numberOfTrailingZeros_74 rfl (lv_at hl 1 rfl) ?_
            refine lv_iload_n hx hb dJI_numberOfTrailingZeros_75 rfl (lv_at hl 0 rfl) ?_
            refine lv_iconst (v := 1) hx hb dJI_numberOfTrailingZeros_76 (by decide) ?_
            refine lv_iushr (v := ((((nI (2 ^ t0 - 1)).toUInt32 >>> ((2 : Int32).toUInt32 &&& Int32.toUInt32 31)).toInt32).toUInt32 >>> ((1 : Int32).toUInt32 &&& Int32.toUInt32 31)).toInt32) hx hb dJI_numberOfTrailingZeros_77 rfl ?_
            refine lv_iadd hx hb dJI_numberOfTrailingZeros_78 ?_
            exact W.iret (v := (1 + 2) + (((((nI (2 ^ t0 - 1)).toUInt32 >>> ((2 : Int32).toUInt32 &&& Int32.toUInt32 31)).toInt32).toUInt32 >>> ((1 : Int32).toUInt32 &&& Int32.toUInt32 31)).toInt32)) hx hb hr (fun t ht hW => ⟨⟨(1 + 2) + (((((nI (2 ^ t0 - 1)).toUInt32 >>> ((2 : Int32).toUInt32 &&& Int32.toUInt32 31)).toInt32).toUInt32 >>> ((1 : Int32).toUInt32 &&& Int32.toUInt32 31)).toInt32), (), rfl, (by decide +kernel : ∀ t0, t0 < 32 → (0 < nI (2 ^ t0 - 1) ∧ (nI (2 ^ t0 - 1)) ≤ 65536 ∧ (nI (2 ^ t0 - 1)) ≤ 256 ∧ (nI (2 ^ t0 - 1)) ≤ 16 ∧ ¬ (nI (2 ^ t0 - 1)) ≤ 4) → (1 + 2) + (((((nI (2 ^ t0 - 1)).toUInt32 >>> ((2 : Int32).toUInt32 &&& Int32.toUInt32 31)).toInt32).toUInt32 >>> ((1 : Int32).toUInt32 &&& Int32.toUInt32 31)).toInt32) = nI t0) t0 ht0 ⟨cb_6, cb_7, cb_8, cb_9, cb_10⟩, by rw [ht]; exact hP, va_K.moved hW.alike hK, hD⟩, hS.F ht⟩) hS.2.2 dJI_numberOfTrailingZeros_79
        · refine lv_iinc (v := 1 + 4) (lv' := [(1, .int (1 + 4)), (0, .int (nI (2 ^ t0 - 1)))]) hx hb dJI_numberOfTrailingZeros_55 hl (k := 0) rfl rfl (by decide) rfl (fun ls hl => ?_)
          refine lv_iload_n hx hb dJI_numberOfTrailingZeros_58 rfl (lv_at hl 1 rfl) ?_
          refine lv_iconst (v := 4) hx hb dJI_numberOfTrailingZeros_59 (by decide) ?_
          refine lv_iushr (v := ((nI (2 ^ t0 - 1)).toUInt32 >>> ((4 : Int32).toUInt32 &&& Int32.toUInt32 31)).toInt32) hx hb dJI_numberOfTrailingZeros_60 rfl ?_
          refine lv_istore_n (lv' := [(0, .int (((nI (2 ^ t0 - 1)).toUInt32 >>> ((4 : Int32).toUInt32 &&& Int32.toUInt32 31)).toInt32)), (1, .int (1 + 4))]) hx hb dJI_numberOfTrailingZeros_61 rfl hl (by decide) rfl (fun ls hl => ?_)
          refine lv_iload_n hx hb dJI_numberOfTrailingZeros_62 rfl (lv_at hl 0 rfl) ?_
          refine lv_iconst (v := 4) hx hb dJI_numberOfTrailingZeros_63 (by decide) ?_
          refine lv_icmp_le (tgt := 74) hx hb dJI_numberOfTrailingZeros_64 (by decide) (fun cb_11 => ?_) (fun cb_11 => ?_)
          · refine lv_iload_n hx hb dJI_numberOfTrailingZeros_74 rfl (lv_at hl 1 rfl) ?_
            refine lv_iload_n hx hb dJI_numberOfTrailingZeros_75 rfl (lv_at hl 0 rfl) ?_
            refine lv_iconst (v := 1) hx hb dJI_numberOfTrailingZeros_76 (by decide) ?_
            refine lv_iushr (v := ((((nI (2 ^ t0 - 1)).toUInt32 >>> ((4 : Int32).toUInt32 &&& Int32.toUInt32 31)).toInt32).toUInt32 >>> ((1 : Int32).toUInt32 &&& Int32.toUInt32 31)).toInt32) hx hb dJI_numberOfTrailingZeros_77 rfl ?_
            refine lv_iadd hx hb dJI_numberOfTrailingZeros_78 ?_
            exact W.iret (v := (1 + 4) + (((((nI (2 ^ t0 - 1)).toUInt32 >>> ((4 : Int32).toUInt32 &&& Int32.toUInt32 31)).toInt32).toUInt32 >>> ((1 : Int32).toUInt32 &&& Int32.toUInt32 31)).toInt32)) hx hb hr (fun t ht hW => ⟨⟨(1 + 4) + (((((nI (2 ^ t0 - 1)).toUInt32 >>> ((4 : Int32).toUInt32 &&& Int32.toUInt32 31)).toInt32).toUInt32 >>> ((1 : Int32).toUInt32 &&& Int32.toUInt32 31)).toInt32), (), rfl, (by decide +kernel : ∀ t0, t0 < 32 → (0 < nI (2 ^ t0 - 1) ∧ (nI (2 ^ t0 - 1)) ≤ 65536 ∧ (nI (2 ^ t0 - 1)) ≤ 256 ∧ ¬ (nI (2 ^ t0 - 1)) ≤ 16 ∧ (((nI (2 ^ t0 - 1)).toUInt32 >>> ((4 : Int32).toUInt32 &&& Int32.toUInt32 31)).toInt32) ≤ 4) → (1 + 4) + (((((nI (2 ^ t0 - 1)).toUInt32 >>> ((4 : Int32).toUInt32 &&& Int32.toUInt32 31)).toInt32).toUInt32 >>> ((1 : Int32).toUInt32 &&& Int32.toUInt32 31)).toInt32) = nI t0) t0 ht0 ⟨cb_6, cb_7, cb_8, cb_9, cb_11⟩, by rw [ht]; exact hP, va_K.moved hW.alike hK, hD⟩, hS.F ht⟩) hS.2.2 dJI_numberOfTrailingZeros_79
          · refine lv_iinc (v := (1 + 4) + 2) (lv' := [(1, .int ((1 + 4) + 2)), (0, .int (((nI (2 ^ t0 - 1)).toUInt32 >>> ((4 : Int32).toUInt32 &&& Int32.toUInt32 31)).toInt32))]) hx hb dJI_numberOfTrailingZeros_67 hl (k := 1) rfl rfl (by decide) rfl (fun ls hl => ?_)
            refine lv_iload_n hx hb dJI_numberOfTrailingZeros_70 rfl (lv_at hl 1 rfl) ?_
            refine lv_iconst (v := 2) hx hb dJI_numberOfTrailingZeros_71 (by decide) ?_
            refine lv_iushr (v := ((((nI (2 ^ t0 - 1)).toUInt32 >>> ((4 : Int32).toUInt32 &&& Int32.toUInt32 31)).toInt32).toUInt32 >>> ((2 : Int32).toUInt32 &&& Int32.toUInt32 31)).toInt32) hx hb dJI_numberOfTrailingZeros_72 rfl ?_
            refine lv_istore_n (lv' := [(0, .int (((((nI (2 ^ t0 - 1)).toUInt32 >>> ((4 : Int32).toUInt32 &&& Int32.toUInt32 31)).toInt32).toUInt32 >>> ((2 : Int32).toUInt32 &&& Int32.toUInt32 31)).toInt32)), (1, .int ((1 + 4) + 2))]) hx hb dJI_numberOfTrailingZeros_73 rfl hl (by decide) rfl (fun ls hl => ?_)
            refine lv_iload_n hx hb dJI_numberOfTrailingZeros_74 rfl (lv_at hl 1 rfl) ?_
            refine lv_iload_n hx hb dJI_numberOfTrailingZeros_75 rfl (lv_at hl 0 rfl) ?_
            refine lv_iconst (v := 1) hx hb dJI_numberOfTrailingZeros_76 (by decide) ?_
            refine lv_iushr (v := ((((((nI (2 ^ t0 - 1)).toUInt32 >>> ((4 : Int32).toUInt32 &&& Int32.toUInt32 31)).toInt32).toUInt32 >>> ((2 : Int32).toUInt32 &&& Int32.toUInt32 31)).toInt32).toUInt32 >>> ((1 : Int32).toUInt32 &&& Int32.toUInt32 31)).toInt32) hx hb dJI_numberOfTrailingZeros_77 rfl ?_
            refine lv_iadd hx hb dJI_numberOfTrailingZeros_78 ?_
            exact W.iret (v := ((1 + 4) + 2) + (((((((nI (2 ^ t0 - 1)).toUInt32 >>> ((4 : Int32).toUInt32 &&& Int32.toUInt32 31)).toInt32).toUInt32 >>> ((2 : Int32).toUInt32 &&& Int32.toUInt32 31)).toInt32).toUInt32 >>> ((1 : Int32).toUInt32 &&& Int32.toUInt32 31)).toInt32)) hx hb hr (fun t ht hW => ⟨⟨((1 + 4) + 2) + (((((((nI (2 ^ t0 - 1)).toUInt32 >>> ((4 : Int32).toUInt32 &&& Int32.toUInt32 31)).toInt32).toUInt32 >>> ((2 : Int32).toUInt32 &&& Int32.toUInt32 31)).toInt32).toUInt32 >>> ((1 : Int32).toUInt32 &&& Int32.toUInt32 31)).toInt32), (), rfl, (by decide +kernel : ∀ t0, t0 < 32 → (0 < nI (2 ^ t0 - 1) ∧ (nI (2 ^ t0 - 1)) ≤ 65536 ∧ (nI (2 ^ t0 - 1)) ≤ 256 ∧ ¬ (nI (2 ^ t0 - 1)) ≤ 16 ∧ ¬ (((nI (2 ^ t0 - 1)).toUInt32 >>> ((4 : Int32).toUInt32 &&& Int32.toUInt32 31)).toInt32) ≤ 4) → ((1 + 4) + 2) + (((((((nI (2 ^ t0 - 1)).toUInt32 >>> ((4 : Int32).toUInt32 &&& Int32.toUInt32 31)).toInt32).toUInt32 >>> ((2 : Int32).toUInt32 &&& Int32.toUInt32 31)).toInt32).toUInt32 >>> ((1 : Int32).toUInt32 &&& Int32.toUInt32 31)).toInt32) = nI t0) t0 ht0 ⟨cb_6, cb_7, cb_8, cb_9, cb_11⟩, by rw [ht]; exact hP, va_K.moved hW.alike hK, hD⟩, hS.F ht⟩) hS.2.2 dJI_numberOfTrailingZeros_79
      · refine lv_iinc (v := 1 + 8) (lv' := [(1, .int (1 + 8)), (0, .int (nI (2 ^ t0 - 1)))]) hx hb dJI_numberOfTrailingZeros_41 hl (k := 0) rfl rfl (by decide) rfl (fun ls hl => ?_)
        refine lv_iload_n hx hb dJI_numberOfTrailingZeros_44 rfl (lv_at hl 1 rfl) ?_
        refine lv_bipush (v := 8) hx hb dJI_numberOfTrailingZeros_45 (by decide) ?_
        refine lv_iushr (v := ((nI (2 ^ t0 - 1)).toUInt32 >>> ((8 : Int32).toUInt32 &&& Int32.toUInt32 31)).toInt32) hx hb dJI_numberOfTrailingZeros_47 rfl ?_
        refine lv_istore_n (lv' := [(0, .int (((nI (2 ^ t0 - 1)).toUInt32 >>> ((8 : Int32).toUInt32 &&& Int32.toUInt32 31)).toInt32)), (1, .int (1 + 8))]) hx hb dJI_numberOfTrailingZeros_48 rfl hl (by decide) rfl (fun ls hl => ?_)
        refine lv_iload_n hx hb dJI_numberOfTrailingZeros_49 rfl (lv_at hl 0 rfl) ?_
        refine lv_bipush (v := 16) hx hb dJI_numberOfTrailingZeros_50 (by decide) ?_
        refine lv_icmp_le (tgt := 62) hx hb dJI_numberOfTrailingZeros_52 (by decide) (fun cb_12 => ?_) (fun cb_12 => ?_)
        · refine lv_iload_n hx hb dJI_numberOfTrailingZeros_62 rfl (lv_at hl 0 rfl) ?_
          refine lv_iconst (v := 4) hx hb dJI_numberOfTrailingZeros_63 (by decide) ?_
          refine lv_icmp_le (tgt := 74) hx hb dJI_numberOfTrailingZeros_64 (by decide) (fun cb_13 => ?_) (fun cb_13 => ?_)
          · refine lv_iload_n hx hb dJI_numberOfTrailingZeros_74 rfl (lv_at hl 1 rfl) ?_
            refine lv_iload_n hx hb dJI_numberOfTrailingZeros_75 rfl (lv_at hl 0 rfl) ?_
            refine lv_iconst (v := 1) hx hb dJI_numberOfTrailingZeros_76 (by decide) ?_
            refine lv_iushr (v := ((((nI (2 ^ t0 - 1)).toUInt32 >>> ((8 : Int32).toUInt32 &&& Int32.toUInt32 31)).toInt32).toUInt32 >>> ((1 : Int32).toUInt32 &&& Int32.toUInt32 31)).toInt32) hx hb dJI_numberOfTrailingZeros_77 rfl ?_
            refine lv_iadd hx hb dJI_numberOfTrailingZeros_78 ?_
            exact W.iret (v := (1 + 8) + (((((nI (2 ^ t0 - 1)).toUInt32 >>> ((8 : Int32).toUInt32 &&& Int32.toUInt32 31)).toInt32).toUInt32 >>> ((1 : Int32).toUInt32 &&& Int32.toUInt32 31)).toInt32)) hx hb hr (fun t ht hW => ⟨⟨(1 + 8) + (((((nI (2 ^ t0 - 1)).toUInt32 >>> ((8 : Int32).toUInt32 &&& Int32.toUInt32 31)).toInt32).toUInt32 >>> ((1 : Int32).toUInt32 &&& Int32.toUInt32 31)).toInt32), (), rfl, (by decide +kernel : ∀ t0, t0 < 32 → (0 < nI (2 ^ t0 - 1) ∧ (nI (2 ^ t0 - 1)) ≤ 65536 ∧ ¬ (nI (2 ^ t0 - 1)) ≤ 256 ∧ (((nI (2 ^ t0 - 1)).toUInt32 >>> ((8 : Int32).toUInt32 &&& Int32.toUInt32 31)).toInt32) ≤ 16 ∧ (((nI (2 ^ t0 - 1)).toUInt32 >>> ((8 : Int32).toUInt32 &&& Int32.toUInt32 31)).toInt32) ≤ 4) → (1 + 8) + (((((nI (2 ^ t0 - 1)).toUInt32 >>> ((8 : Int32).toUInt32 &&& Int32.toUInt32 31)).toInt32).toUInt32 >>> ((1 : Int32).toUInt32 &&& Int32.toUInt32 31)).toInt32) = nI t0) t0 ht0 ⟨cb_6, cb_7, cb_8, cb_12, cb_13⟩, by rw [ht]; exact hP, va_K.moved hW.alike hK, hD⟩, hS.F ht⟩) hS.2.2 dJI_numberOfTrailingZeros_79
          · refine lv_iinc (v := (1 + 8) + 2) (lv' := [(1, .int ((1 + 8) + 2)), (0, .int (((nI (2 ^ t0 - 1)).toUInt32 >>> ((8 : Int32).toUInt32 &&& Int32.toUInt32 31)).toInt32))]) hx hb dJI_numberOfTrailingZeros_67 hl (k := 1) rfl rfl (by decide) rfl (fun ls hl => ?_)
            refine lv_iload_n hx hb dJI_numberOfTrailingZeros_70 rfl (lv_at hl 1 rfl) ?_
            refine lv_iconst (v := 2) hx hb dJI_numberOfTrailingZeros_71 (by decide) ?_
            refine lv_iushr (v := ((((nI (2 ^ t0 - 1)).toUInt32 >>> ((8 : Int32).toUInt32 &&& Int32.toUInt32 31)).toInt32).toUInt32 >>> ((2 : Int32).toUInt32 &&& Int32.toUInt32 31)).toInt32) hx hb dJI_numberOfTrailingZeros_72 rfl ?_
            refine lv_istore_n (lv' := [(0, .int (((((nI (2 ^ t0 - 1)).toUInt32 >>> ((8 : Int32).toUInt32 &&& Int32.toUInt32 31)).toInt32).toUInt32 >>> ((2 : Int32).toUInt32 &&& Int32.toUInt32 31)).toInt32)), (1, .int ((1 + 8) + 2))]) hx hb dJI_numberOfTrailingZeros_73 rfl hl (by decide) rfl (fun ls hl => ?_)
            refine lv_iload_n hx hb dJI_numberOfTrailingZeros_74 rfl (lv_at hl 1 rfl) ?_
            refine lv_iload_n hx hb dJI_numberOfTrailingZeros_75 rfl (lv_at hl 0 rfl) ?_
            refine lv_iconst (v := 1) hx hb dJI_numberOfTrailingZeros_76 (by decide) ?_
            refine lv_iushr (v := ((((((nI (2 ^ t0 - 1)).toUInt32 >>> ((8 : Int32).toUInt32 &&& Int32.toUInt32 31)).toInt32).toUInt32 >>> ((2 : Int32).toUInt32 &&& Int32.toUInt32 31)).toInt32).toUInt32 >>> ((1 : Int32).toUInt32 &&& Int32.toUInt32 31)).toInt32) hx hb dJI_numberOfTrailingZeros_77 rfl ?_
            refine lv_iadd hx hb dJI_numberOfTrailingZeros_78 ?_
            exact W.iret (v := ((1 + 8) + 2) + (((((((nI (2 ^ t0 - 1)).toUInt32 >>> ((8 : Int32).toUInt32 &&& Int32.toUInt32 31)).toInt32).toUInt32 >>> ((2 : Int32).toUInt32 &&& Int32.toUInt32 31)).toInt32).toUInt32 >>> ((1 : Int32).toUInt32 &&& Int32.toUInt32 31)).toInt32)) hx hb hr (fun t ht hW => ⟨⟨((1 + 8) + 2) + (((((((nI (2 ^ t0 - 1)).toUInt32 >>> ((8 : Int32).toUInt32 &&& Int32.toUInt32 31)).toInt32).toUInt32 >>> ((2 : Int32).toUInt32 &&& Int32.toUInt32 31)).toInt32).toUInt32 >>> ((1 : Int32).toUInt32 &&& Int32.toUInt32 31)).toInt32), (), rfl, (by decide +kernel : ∀ t0, t0 < 32 → (0 < nI (2 ^ t0 - 1) ∧ (nI (2 ^ t0 - 1)) ≤ 65536 ∧ ¬ (nI (2 ^ t0 - 1)) ≤ 256 ∧ (((nI (2 ^ t0 - 1)).toUInt32 >>> ((8 : Int32).toUInt32 &&& Int32.toUInt32 31)).toInt32) ≤ 16 ∧ ¬ (((nI (2 ^ t0 - 1)).toUInt32 >>> ((8 : Int32).toUInt32 &&& Int32.toUInt32 31)).toInt32) ≤ 4) → ((1 + 8) + 2) + (((((((nI (2 ^ t0 - 1)).toUInt32 >>> ((8 : Int32).toUInt32 &&& Int32.toUInt32 31)).toInt32).toUInt32 >>> ((2 : Int32).toUInt32 &&& Int32.toUInt32 31)).toInt32).toUInt32 >>> ((1 : Int32).toUInt32 &&& Int32.toUInt32 31)).toInt32) = nI t0) t0 ht0 ⟨cb_6, cb_7, cb_8, cb_12, cb_13⟩, by rw [ht]; exact hP, va_K.moved hW.alike hK, hD⟩, hS.F ht⟩) hS.2.2 dJI_numberOfTrailingZeros_79
        · refine lv_iinc (v := (1 + 8) + 4) (lv' := [(1, .int ((1 + 8) + 4)), (0, .int (((nI (2 ^ t0 - 1)).toUInt32 >>> ((8 : Int32).toUInt32 &&& Int32.toUInt32 31)).toInt32))]) hx hb dJI_numberOfTrailingZeros_55 hl (k := 1) rfl rfl (by decide) rfl (fun ls hl => ?_)
          refine lv_iload_n hx hb dJI_numberOfTrailingZeros_58 rfl (lv_at hl 1 rfl) ?_
          refine lv_iconst (v := 4) hx hb dJI_numberOfTrailingZeros_59 (by decide) ?_
          refine lv_iushr (v := ((((nI (2 ^ t0 - 1)).toUInt32 >>> ((8 : Int32).toUInt32 &&& Int32.toUInt32 31)).toInt32).toUInt32 >>> ((4 : Int32).toUInt32 &&& Int32.toUInt32 31)).toInt32) hx hb dJI_numberOfTrailingZeros_60 rfl ?_
          refine lv_istore_n (lv' := [(0, .int (((((nI (2 ^ t0 - 1)).toUInt32 >>> ((8 : Int32).toUInt32 &&& Int32.toUInt32 31)).toInt32).toUInt32 >>> ((4 : Int32).toUInt32 &&& Int32.toUInt32 31)).toInt32)), (1, .int ((1 + 8) + 4))]) hx hb dJI_numberOfTrailingZeros_61 rfl hl (by decide) rfl (fun ls hl => ?_)
          refine lv_iload_n hx hb dJI_numberOfTrailingZeros_62 rfl (lv_at hl 0 rfl) ?_
          refine lv_iconst (v := 4) hx hb dJI_numberOfTrailingZeros_63 (by decide) ?_
          refine lv_icmp_le (tgt := 74) hx hb dJI_numberOfTrailingZeros_64 (by decide) (fun cb_14 => ?_) (fun cb_14 => ?_)
          · refine lv_iload_n hx hb dJI_numberOfTrailingZeros_74 rfl (lv_at hl 1 rfl) ?_
            refine lv_iload_n hx hb dJI_numberOfTrailingZeros_75 rfl (lv_at hl 0 rfl) ?_
            refine lv_iconst (v := 1) hx hb dJI_numberOfTrailingZeros_76 (by decide) ?_
            refine lv_iushr (v := ((((((nI (2 ^ t0 - 1)).toUInt32 >>> ((8 : Int32).toUInt32 &&& Int32.toUInt32 31)).toInt32).toUInt32 >>> ((4 : Int32).toUInt32 &&& Int32.toUInt32 31)).toInt32).toUInt32 >>> ((1 : Int32).toUInt32 &&& Int32.toUInt32 31)).toInt32) hx hb dJI_numberOfTrailingZeros_77 rfl ?_
            refine lv_iadd hx hb dJI_numberOfTrailingZeros_78 ?_
            exact W.iret (v := ((1 + 8) + 4) + (((((((nI (2 ^ t0 - 1)).toUInt32 >>> ((8 : Int32).toUInt32 &&& Int32.toUInt32 31)).toInt32).toUInt32 >>> ((4 : Int32).toUInt32 &&& Int32.toUInt32 31)).toInt32).toUInt32 >>> ((1 : Int32).toUInt32 &&& Int32.toUInt32 31)).toInt32)) hx hb hr (fun t ht hW => ⟨⟨((1 + 8) + 4) + (((((((nI (2 ^ t0 - 1)).toUInt32 >>> ((8 : Int32).toUInt32 &&& Int32.toUInt32 31)).toInt32).toUInt32 >>> ((4 : Int32).toUInt32 &&& Int32.toUInt32 31)).toInt32).toUInt32 >>> ((1 : Int32).toUInt32 &&& Int32.toUInt32 31)).toInt32), (), rfl, (by decide +kernel : ∀ t0, t0 < 32 → (0 < nI (2 ^ t0 - 1) ∧ (nI (2 ^ t0 - 1)) ≤ 65536 ∧ ¬ (nI (2 ^ t0 - 1)) ≤ 256 ∧ ¬ (((nI (2 ^ t0 - 1)).toUInt32 >>> ((8 : Int32).toUInt32 &&& Int32.toUInt32 31)).toInt32) ≤ 16 ∧ (((((nI (2 ^ t0 - 1)).toUInt32 >>> ((8 : Int32).toUInt32 &&& Int32.toUInt32 31)).toInt32).toUInt32 >>> ((4 : Int32).toUInt32 &&& Int32.toUInt32 31)).toInt32) ≤ 4) → ((1 + 8) + 4) + (((((((nI (2 ^ t0 - 1)).toUInt32 >>> ((8 : Int32).toUInt32 &&& Int32.toUInt32 31)).toInt32).toUInt32 >>> ((4 : Int32).toUInt32 &&& Int32.toUInt32 31)).toInt32).toUInt32 >>> ((1 : Int32).toUInt32 &&& Int32.toUInt32 31)).toInt32) = nI t0) t0 ht0 ⟨cb_6, cb_7, cb_8, cb_12, cb_14⟩, by rw [ht]; exact hP, va_K.moved hW.alike hK, hD⟩, hS.F ht⟩) hS.2.2 dJI_numberOfTrailingZeros_79
          · refine lv_iinc (v := ((1 + 8) + 4) + 2) (lv' := [(1, .int (((1 + 8) + 4) + 2)), (0, .int (((((nI (2 ^ t0 - 1)).toUInt32 >>> ((8 : Int32).toUInt32 &&& Int32.toUInt32 31)).toInt32).toUInt32 >>> ((4 : Int32).toUInt32 &&& Int32.toUInt32 31)).toInt32))]) hx hb dJI_numberOfTrailingZeros_67 hl (k := 1) rfl rfl (by decide) rfl (fun ls hl => ?_)
            refine lv_iload_n hx hb dJI_numberOfTrailingZeros_70 rfl (lv_at hl 1 rfl) ?_
            refine lv_iconst (v := 2) hx hb dJI_numberOfTrailingZeros_71 (by decide) ?_
            refine lv_iushr (v := ((((((nI (2 ^ t0 - 1)).toUInt32 >>> ((8 : Int32).toUInt32 &&& Int32.toUInt32 31)).toInt32).toUInt32 >>> ((4 : Int32).toUInt32 &&& Int32.toUInt32 31)).toInt32).toUInt32 >>> ((2 : Int32).toUInt32 &&& Int32.toUInt32 31)).toInt32) hx hb dJI_numberOfTrailingZeros_72 rfl ?_
            refine lv_istore_n (lv' := [(0, .int (((((((nI (2 ^ t0 - 1)).toUInt32 >>> ((8 : Int32).toUInt32 &&& Int32.toUInt32 31)).toInt32).toUInt32 >>> ((4 : Int32).toUInt32 &&& Int32.toUInt32 31)).toInt32).toUInt32 >>> ((2 : Int32).toUInt32 &&& Int32.toUInt32 31)).toInt32)), (1, .int (((1 + 8) + 4) + 2))]) hx hb dJI_numberOfTrailingZeros_73 rfl hl (by decide) rfl (fun ls hl => ?_)
            refine lv_iload_n hx hb dJI_numberOfTrailingZeros_74 rfl (lv_at hl 1 rfl) ?_
            refine lv_iload_n hx hb dJI_numberOfTrailingZeros_75 rfl (lv_at hl 0 rfl) ?_
            refine lv_iconst (v := 1) hx hb dJI_numberOfTrailingZeros_76 (by decide) ?_
            refine lv_iushr (v := ((((((((nI (2 ^ t0 - 1)).toUInt32 >>> ((8 : Int32).toUInt32 &&& Int32.toUInt32 31)).toInt32).toUInt32 >>> ((4 : Int32).toUInt32 &&& Int32.toUInt32 31)).toInt32).toUInt32 >>> ((2 : Int32).toUInt32 &&& Int32.toUInt32 31)).toInt32).toUInt32 >>> ((1 : Int32).toUInt32 &&& Int32.toUInt32 31)).toInt32) hx hb dJI_numberOfTrailingZeros_77 rfl ?_
            refine lv_iadd hx hb dJI_numberOfTrailingZeros_78 ?_
            exact W.iret (v := (((1 + 8) + 4) + 2) + (((((((((nI (2 ^ t0 - 1)).toUInt32 >>> ((8 : Int32).toUInt32 &&& Int32.toUInt32 31)).toInt32).toUInt32 >>> ((4 : Int32).toUInt32 &&& Int32.toUInt32 31)).toInt32).toUInt32 >>> ((2 : Int32).toUInt32 &&& Int32.toUInt32 31)).toInt32).toUInt32 >>> ((1 : Int32).toUInt32 &&& Int32.toUInt32 31)).toInt32)) hx hb hr (fun t ht hW => ⟨⟨(((1 + 8) + 4) + 2) + (((((((((nI (2 ^ t0 - 1)).toUInt32 >>> ((8 : Int32).toUInt32 &&& Int32.toUInt32 31)).toInt32).toUInt32 >>> ((4 : Int32).toUInt32 &&& Int32.toUInt32 31)).toInt32).toUInt32 >>> ((2 : Int32).toUInt32 &&& Int32.toUInt32 31)).toInt32).toUInt32 >>> ((1 : Int32).toUInt32 &&& Int32.toUInt32 31)).toInt32), (), rfl, (by decide +kernel : ∀ t0, t0 < 32 → (0 < nI (2 ^ t0 - 1) ∧ (nI (2 ^ t0 - 1)) ≤ 65536 ∧ ¬ (nI (2 ^ t0 - 1)) ≤ 256 ∧ ¬ (((nI (2 ^ t0 - 1)).toUInt32 >>> ((8 : Int32).toUInt32 &&& Int32.toUInt32 31)).toInt32) ≤ 16 ∧ ¬ (((((nI (2 ^ t0 - 1)).toUInt32 >>> ((8 : Int32).toUInt32 &&& Int32.toUInt32 31)).toInt32).toUInt32 >>> ((4 : Int32).toUInt32 &&& Int32.toUInt32 31)).toInt32) ≤ 4) → (((1 + 8) + 4) + 2) + (((((((((nI (2 ^ t0 - 1)).toUInt32 >>> ((8 : Int32).toUInt32 &&& Int32.toUInt32 31)).toInt32).toUInt32 >>> ((4 : Int32).toUInt32 &&& Int32.toUInt32 31)).toInt32).toUInt32 >>> ((2 : Int32).toUInt32 &&& Int32.toUInt32 31)).toInt32).toUInt32 >>> ((1 : Int32).toUInt32 &&& Int32.toUInt32 31)).toInt32) = nI t0) t0 ht0 ⟨cb_6, cb_7, cb_8, cb_12, cb_14⟩, by rw [ht]; exact hP, va_K.moved hW.alike hK, hD⟩, hS.F ht⟩) hS.2.2 dJI_numberOfTrailingZeros_79
    · refine lv_iinc (v := 1 + 16) (lv' := [(1, .int (1 + 16)), (0, .int (nI (2 ^ t0 - 1)))]) hx hb dJI_numberOfTrailingZeros_26 hl (k := 0) rfl rfl (by decide) rfl (fun ls hl => ?_)
      refine lv_iload_n hx hb dJI_numberOfTrailingZeros_29 rfl (lv_at hl 1 rfl) ?_
      refine lv_bipush (v := 16) hx hb dJI_numberOfTrailingZeros_30 (by decide) ?_
      refine lv_iushr (v := ((nI (2 ^ t0 - 1)).toUInt32 >>> ((16 : Int32).toUInt32 &&& Int32.toUInt32 31)).toInt32) hx hb dJI_numberOfTrailingZeros_32 rfl ?_
      refine lv_istore_n (lv' := [(0, .int (((nI (2 ^ t0 - 1)).toUInt32 >>> ((16 : Int32).toUInt32 &&& Int32.toUInt32 31)).toInt32)), (1, .int (1 + 16))]) hx hb dJI_numberOfTrailingZeros_33 rfl hl (by decide) rfl (fun ls hl => ?_)
      refine lv_iload_n hx hb dJI_numberOfTrailingZeros_34 rfl (lv_at hl 0 rfl) ?_
      refine lv_sipush (v := 256) hx hb dJI_numberOfTrailingZeros_35 (by decide) ?_
      refine lv_icmp_le (tgt := 49) hx hb dJI_numberOfTrailingZeros_38 (by decide) (fun cb_15 => ?_) (fun cb_15 => ?_)
      · refine lv_iload_n hx hb dJI_numberOfTrailingZeros_49 rfl (lv_at hl 0 rfl) ?_
        refine lv_bipush (v := 16) hx hb dJI_numberOfTrailingZeros_50 (by decide) ?_
        refine lv_icmp_le (tgt := 62) hx hb dJI_numberOfTrailingZeros_52 (by decide) (fun cb_16 => ?_) (fun cb_16 => ?_)
        · refine lv_iload_n hx hb dJI_numberOfTrailingZeros_62 rfl (lv_at hl 0 rfl) ?_
          refine lv_iconst (v := 4) hx hb dJI_numberOfTrailingZeros_63 (by decide) ?_
          refine lv_icmp_le (tgt := 74) hx hb dJI_numberOfTrailingZeros_64 (by decide) (fun cb_17 => ?_) (fun cb_17 => ?_)
          · refine lv_iload_n hx hb dJI_numberOfTrailingZeros_74 rfl (lv_at hl 1 rfl) ?_
            refine lv_iload_n hx hb dJI_numberOfTrailingZeros_75 rfl (lv_at hl 0 rfl) ?_
            refine lv_iconst (v := 1) hx hb dJI_numberOfTrailingZeros_76 (by decide) ?_
            refine lv_iushr (v := ((((nI (2 ^ t0 - 1)).toUInt32 >>> ((16 : Int32).toUInt32 &&& Int32.toUInt32 31)).toInt32).toUInt32 >>> ((1 : Int32).toUInt32 &&& Int32.toUInt32 31)).toInt32) hx hb dJI_numberOfTrailingZeros_77 rfl ?_
            refine lv_iadd hx hb dJI_numberOfTrailingZeros_78 ?_
            exact W.iret (v := (1 + 16) + (((((nI (2 ^ t0 - 1)).toUInt32 >>> ((16 : Int32).toUInt32 &&& Int32.toUInt32 31)).toInt32).toUInt32 >>> ((1 : Int32).toUInt32 &&& Int32.toUInt32 31)).toInt32)) hx hb hr (fun t ht hW => ⟨⟨(1 + 16) + (((((nI (2 ^ t0 - 1)).toUInt32 >>> ((16 : Int32).toUInt32 &&& Int32.toUInt32 31)).toInt32).toUInt32 >>> ((1 : Int32).toUInt32 &&& Int32.toUInt32 31)).toInt32), (), rfl, (by decide +kernel : ∀ t0, t0 < 32 → (0 < nI (2 ^ t0 - 1) ∧ ¬ (nI (2 ^ t0 - 1)) ≤ 65536 ∧ (((nI (2 ^ t0 - 1)).toUInt32 >>> ((16 : Int32).toUInt32 &&& Int32.toUInt32 31)).toInt32) ≤ 256 ∧ (((nI (2 ^ t0 - 1)).toUInt32 >>> ((16 : Int32).toUInt32 &&& Int32.toUInt32 31)).toInt32) ≤ 16 ∧ (((nI (2 ^ t0 - 1)).toUInt32 >>> ((16 : Int32).toUInt32 &&& Int32.toUInt32 31)).toInt32) ≤ 4) → (1 + 16) + (((((nI (2 ^ t0 - 1)).toUInt32 >>> ((16 : Int32).toUInt32 &&& Int32.toUInt32 31)).toInt32).toUInt32 >>> ((1 : Int32).toUInt32 &&& Int32.toUInt32 31)).toInt32) = nI t0) t0 ht0 ⟨cb_6, cb_7, cb_15, cb_16, cb_17⟩, by rw [ht]; exact hP, va_K.moved hW.alike hK, hD⟩, hS.F ht⟩) hS.2.2 dJI_numberOfTrailingZeros_79
          · refine lv_iinc (v := (1 + 16) + 2) (lv' := [(1, .int ((1 + 16) + 2)), (0, .int (((nI (2 ^ t0 - 1)).toUInt32 >>> ((16 : Int32).toUInt32 &&& Int32.toUInt32 31)).toInt32))]) hx hb dJI_numberOfTrailingZeros_67 hl (k := 1) rfl rfl (by decide) rfl (fun ls hl => ?_)
            refine lv_iload_n hx hb dJI_numberOfTrailingZeros_70 rfl (lv_at hl 1 rfl) ?_
            refine lv_iconst (v := 2) hx hb dJI_numberOfTrailingZeros_71 (by decide) ?_
            refine lv_iushr (v := ((((nI (2 ^ t0 - 1)).toUInt32 >>> ((16 : Int32).toUInt32 &&& Int32.toUInt32 31)).toInt32).toUInt32 >>> ((2 : Int32).toUInt32 &&& Int32.toUInt32 31)).toInt32) hx hb dJI_numberOfTrailingZeros_72 rfl ?_
            refine lv_istore_n (lv' := [(0, .int (((((nI (2 ^ t0 - 1)).toUInt32 >>> ((16 : Int32).toUInt32 &&& Int32.toUInt32 31)).toInt32).toUInt32 >>> ((2 : Int32).toUInt32 &&& Int32.toUInt32 31)).toInt32)), (1, .int ((1 + 16) + 2))]) hx hb dJI_numberOfTrailingZeros_73 rfl hl (by decide) rfl (fun ls hl => ?_)
            refine lv_iload_n hx hb dJI_numberOfTrailingZeros_74 rfl (lv_at hl 1 rfl) ?_
            refine lv_iload_n hx hb dJI_numberOfTrailingZeros_75 rfl (lv_at hl 0 rfl) ?_
            refine lv_iconst (v := 1) hx hb dJI_numberOfTrailingZeros_76 (by decide) ?_
            refine lv_iushr (v := ((((((nI (2 ^ t0 - 1)).toUInt32 >>> ((16 : Int32).toUInt32 &&& Int32.toUInt32 31)).toInt32).toUInt32 >>> ((2 : Int32).toUInt32 &&& Int32.toUInt32 31)).toInt32).toUInt32 >>> ((1 : Int32).toUInt32 &&& Int32.toUInt32 31)).toInt32) hx hb dJI_numberOfTrailingZeros_77 rfl ?_
            refine lv_iadd hx hb dJI_numberOfTrailingZeros_78 ?_
            exact W.iret (v := ((1 + 16) + 2) + (((((((nI (2 ^ t0 - 1)).toUInt32 >>> ((16 : Int32).toUInt32 &&& Int32.toUInt32 31)).toInt32).toUInt32 >>> ((2 : Int32).toUInt32 &&& Int32.toUInt32 31)).toInt32).toUInt32 >>> ((1 : Int32).toUInt32 &&& Int32.toUInt32 31)).toInt32)) hx hb hr (fun t ht hW => ⟨⟨((1 + 16) + 2) + (((((((nI (2 ^ t0 - 1)).toUInt32 >>> ((16 : Int32).toUInt32 &&& Int32.toUInt32 31)).toInt32).toUInt32 >>> ((2 : Int32).toUInt32 &&& Int32.toUInt32 31)).toInt32).toUInt32 >>> ((1 : Int32).toUInt32 &&& Int32.toUInt32 31)).toInt32), (), rfl, (by decide +kernel : ∀ t0, t0 < 32 → (0 < nI (2 ^ t0 - 1) ∧ ¬ (nI (2 ^ t0 - 1)) ≤ 65536 ∧ (((nI (2 ^ t0 - 1)).toUInt32 >>> ((16 : Int32).toUInt32 &&& Int32.toUInt32 31)).toInt32) ≤ 256 ∧ (((nI (2 ^ t0 - 1)).toUInt32 >>> ((16 : Int32).toUInt32 &&& Int32.toUInt32 31)).toInt32) ≤ 16 ∧ ¬ (((nI (2 ^ t0 - 1)).toUInt32 >>> ((16 : Int32).toUInt32 &&& Int32.toUInt32 31)).toInt32) ≤ 4) → ((1 + 16) + 2) + (((((((nI (2 ^ t0 - 1)).toUInt32 >>> ((16 : Int32).toUInt32 &&& Int32.toUInt32 31)).toInt32).toUInt32 >>> ((2 : Int32).toUInt32 &&& Int32.toUInt32 31)).toInt32).toUInt32 >>> ((1 : Int32).toUInt32 &&& Int32.toUInt32 31)).toInt32) = nI t0) t0 ht0 ⟨cb_6, cb_7, cb_15, cb_16, cb_17⟩, by rw [ht]; exact hP, va_K.moved hW.alike hK, hD⟩, hS.F ht⟩) hS.2.2 dJI_numberOfTrailingZeros_79
        · refine lv_iinc (v := (1 + 16) + 4) (lv' := [(1, .int ((1 + 16) + 4)), (0, .int (((nI (2 ^ t0 - 1)).toUInt32 >>> ((16 : Int32).toUInt32 &&& Int32.toUInt32 31)).toInt32))]) hx hb dJI_numberOfTrailingZeros_55 hl (k := 1) rfl rfl (by decide) rfl (fun ls hl => ?_)
          refine lv_iload_n hx hb dJI_numberOfTrailingZeros_58 rfl (lv_at hl 1 rfl) ?_
          refine lv_iconst (v := 4) hx hb dJI_numberOfTrailingZeros_59 (by decide) ?_
          refine lv_iushr (v := ((((nI (2 ^ t0 - 1)).toUInt32 >>> ((16 : Int32).toUInt32 &&& Int32.toUInt32 31)).toInt32).toUInt32 >>> ((4 : Int32).toUInt32 &&& Int32.toUInt32 31)).toInt32) hx hb dJI_numberOfTrailingZeros_60 rfl ?_
          refine lv_istore_n (lv' := [(0, .int (((((nI (2 ^ t0 - 1)).toUInt32 >>> ((16 : Int32).toUInt32 &&& Int32.toUInt32 31)).toInt32).toUInt32 >>> ((4 : Int32).toUInt32 &&& Int32.toUInt32 31)).toInt32)), (1, .int ((1 + 16) + 4))]) hx hb dJI_numberOfTrailingZeros_61 rfl hl (by decide) rfl (fun ls hl => ?_)
          refine lv_iload_n hx hb dJI_numberOfTrailingZeros_62 rfl (lv_at hl 0 rfl) ?_
          refine lv_iconst (v := 4) hx hb dJI_numberOfTrailingZeros_63 (by decide) ?_
          refine lv_icmp_le (tgt := 74) hx hb dJI_numberOfTrailingZeros_64 (by decide) (fun cb_18 => ?_) (fun cb_18 => ?_)
          · refine lv_iload_n hx hb dJI_numberOfTrailingZeros_74 rfl (lv_at hl 1 rfl) ?_
            refine lv_iload_n hx hb dJI_numberOfTrailingZeros_75 rfl (lv_at hl 0 rfl) ?_
            refine lv_iconst (v := 1) hx hb dJI_numberOfTrailingZeros_76 (by decide) ?_
            refine lv_iushr (v := ((((((nI (2 ^ t0 - 1)).toUInt32 >>> ((16 : Int32).toUInt32 &&& Int32.toUInt32 31)).toInt32).toUInt32 >>> ((4 : Int32).toUInt32 &&& Int32.toUInt32 31)).toInt32).toUInt32 >>> ((1 : Int32).toUInt32 &&& Int32.toUInt32 31)).toInt32) hx hb dJI_numberOfTrailingZeros_77 rfl ?_
            refine lv_iadd hx hb dJI_numberOfTrailingZeros_78 ?_
            exact W.iret (v := ((1 + 16) + 4) + (((((((nI (2 ^ t0 - 1)).toUInt32 >>> ((16 : Int32).toUInt32 &&& Int32.toUInt32 31)).toInt32).toUInt32 >>> ((4 : Int32).toUInt32 &&& Int32.toUInt32 31)).toInt32).toUInt32 >>> ((1 : Int32).toUInt32 &&& Int32.toUInt32 31)).toInt32)) hx hb hr (fun t ht hW => ⟨⟨((1 + 16) + 4) + (((((((nI (2 ^ t0 - 1)).toUInt32 >>> ((16 : Int32).toUInt32 &&& Int32.toUInt32 31)).toInt32).toUInt32 >>> ((4 : Int32).toUInt32 &&& Int32.toUInt32 31)).toInt32).toUInt32 >>> ((1 : Int32).toUInt32 &&& Int32.toUInt32 31)).toInt32), (), rfl, (by decide +kernel : ∀ t0, t0 < 32 → (0 < nI (2 ^ t0 - 1) ∧ ¬ (nI (2 ^ t0 - 1)) ≤ 65536 ∧ (((nI (2 ^ t0 - 1)).toUInt32 >>> ((16 : Int32).toUInt32 &&& Int32.toUInt32 31)).toInt32) ≤ 256 ∧ ¬ (((nI (2 ^ t0 - 1)).toUInt32 >>> ((16 : Int32).toUInt32 &&& Int32.toUInt32 31)).toInt32) ≤ 16 ∧ (((((nI (2 ^ t0 - 1)).toUInt32 >>> ((16 : Int32).toUInt32 &&& Int32.toUInt32 31)).toInt32).toUInt32 >>> ((4 : Int32).toUInt32 &&& Int32.toUInt32 31)).toInt32) ≤ 4) → ((1 + 16) + 4) + (((((((nI (2 ^ t0 - 1)).toUInt32 >>> ((16 : Int32).toUInt32 &&& Int32.toUInt32 31)).toInt32).toUInt32 >>> ((4 : Int32).toUInt32 &&& Int32.toUInt32 31)).toInt32).toUInt32 >>> ((1 : Int32).toUInt32 &&& Int32.toUInt32 31)).toInt32) = nI t0) t0 ht0 ⟨cb_6, cb_7, cb_15, cb_16, cb_18⟩, by rw [ht]; exact hP, va_K.moved hW.alike hK, hD⟩, hS.F ht⟩) hS.2.2 dJI_numberOfTrailingZeros_79
          · refine lv_iinc (v := ((1 + 16) + 4) + 2) (lv' := [(1, .int (((1 + 16) + 4) + 2)), (0, .int (((((nI (2 ^ t0 - 1)).toUInt32 >>> ((16 : Int32).toUInt32 &&& Int32.toUInt32 31)).toInt32).toUInt32 >>> ((4 : Int32).toUInt32 &&& Int32.toUInt32 31)).toInt32))]) hx hb dJI_numberOfTrailingZeros_67 hl (k := 1) rfl rfl (by decide) rfl (fun ls hl => ?_)
            refine lv_iload_n hx hb dJI_numberOfTrailingZeros_70 rfl (lv_at hl 1 rfl) ?_
            refine lv_iconst (v := 2) hx hb dJI_numberOfTrailingZeros_71 (by decide) ?_
            refine lv_iushr (v := ((((((nI (2 ^ t0 - 1)).toUInt32 >>> ((16 : Int32).toUInt32 &&& Int32.toUInt32 31)).toInt32).toUInt32 >>> ((4 : Int32).toUInt32 &&& Int32.toUInt32 31)).toInt32).toUInt32 >>> ((2 : Int32).toUInt32 &&& Int32.toUInt32 31)).toInt32) hx hb dJI_numberOfTrailingZeros_72 rfl ?_
            refine lv_istore_n (lv' := [(0, .int (((((((nI (2 ^ t0 - 1)).toUInt32 >>> ((16 : Int32).toUInt32 &&& Int32.toUInt32 31)).toInt32).toUInt32 >>> ((4 : Int32).toUInt32 &&& Int32.toUInt32 31)).toInt32).toUInt32 >>> ((2 : Int32).toUInt32 &&& Int32.toUInt32 31)).toInt32)), (1, .int (((1 + 16) + 4) + 2))]) hx hb dJI_numberOfTrailingZeros_73 rfl hl (by decide) rfl (fun ls hl => ?_)
            refine lv_iload_n hx hb dJI_numberOfTrailingZeros_74 rfl (lv_at hl 1 rfl) ?_
            refine lv_iload_n hx hb dJI_numberOfTrailingZeros_75 rfl (lv_at hl 0 rfl) ?_
            refine lv_iconst (v := 1) hx hb dJI_numberOfTrailingZeros_76 (by decide) ?_
            refine lv_iushr (v := ((((((((nI (2 ^ t0 - 1)).toUInt32 >>> ((16 : Int32).toUInt32 &&& Int32.toUInt32 31)).toInt32).toUInt32 >>> ((4 : Int32).toUInt32 &&& Int32.toUInt32 31)).toInt32).toUInt32 >>> ((2 : Int32).toUInt32 &&& Int32.toUInt32 31)).toInt32).toUInt32 >>> ((1 : Int32).toUInt32 &&& Int32.toUInt32 31)).toInt32) hx hb dJI_numberOfTrailingZeros_77 rfl ?_
            refine lv_iadd hx hb dJI_numberOfTrailingZeros_78 ?_
            exact W.iret (v := (((1 + 16) + 4) + 2) + (((((((((nI (2 ^ t0 - 1)).toUInt32 >>> ((16 : Int32).toUInt32 &&& Int32.toUInt32 31)).toInt32).toUInt32 >>> ((4 : Int32).toUInt32 &&& Int32.toUInt32 31)).toInt32).toUInt32 >>> ((2 : Int32).toUInt32 &&& Int32.toUInt32 31)).toInt32).toUInt32 >>> ((1 : Int32).toUInt32 &&& Int32.toUInt32 31)).toInt32)) hx hb hr (fun t ht hW => ⟨⟨(((1 + 16) + 4) + 2) + (((((((((nI (2 ^ t0 - 1)).toUInt32 >>> ((16 : Int32).toUInt32 &&& Int32.toUInt32 31)).toInt32).toUInt32 >>> ((4 : Int32).toUInt32 &&& Int32.toUInt32 31)).toInt32).toUInt32 >>> ((2 : Int32).toUInt32 &&& Int32.toUInt32 31)).toInt32).toUInt32 >>> ((1 : Int32).toUInt32 &&& Int32.toUInt32 31)).toInt32), (), rfl, (by decide +kernel : ∀ t0, t0 < 32 → (0 < nI (2 ^ t0 - 1) ∧ ¬ (nI (2 ^ t0 - 1)) ≤ 65536 ∧ (((nI (2 ^ t0 - 1)).toUInt32 >>> ((16 : Int32).toUInt32 &&& Int32.toUInt32 31)).toInt32) ≤ 256 ∧ ¬ (((nI (2 ^ t0 - 1)).toUInt32 >>> ((16 : Int32).toUInt32 &&& Int32.toUInt32 31)).toInt32) ≤ 16 ∧ ¬ (((((nI (2 ^ t0 - 1)).toUInt32 >>> ((16 : Int32).toUInt32 &&& Int32.toUInt32 31)).toInt32).toUInt32 >>> ((4 : Int32).toUInt32 &&& Int32.toUInt32 31)).toInt32) ≤ 4) → (((1 + 16) + 4) + 2) + (((((((((nI (2 ^ t0 - 1)).toUInt32 >>> ((16 : Int32).toUInt32 &&& Int32.toUInt32 31)).toInt32).toUInt32 >>> ((4 : Int32).toUInt32 &&& Int32.toUInt32 31)).toInt32).toUInt32 >>> ((2 : Int32).toUInt32 &&& Int32.toUInt32 31)).toInt32).toUInt32 >>> ((1 : Int32).toUInt32 &&& Int32.toUInt32 31)).toInt32) = nI t0) t0 ht0 ⟨cb_6, cb_7, cb_15, cb_16, cb_18⟩, by rw [ht]; exact hP, va_K.moved hW.alike hK, hD⟩, hS.F ht⟩) hS.2.2 dJI_numberOfTrailingZeros_79
      · refine lv_iinc (v := (1 + 16) + 8) (lv' := [(1, .int ((1 + 16) + 8)), (0, .int (((nI (2 ^ t0 - 1)).toUInt32 >>> ((16 : Int32).toUInt32 &&& Int32.toUInt32 31)).toInt32))]) hx hb dJI_numberOfTrailingZeros_41 hl (k := 1) rfl rfl (by decide) rfl (fun ls hl => ?_)
        refine lv_iload_n hx hb dJI_numberOfTrailingZeros_44 rfl (lv_at hl 1 rfl) ?_
        refine lv_bipush (v := 8) hx hb dJI_numberOfTrailingZeros_45 (by decide) ?_
        refine lv_iushr (v := ((((nI (2 ^ t0 - 1)).toUInt32 >>> ((16 : Int32).toUInt32 &&& Int32.toUInt32 31)).toInt32).toUInt32 >>> ((8 : Int32).toUInt32 &&& Int32.toUInt32 31)).toInt32) hx hb dJI_numberOfTrailingZeros_47 rfl ?_
        refine lv_istore_n (lv' := [(0, .int (((((nI (2 ^ t0 - 1)).toUInt32 >>> ((16 : Int32).toUInt32 &&& Int32.toUInt32 31)).toInt32).toUInt32 >>> ((8 : Int32).toUInt32 &&& Int32.toUInt32 31)).toInt32)), (1, .int ((1 + 16) + 8))]) hx hb dJI_numberOfTrailingZeros_48 rfl hl (by decide) rfl (fun ls hl => ?_)
        refine lv_iload_n hx hb dJI_numberOfTrailingZeros_49 rfl (lv_at hl 0 rfl) ?_
        refine lv_bipush (v := 16) hx hb dJI_numberOfTrailingZeros_50 (by decide) ?_
        refine lv_icmp_le (tgt := 62) hx hb dJI_numberOfTrailingZeros_52 (by decide) (fun cb_19 => ?_) (fun cb_19 => ?_)
        · refine lv_iload_n hx hb dJI_numberOfTrailingZeros_62 rfl (lv_at hl 0 rfl) ?_
          refine lv_iconst (v := 4) hx hb dJI_numberOfTrailingZeros_63 (by decide) ?_
          refine lv_icmp_le (tgt := 74) hx hb dJI_numberOfTrailingZeros_64 (by decide) (fun cb_20 => ?_) (fun cb_20 => ?_)
          · refine lv_iload_n hx hb dJI_numberOfTrailingZeros_74 rfl (lv_at hl 1 rfl) ?_
            refine lv_iload_n hx hb dJI_numberOfTrailingZeros_75 rfl (lv_at hl 0 rfl) ?_
            refine lv_iconst (v := 1) hx hb dJI_numberOfTrailingZeros_76 (by decide) ?_
            refine lv_iushr (v := ((((((nI (2 ^ t0 - 1)).toUInt32 >>> ((16 : Int32).toUInt32 &&& Int32.toUInt32 31)).toInt32).toUInt32 >>> ((8 : Int32).toUInt32 &&& Int32.toUInt32 31)).toInt32).toUInt32 >>> ((1 : Int32).toUInt32 &&& Int32.toUInt32 31)).toInt32) hx hb dJI_numberOfTrailingZeros_77 rfl ?_
            refine lv_iadd hx hb dJI_numberOfTrailingZeros_78 ?_
            exact W.iret (v := ((1 + 16) + 8) + (((((((nI (2 ^ t0 - 1)).toUInt32 >>> ((16 : Int32).toUInt32 &&& Int32.toUInt32 31)).toInt32).toUInt32 >>> ((8 : Int32).toUInt32 &&& Int32.toUInt32 31)).toInt32).toUInt32 >>> ((1 : Int32).toUInt32 &&& Int32.toUInt32 31)).toInt32)) hx hb hr (fun t ht hW => ⟨⟨((1 + 16) + 8) + (((((((nI (2 ^ t0 - 1)).toUInt32 >>> ((16 : Int32).toUInt32 &&& Int32.toUInt32 31)).toInt32).toUInt32 >>> ((8 : Int32).toUInt32 &&& Int32.toUInt32 31)).toInt32).toUInt32 >>> ((1 : Int32).toUInt32 &&& Int32.toUInt32 31)).toInt32), (), rfl, (by decide +kernel : ∀ t0, t0 < 32 → (0 < nI (2 ^ t0 - 1) ∧ ¬ (nI (2 ^ t0 - 1)) ≤ 65536 ∧ ¬ (((nI (2 ^ t0 - 1)).toUInt32 >>> ((16 : Int32).toUInt32 &&& Int32.toUInt32 31)).toInt32) ≤ 256 ∧ (((((nI (2 ^ t0 - 1)).toUInt32 >>> ((16 : Int32).toUInt32 &&& Int32.toUInt32 31)).toInt32).toUInt32 >>> ((8 : Int32).toUInt32 &&& Int32.toUInt32 31)).toInt32) ≤ 16 ∧ (((((nI (2 ^ t0 - 1)).toUInt32 >>> ((16 : Int32).toUInt32 &&& Int32.toUInt32 31)).toInt32).toUInt32 >>> ((8 : Int32).toUInt32 &&& Int32.toUInt32 31)).toInt32) ≤ 4) → ((1 + 16) + 8) + (((((((nI (2 ^ t0 - 1)).toUInt32 >>> ((16 : Int32).toUInt32 &&& Int32.toUInt32 31)).toInt32).toUInt32 >>> ((8 : Int32).toUInt32 &&& Int32.toUInt32 31)).toInt32).toUInt32 >>> ((1 : Int32).toUInt32 &&& Int32.toUInt32 31)).toInt32) = nI t0) t0 ht0 ⟨cb_6, cb_7, cb_15, cb_19, cb_20⟩, by rw [ht]; exact hP, va_K.moved hW.alike hK, hD⟩, hS.F ht⟩) hS.2.2 dJI_numberOfTrailingZeros_79
          · refine lv_iinc (v := ((1 + 16) + 8) + 2) (lv' := [(1, .int (((1 + 16) + 8) + 2)), (0, .int (((((nI (2 ^ t0 - 1)).toUInt32 >>> ((16 : Int32).toUInt32 &&& Int32.toUInt32 31)).toInt32).toUInt32 >>> ((8 : Int32).toUInt32 &&& Int32.toUInt32 31)).toInt32))]) hx hb dJI_numberOfTrailingZeros_67 hl (k := 1) rfl rfl (by decide) rfl (fun ls hl => ?_)
            refine lv_iload_n hx hb dJI_numberOfTrailingZeros_70 rfl (lv_at hl 1 rfl) ?_
            refine lv_iconst (v := 2) hx hb dJI_numberOfTrailingZeros_71 (by decide) ?_
            refine lv_iushr (v := ((((((nI (2 ^ t0 - 1)).toUInt32 >>> ((16 : Int32).toUInt32 &&& Int32.toUInt32 31)).toInt32).toUInt32 >>> ((8 : Int32).toUInt32 &&& Int32.toUInt32 31)).toInt32).toUInt32 >>> ((2 : Int32).toUInt32 &&& Int32.toUInt32 31)).toInt32) hx hb dJI_numberOfTrailingZeros_72 rfl ?_
            refine lv_istore_n (lv' := [(0, .int (((((((nI (2 ^ t0 - 1)).toUInt32 >>> ((16 : Int32).toUInt32 &&& Int32.toUInt32 31)).toInt32).toUInt32 >>> ((8 : Int32).toUInt32 &&& Int32.toUInt32 31)).toInt32).toUInt32 >>> ((2 : Int32).toUInt32 &&& Int32.toUInt32 31)).toInt32)), (1, .int (((1 + 16) + 8) + 2))]) hx hb dJI_numberOfTrailingZeros_73 rfl hl (by decide) rfl (fun ls hl => ?_)
            refine lv_iload_n hx hb dJI_numberOfTrailingZeros_74 rfl (lv_at hl 1 rfl) ?_
            refine lv_iload_n hx hb dJI_numberOfTrailingZeros_75 rfl (lv_at hl 0 rfl) ?_
            refine lv_iconst (v := 1) hx hb dJI_numberOfTrailingZeros_76 (by decide) ?_
            refine lv_iushr (v := ((((((((nI (2 ^ t0 - 1)).toUInt32 >>> ((16 : Int32).toUInt32 &&& Int32.toUInt32 31)).toInt32).toUInt32 >>> ((8 : Int32).toUInt32 &&& Int32.toUInt32 31)).toInt32).toUInt32 >>> ((2 : Int32).toUInt32 &&& Int32.toUInt32 31)).toInt32).toUInt32 >>> ((1 : Int32).toUInt32 &&& Int32.toUInt32 31)).toInt32) hx hb dJI_numberOfTrailingZeros_77 rfl ?_
            refine lv_iadd hx hb dJI_numberOfTrailingZeros_78 ?_
            exact W.iret (v := (((1 + 16) + 8) + 2) + (((((((((nI (2 ^ t0 - 1)).toUInt32 >>> ((16 : Int32).toUInt32 &&& Int32.toUInt32 31)).toInt32).toUInt32 >>> ((8 : Int32).toUInt32 &&& Int32.toUInt32 31)).toInt32).toUInt32 >>> ((2 : Int32).toUInt32 &&& Int32.toUInt32 31)).toInt32).toUInt32 >>> ((1 : Int32).toUInt32 &&& Int32.toUInt32 31)).toInt32)) hx hb hr (fun t ht hW => ⟨⟨(((1 + 16) + 8) + 2) + (((((((((nI (2 ^ t0 - 1)).toUInt32 >>> ((16 : Int32).toUInt32 &&& Int32.toUInt32 31)).toInt32).toUInt32 >>> ((8 : Int32).toUInt32 &&& Int32.toUInt32 31)).toInt32).toUInt32 >>> ((2 : Int32).toUInt32 &&& Int32.toUInt32 31)).toInt32).toUInt32 >>> ((1 : Int32).toUInt32 &&& Int32.toUInt32 31)).toInt32), (), rfl, (by decide +kernel : ∀ t0, t0 < 32 → (0 < nI (2 ^ t0 - 1) ∧ ¬ (nI (2 ^ t0 - 1)) ≤ 65536 ∧ ¬ (((nI (2 ^ t0 - 1)).toUInt32 >>> ((16 : Int32).toUInt32 &&& Int32.toUInt32 31)).toInt32) ≤ 256 ∧ (((((nI (2 ^ t0 - 1)).toUInt32 >>> ((16 : Int32).toUInt32 &&& Int32.toUInt32 31)).toInt32).toUInt32 >>> ((8 : Int32).toUInt32 &&& Int32.toUInt32 31)).toInt32) ≤ 16 ∧ ¬ (((((nI (2 ^ t0 - 1)).toUInt32 >>> ((16 : Int32).toUInt32 &&& Int32.toUInt32 31)).toInt32).toUInt32 >>> ((8 : Int32).toUInt32 &&& Int32.toUInt32 31)).toInt32) ≤ 4) → (((1 + 16) + 8) + 2) + (((((((((nI (2 ^ t0 - 1)).toUInt32 >>> ((16 : Int32).toUInt32 &&& Int32.toUInt32 31)).toInt32).toUInt32 >>> ((8 : Int32).toUInt32 &&& Int32.toUInt32 31)).toInt32).toUInt32 >>> ((2 : Int32).toUInt32 &&& Int32.toUInt32 31)).toInt32).toUInt32 >>> ((1 : Int32).toUInt32 &&& Int32.toUInt32 31)).toInt32) = nI t0) t0 ht0 ⟨cb_6, cb_7, cb_15, cb_19, cb_20⟩, by rw [ht]; exact hP, va_K.moved hW.alike hK, hD⟩, hS.F ht⟩) hS.2.2 dJI_numberOfTrailingZeros_79
        · refine lv_iinc (v := ((1 + 16) + 8) + 4) (lv' := [(1, .int (((1 + 16) + 8) + 4)), (0, .int (((((nI (2 ^ t0 - 1)).toUInt32 >>> ((16 : Int32).toUInt32 &&& Int32.toUInt32 31)).toInt32).toUInt32 >>> ((8 : Int32).toUInt32 &&& Int32.toUInt32 31)).toInt32))]) hx hb dJI_numberOfTrailingZeros_55 hl (k := 1) rfl rfl (by decide) rfl (fun ls hl => ?_)
          refine lv_iload_n hx hb dJI_numberOfTrailingZeros_58 rfl (lv_at hl 1 rfl) ?_
          refine lv_iconst (v := 4) hx hb dJI_numberOfTrailingZeros_59 (by decide) ?_
          refine lv_iushr (v := ((((((nI (2 ^ t0 - 1)).toUInt32 >>> ((16 : Int32).toUInt32 &&& Int32.toUInt32 31)).toInt32).toUInt32 >>> ((8 : Int32).toUInt32 &&& Int32.toUInt32 31)).toInt32).toUInt32 >>> ((4 : Int32).toUInt32 &&& Int32.toUInt32 31)).toInt32) hx hb dJI_numberOfTrailingZeros_60 rfl ?_
          refine lv_istore_n (lv' := [(0, .int (((((((nI (2 ^ t0 - 1)).toUInt32 >>> ((16 : Int32).toUInt32 &&& Int32.toUInt32 31)).toInt32).toUInt32 >>> ((8 : Int32).toUInt32 &&& Int32.toUInt32 31)).toInt32).toUInt32 >>> ((4 : Int32).toUInt32 &&& Int32.toUInt32 31)).toInt32)), (1, .int (((1 + 16) + 8) + 4))]) hx hb dJI_numberOfTrailingZeros_61 rfl hl (by decide) rfl (fun ls hl => ?_)
          refine lv_iload_n hx hb dJI_numberOfTrailingZeros_62 rfl (lv_at hl 0 rfl) ?_
          refine lv_iconst (v := 4) hx hb dJI_numberOfTrailingZeros_63 (by decide) ?_
          refine lv_icmp_le (tgt := 74) hx hb dJI_numberOfTrailingZeros_64 (by decide) (fun cb_21 => ?_) (fun cb_21 => ?_)
          · refine lv_iload_n hx hb dJI_numberOfTrailingZeros_74 rfl (lv_at hl 1 rfl) ?_
            refine lv_iload_n hx hb dJI_numberOfTrailingZeros_75 rfl (lv_at hl 0 rfl) ?_
            refine lv_iconst (v := 1) hx hb dJI_numberOfTrailingZeros_76 (by decide) ?_
            refine lv_iushr (v := ((((((((nI (2 ^ t0 - 1)).toUInt32 >>> ((16 : Int32).toUInt32 &&& Int32.toUInt32 31)).toInt32).toUInt32 >>> ((8 : Int32).toUInt32 &&& Int32.toUInt32 31)).toInt32).toUInt32 >>> ((4 : Int32).toUInt32 &&& Int32.toUInt32 31)).toInt32).toUInt32 >>> ((1 : Int32).toUInt32 &&& Int32.toUInt32 31)).toInt32) hx hb dJI_numberOfTrailingZeros_77 rfl ?_
            refine lv_iadd hx hb dJI_numberOfTrailingZeros_78 ?_
            exact W.iret (v := (((1 + 16) + 8) + 4) + (((((((((nI (2 ^ t0 - 1)).toUInt32 >>> ((16 : Int32).toUInt32 &&& Int32.toUInt32 31)).toInt32).toUInt32 >>> ((8 : Int32).toUInt32 &&& Int32.toUInt32 31)).toInt32).toUInt32 >>> ((4 : Int32).toUInt32 &&& Int32.toUInt32 31)).toInt32).toUInt32 >>> ((1 : Int32).toUInt32 &&& Int32.toUInt32 31)).toInt32)) hx hb hr (fun t ht hW => ⟨⟨(((1 + 16) + 8) + 4) + (((((((((nI (2 ^ t0 - 1)).toUInt32 >>> ((16 : Int32).toUInt32 &&& Int32.toUInt32 31)).toInt32).toUInt32 >>> ((8 : Int32).toUInt32 &&& Int32.toUInt32 31)).toInt32).toUInt32 >>> ((4 : Int32).toUInt32 &&& Int32.toUInt32 31)).toInt32).toUInt32 >>> ((1 : Int32).toUInt32 &&& Int32.toUInt32 31)).toInt32), (), rfl, (by decide +kernel : ∀ t0, t0 < 32 → (0 < nI (2 ^ t0 - 1) ∧ ¬ (nI (2 ^ t0 - 1)) ≤ 65536 ∧ ¬ (((nI (2 ^ t0 - 1)).toUInt32 >>> ((16 : Int32).toUInt32 &&& Int32.toUInt32 31)).toInt32) ≤ 256 ∧ ¬ (((((nI (2 ^ t0 - 1)).toUInt32 >>> ((16 : Int32).toUInt32 &&& Int32.toUInt32 31)).toInt32).toUInt32 >>> ((8 : Int32).toUInt32 &&& Int32.toUInt32 31)).toInt32) ≤ 16 ∧ (((((((nI (2 ^ t0 - 1)).toUInt32 >>> ((16 : Int32).toUInt32 &&& Int32.toUInt32 31)).toInt32).toUInt32 >>> ((8 : Int32).toUInt32 &&& Int32.toUInt32 31)).toInt32).toUInt32 >>> ((4 : Int32).toUInt32 &&& Int32.toUInt32 31)).toInt32) ≤ 4) → (((1 + 16) + 8) + 4) + (((((((((nI (2 ^ t0 - 1)).toUInt32 >>> ((16 : Int32).toUInt32 &&& Int32.toUInt32 31)).toInt32).toUInt32 >>> ((8 : Int32).toUInt32 &&& Int32.toUInt32 31)).toInt32).toUInt32 >>> ((4 : Int32).toUInt32 &&& Int32.toUInt32 31)).toInt32).toUInt32 >>> ((1 : Int32).toUInt32 &&& Int32.toUInt32 31)).toInt32) = nI t0) t0 ht0 ⟨cb_6, cb_7, cb_15, cb_19, cb_21⟩, by rw [ht]; exact hP, va_K.moved hW.alike hK, hD⟩, hS.F ht⟩) hS.2.2 dJI_numberOfTrailingZeros_79
          · refine lv_iinc (v := (((1 + 16) + 8) + 4) + 2) (lv' := [(1, .int ((((1 + 16) + 8) + 4) + 2)), (0, .int (((((((nI (2 ^ t0 - 1)).toUInt32 >>> ((16 : Int32).toUInt32 &&& Int32.toUInt32 31)).toInt32).toUInt32 >>> ((8 : Int32).toUInt32 &&& Int32.toUInt32 31)).toInt32).toUInt32 >>> ((4 : Int32).toUInt32 &&& Int32.toUInt32 31)).toInt32))]) hx hb dJI_numberOfTrailingZeros_67 hl (k := 1) rfl rfl (by decide) rfl (fun ls hl => ?_)
            refine lv_iload_n hx hb dJI_numberOfTrailingZeros_70 rfl (lv_at hl 1 rfl) ?_
            refine lv_iconst (v := 2) hx hb dJI_numberOfTrailingZeros_71 (by decide) ?_
            refine lv_iushr (v := ((((((((nI (2 ^ t0 - 1)).toUInt32 >>> ((16 : Int32).toUInt32 &&& Int32.toUInt32 31)).toInt32).toUInt32 >>> ((8 : Int32).toUInt32 &&& Int32.toUInt32 31)).toInt32).toUInt32 >>> ((4 : Int32).toUInt32 &&& Int32.toUInt32 31)).toInt32).toUInt32 >>> ((2 : Int32).toUInt32 &&& Int32.toUInt32 31)).toInt32) hx hb dJI_numberOfTrailingZeros_72 rfl ?_
            refine lv_istore_n (lv' := [(0, .int (((((((((nI (2 ^ t0 - 1)).toUInt32 >>> ((16 : Int32).toUInt32 &&& Int32.toUInt32 31)).toInt32).toUInt32 >>> ((8 : Int32).toUInt32 &&& Int32.toUInt32 31)).toInt32).toUInt32 >>> ((4 : Int32).toUInt32 &&& Int32.toUInt32 31)).toInt32).toUInt32 >>> ((2 : Int32).toUInt32 &&& Int32.toUInt32 31)).toInt32)), (1, .int ((((1 + 16) + 8) + 4) + 2))]) hx hb dJI_numberOfTrailingZeros_73 rfl hl (by decide) rfl (fun ls hl => ?_)
            refine lv_iload_n hx hb dJI_numberOfTrailingZeros_74 rfl (lv_at hl 1 rfl) ?_
            refine lv_iload_n hx hb dJI_numberOfTrailingZeros_75 rfl (lv_at hl 0 rfl) ?_
            refine lv_iconst (v := 1) hx hb dJI_numberOfTrailingZeros_76 (by decide) ?_
            refine lv_iushr (v := ((((((((((nI (2 ^ t0 - 1)).toUInt32 >>> ((16 : Int32).toUInt32 &&& Int32.toUInt32 31)).toInt32).toUInt32 >>> ((8 : Int32).toUInt32 &&& Int32.toUInt32 31)).toInt32).toUInt32 >>> ((4 : Int32).toUInt32 &&& Int32.toUInt32 31)).toInt32).toUInt32 >>> ((2 : Int32).toUInt32 &&& Int32.toUInt32 31)).toInt32).toUInt32 >>> ((1 : Int32).toUInt32 &&& Int32.toUInt32 31)).toInt32) hx hb dJI_numberOfTrailingZeros_77 rfl ?_
            refine lv_iadd hx hb dJI_numberOfTrailingZeros_78 ?_
            exact W.iret (v := ((((1 + 16) + 8) + 4) + 2) + (((((((((((nI (2 ^ t0 - 1)).toUInt32 >>> ((16 : Int32).toUInt32 &&& Int32.toUInt32 31)).toInt32).toUInt32 >>> ((8 : Int32).toUInt32 &&& Int32.toUInt32 31)).toInt32).toUInt32 >>> ((4 : Int32).toUInt32 &&& Int32.toUInt32 31)).toInt32).toUInt32 >>> ((2 : Int32).toUInt32 &&& Int32.toUInt32 31)).toInt32).toUInt32 >>> ((1 : Int32).toUInt32 &&& Int32.toUInt32 31)).toInt32)) hx hb hr (fun t ht hW => ⟨⟨((((1 + 16) + 8) + 4) + 2) + (((((((((((nI (2 ^ t0 - 1)).toUInt32 >>> ((16 : Int32).toUInt32 &&& Int32.toUInt32 31)).toInt32).toUInt32 >>> ((8 : Int32).toUInt32 &&& Int32.toUInt32 31)).toInt32).toUInt32 >>> ((4 : Int32).toUInt32 &&& Int32.toUInt32 31)).toInt32).toUInt32 >>> ((2 : Int32).toUInt32 &&& Int32.toUInt32 31)).toInt32).toUInt32 >>> ((1 : Int32).toUInt32 &&& Int32.toUInt32 31)).toInt32), (), rfl, (by decide +kernel : ∀ t0, t0 < 32 → (0 < nI (2 ^ t0 - 1) ∧ ¬ (nI (2 ^ t0 - 1)) ≤ 65536 ∧ ¬ (((nI (2 ^ t0 - 1)).toUInt32 >>> ((16 : Int32).toUInt32 &&& Int32.toUInt32 31)).toInt32) ≤ 256 ∧ ¬ (((((nI (2 ^ t0 - 1)).toUInt32 >>> ((16 : Int32).toUInt32 &&& Int32.toUInt32 31)).toInt32).toUInt32 >>> ((8 : Int32).toUInt32 &&& Int32.toUInt32 31)).toInt32) ≤ 16 ∧ ¬ (((((((nI (2 ^ t0 - 1)).toUInt32 >>> ((16 : Int32).toUInt32 &&& Int32.toUInt32 31)).toInt32).toUInt32 >>> ((8 : Int32).toUInt32 &&& Int32.toUInt32 31)).toInt32).toUInt32 >>> ((4 : Int32).toUInt32 &&& Int32.toUInt32 31)).toInt32) ≤ 4) → ((((1 + 16) + 8) + 4) + 2) + (((((((((((nI (2 ^ t0 - 1)).toUInt32 >>> ((16 : Int32).toUInt32 &&& Int32.toUInt32 31)).toInt32).toUInt32 >>> ((8 : Int32).toUInt32 &&& Int32.toUInt32 31)).toInt32).toUInt32 >>> ((4 : Int32).toUInt32 &&& Int32.toUInt32 31)).toInt32).toUInt32 >>> ((2 : Int32).toUInt32 &&& Int32.toUInt32 31)).toInt32).toUInt32 >>> ((1 : Int32).toUInt32 &&& Int32.toUInt32 31)).toInt32) = nI t0) t0 ht0 ⟨cb_6, cb_7, cb_15, cb_19, cb_21⟩, by rw [ht]; exact hP, va_K.moved hW.alike hK, hD⟩, hS.F ht⟩) hS.2.2 dJI_numberOfTrailingZeros_79
  · refine lv_iload_n hx hb dJI_numberOfTrailingZeros_12 rfl (lv_at hl 0 rfl) ?_
    refine lv_bipush (v := 32) hx hb dJI_numberOfTrailingZeros_13 (by decide) ?_
    refine lv_iand hx hb dJI_numberOfTrailingZeros_15 ?_
    exact W.iret (v := (nI (2 ^ t0 - 1)) &&& 32) hx hb hr (fun t ht hW => ⟨⟨(nI (2 ^ t0 - 1)) &&& 32, (), rfl, (by decide +kernel : ∀ t0, t0 < 32 → (¬ 0 < nI (2 ^ t0 - 1)) → (nI (2 ^ t0 - 1)) &&& 32 = nI t0) t0 ht0 cb_6, by rw [ht]; exact hP, va_K.moved hW.alike hK, hD⟩, hS.F ht⟩) hS.2.2 dJI_numberOfTrailingZeros_16
set_option maxHeartbeats 4000000 in
set_option maxRecDepth 100000 in
theorem c_ntz64 (l : Launch) (dC : Nat → ClassId) (dI : Nat → Nat → Nat) (x : Int64) (t0 : Nat) (sz : Nat) (ht0 : t0 < 64) (h1 : zb x t0 = true) (h0 : ∀ j, j < t0 → zb x j = false) : Met l yJL_numberOfTrailingZeros wsJL_numberOfTrailingZeros ({ frames := 1, cells := 0, slots := 0, locals := 30 }) (va_Pc [.long x] (fun U => U.heap.size = sz ∧ va_P (dC, dI) vwCl [] U.heap ∧ va_K (dC, dI) vwCl [] U ∧ va_D (fun _ => True) [])) (va_Qi (fun (r : Int32) (u : Unit) => r = nI t0) (fun (u : Unit) (t : State) => va_P (dC, dI) vwCl [] t.heap ∧ va_K (dC, dI) vwCl [] t ∧ va_D (va_A [] sz) []) (va_A [] sz)) 0 0 (va_A [] sz) := by
  refine Met.ofW (cc := cJL_numberOfTrailingZeros) (maxL := 3) (ret := (some .int)) (by decide) rfl ?_
  intro p e s m args below meth c s₁ B hml hv
  obtain ⟨rfl, hsz, hP, hK, hD0⟩ := hv
  have hx := B.exec
  have hb := B.bytes
  have hr := B.returns
  have hts := atoms_spec (ws := wsJL_numberOfTrailingZeros) B.pre
  have htA : ∀ w ∈ wsA, w.before _ s = true := fun w h => hts w (List.mem_cons_of_mem _ h)
  have hown : s.vm.findClass RJL = some m.cls := findClass_of_methodNamed B.named
  have hlocks := B.notSynchronized
  subst hsz
  have hD := hD0.self (sz := s.heap.size)
  generalize hAe : va_A [] s.heap.size = A at hD ⊢
  have hA : ∀ q : Nat, s.heap.size ≤ q → A q := fun q h => by rw [← hAe]; exact Or.inr h
  have hS : va_S A s.heap s.heap [] := va_S.rf
  have hP : va_P (dC, dI) vwCl [] s.heap := hP
  have hl := lv_entry ([.long x]) (n := 3) (Nat.le_of_ble_eq_true rfl)
  rw [lg_entry_eq]
  generalize (lg_sl ([.long x]) ++ List.replicate (3 - (lg_sl ([.long x])).length) Slot.unset).toArray = ls at hl ⊢
  have hl : lv_has ls 3 [(0, .long x)] := hl
  refine lv_lload_n hx hb dJL_numberOfTrailingZeros_0 rfl (lv_at hl 0 rfl) ?_
  refine lv_l2i (v := x.toInt32) hx hb dJL_numberOfTrailingZeros_1 rfl ?_
  refine lv_istore_n (lv' := [(2, .int x.toInt32), (0, .long x)]) hx hb dJL_numberOfTrailingZeros_2 rfl hl (by decide) rfl (fun ls hl => ?_)
  refine lv_iload_n hx hb dJL_numberOfTrailingZeros_3 rfl (lv_at hl 0 rfl) ?_
  refine lv_if_ne (tgt := 21) hx hb dJL_numberOfTrailingZeros_4 (by decide) (fun cb_22 => ?_) (fun cb_22 => ?_)
  · have ht2 : t0 < 32 := by
      rcases Nat.lt_or_ge t0 32 with q | q
      · exact q
      · exact absurd (yb_z.mpr (fun i hi => by rw [yb_lo _ hi]; exact h0 i (by omega))) cb_22
    refine lv_iload_n hx hb dJL_numberOfTrailingZeros_21 rfl (lv_at hl 0 rfl) ?_
    have hPc := hP.sub (ws' := []) [] rfl
    have hDc := hD.sub (ws' := []) [] (by decide) rfl
    have hKc := hK.sub (tys' := []) [] rfl
    have hFc := va_free (wc := []) hD hS hA [] rfl
    refine va_calli (va_runS (As := [.int x.toInt32]) (rest := []) ⟨hx, hb, hml, hown, htA⟩ (c_ntz32 l dC dI x.toInt32 t0 s.heap.size ht2 (by rw [yb_lo _ ht2]; exact h1) (fun j hj => by rw [yb_lo _ (by omega)]; exact h0 j hj)) (va_cwS 1 htA gJL_311 rfl rfl rfl (by decide +kernel) ⟨Nat.le_of_ble_eq_true rfl, Nat.le_of_ble_eq_true rfl⟩) ⟨fun a U g mk q => by obtain ⟨q0, q1, qP, qK, qD⟩ := q; exact ⟨q0, q1, qP, va_K.moved (u := U) (U := U.calling g mk a) (Vm.Alike.refl U.vm) qK, qD⟩, fun U hU hW => ⟨rfl, by rw [hU], by rw [hU]; exact hPc, va_K.moved hW.alike hKc, hDc.weaken (fun _ _ _ _ => trivial)⟩⟩ rfl rfl hl.1 rfl (lv_room (Nat.le_of_ble_eq_true rfl)) dJL_numberOfTrailingZeros_22 ⟨Nat.zero_le _, Nat.zero_le _⟩) hS (fun q _ h => hFc q h) hFc (fun r9 u t H1 locs ht hvm hw hB hz1 hk1 hS => ?_)
    obtain ⟨hP1, hK1, hD1⟩ := hB
    rw [ht] at hP1
    try dsimp only at hw hP1 hD1
    obtain ⟨hP, hD⟩ := va_join (wr := []) (w1 := []) hP hD [] [] rfl rfl (by decide) (by decide) hk1 hFc hP1 hD1
    generalize H1 = H at hP hS ⊢
    have hP : va_P (dC, dI) vwCl [] H := hP.sub [] rfl
    have hD : va_D A [] := hD.sub [] (by decide) rfl
    exact W.iret (v := r9) hx hb hr (fun t ht hW => ⟨⟨r9, (), rfl, hw, by rw [ht]; exact hP, va_K.moved hW.alike hK, hD⟩, hS.F ht⟩) hS.2.2 dJL_numberOfTrailingZeros_25
  · have ht2 : 32 ≤ t0 := by
      rcases Nat.lt_or_ge t0 32 with q | q
      · have := yb_z.mp cb_22 t0 q
        rw [yb_lo _ q, h1] at this
        cases this
      · exact q
    refine lv_bipush (v := 32) hx hb dJL_numberOfTrailingZeros_7 (by decide) ?_
    refine lv_lload_n hx hb dJL_numberOfTrailingZeros_9 rfl (lv_at hl 1 rfl) ?_
    refine lv_bipush (v := 32) hx hb dJL_numberOfTrailingZeros_10 (by decide) ?_
    refine lv_lushr (v := (x.toUInt64 >>> ((32 : Int32).toInt64.toUInt64 &&& Int64.toUInt64 63)).toInt64) hx hb dJL_numberOfTrailingZeros_12 rfl ?_
    refine lv_l2i (v := ((x.toUInt64 >>> ((32 : Int32).toInt64.toUInt64 &&& Int64.toUInt64 63)).toInt64).toInt32) hx hb dJL_numberOfTrailingZeros_13 rfl ?_
    have hPc := hP.sub (ws' := []) [] rfl
    have hDc := hD.sub (ws' := []) [] (by decide) rfl
    have hKc := hK.sub (tys' := []) [] rfl
    have hFc := va_free (wc := []) hD hS hA [] rfl
    refine va_calli (va_runS (As := [.int (((x.toUInt64 >>> ((32 : Int32).toInt64.toUInt64 &&& Int64.toUInt64 63)).toInt64).toInt32)]) (rest := [.int 32]) ⟨hx, hb, hml, hown, htA⟩ (c_ntz32 l dC dI (((x.toUInt64 >>> ((32 : Int32).toInt64.toUInt64 &&& Int64.toUInt64 63)).toInt64).toInt32) (t0 - 32) s.heap.size (by omega) (by rw [yb_hi _ (by omega), show 32 + (t0 - 32) = t0 by omega]; exact h1) (fun j hj => by rw [yb_hi _ (by omega)]; exact h0 _ (by omega))) (va_cwS 1 htA gJL_311 rfl rfl rfl (by decide +kernel) ⟨Nat.le_of_ble_eq_true rfl, Nat.le_of_ble_eq_true rfl⟩) ⟨fun a U g mk q => by obtain ⟨q0, q1, qP, qK, qD⟩ := q; exact ⟨q0, q1, qP, va_K.moved (u := U) (U := U.calling g mk a) (Vm.Alike.refl U.vm) qK, qD⟩, fun U hU hW => ⟨rfl, by rw [hU], by rw [hU]; exact hPc, va_K.moved hW.alike hKc, hDc.weaken (fun _ _ _ _ => trivial)⟩⟩ rfl rfl hl.1 rfl (lv_room (Nat.le_of_ble_eq_true rfl)) dJL_numberOfTrailingZeros_14 ⟨Nat.zero_le _, Nat.zero_le _⟩) hS (fun q _ h => hFc q h) hFc (fun r9 u t H1 locs ht hvm hw hB hz1 hk1 hS => ?_)
    obtain ⟨hP1, hK1, hD1⟩ := hB
    rw [ht] at hP1
    try dsimp only at hw hP1 hD1
    obtain ⟨hP, hD⟩ := va_join (wr := []) (w1 := []) hP hD [] [] rfl rfl (by decide) (by decide) hk1 hFc hP1 hD1
    generalize H1 = H at hP hS ⊢
    have hP : va_P (dC, dI) vwCl [] H := hP.sub [] rfl
    have hD : va_D A [] := hD.sub [] (by decide) rfl
    obtain rfl := hw
    refine lv_iadd hx hb dJL_numberOfTrailingZeros_17 ?_
    refine W.eq (g2 := F0 m 18 ls [.int (nI t0)]) (by rw [show (32 : Int32) + nI (t0 - 32) = nI t0 from by rw [show (32 : Int32) = nI 32 from rfl, nI_add, show 32 + (t0 - 32) = t0 by omega]]) ?_
    refine lv_goto (tgt := 25) hx hb dJL_numberOfTrailingZeros_18 (by decide) ?_
    exact W.iret (v := nI t0) hx hb hr (fun t ht hW => ⟨⟨nI t0, (), rfl, rfl, by rw [ht]; exact hP, va_K.moved hW.alike hK, hD⟩, hS.F ht⟩) hS.2.2 dJL_numberOfTrailingZeros_25
set_option maxHeartbeats 4000000 in
set_option maxRecDepth 100000 in
theorem c_bitCount (l : Launch) (dC : Nat → ClassId) (dI : Nat → Nat → Nat) (x : Int64) (sz : Nat)  : Met l yJL_bitCount wsJL_bitCount ({ frames := 0, cells := 0, slots := 0, locals := 0 }) (va_Pc [.long x] (fun U => U.heap.size = sz ∧ va_P (dC, dI) vwCl [] U.heap ∧ va_K (dC, dI) vwCl [] U ∧ va_D (fun _ => True) [])) (va_Qi (fun (r : Int32) (u : Unit) => r = nI (cb (zn x) 64)) (fun (u : Unit) (t : State) => va_P (dC, dI) vwCl [] t.heap ∧ va_K (dC, dI) vwCl [] t ∧ va_D (va_A [] sz) []) (va_A [] sz)) 0 0 (va_A [] sz) := by
  refine Met.ofW (cc := cJL_bitCount) (maxL := 2) (ret := (some .int)) (by decide) rfl ?_
  intro p e s m args below meth c s₁ B hml hv
  obtain ⟨rfl, hsz, hP, hK, hD0⟩ := hv
  have hx := B.exec
  have hb := B.bytes
  have hr := B.returns
  have hts := atoms_spec (ws := wsJL_bitCount) B.pre
  have htA : ∀ w ∈ wsA, w.before _ s = true := fun w h => hts w (List.mem_cons_of_mem _ h)
  have hown : s.vm.findClass RJL = some m.cls := findClass_of_methodNamed B.named
  have hlocks := B.notSynchronized
  subst hsz
  have hD := hD0.self (sz := s.heap.size)
  generalize hAe : va_A [] s.heap.size = A at hD ⊢
  have hA : ∀ q : Nat, s.heap.size ≤ q → A q := fun q h => by rw [← hAe]; exact Or.inr h
  have hS : va_S A s.heap s.heap [] := va_S.rf
  have hP : va_P (dC, dI) vwCl [] s.heap := hP
  have hl := lv_entry ([.long x]) (n := 2) (Nat.le_of_ble_eq_true rfl)
  rw [lg_entry_eq]
  generalize (lg_sl ([.long x]) ++ List.replicate (2 - (lg_sl ([.long x])).length) Slot.unset).toArray = ls at hl ⊢
  have hl : lv_has ls 2 [(0, .long x)] := hl
  refine lv_lload_n hx hb dJL_bitCount_0 rfl (lv_at hl 0 rfl) ?_
  refine lv_lload_n hx hb dJL_bitCount_1 rfl (lv_at hl 0 rfl) ?_
  refine lv_iconst (v := 1) hx hb dJL_bitCount_2 (by decide) ?_
  refine lv_lushr (v := (x.toUInt64 >>> ((1 : Int32).toInt64.toUInt64 &&& Int64.toUInt64 63)).toInt64) hx hb dJL_bitCount_3 rfl ?_
  refine lv_ldc2 (own := RJL) (v := 6148914691236517205) hx hb hown (htA _ lkJL_314) dJL_bitCount_4 ?_
  refine lv_land hx hb dJL_bitCount_7 ?_
  refine lv_lsub hx hb dJL_bitCount_8 ?_
  refine lv_topl (fun x1 e1 => ?_)
  refine lv_lstore_n (lv' := [(0, .long x1)]) hx hb dJL_bitCount_9 rfl hl (by decide) rfl (fun ls hl => ?_)
  refine lv_lload_n hx hb dJL_bitCount_10 rfl (lv_at hl 0 rfl) ?_
  refine lv_ldc2 (own := RJL) (v := 3689348814741910323) hx hb hown (htA _ lkJL_316) dJL_bitCount_11 ?_
  refine lv_land hx hb dJL_bitCount_14 ?_
  refine lv_lload_n hx hb dJL_bitCount_15 rfl (lv_at hl 0 rfl) ?_
  refine lv_iconst (v := 2) hx hb dJL_bitCount_16 (by decide) ?_
  refine lv_lushr (v := (x1.toUInt64 >>> ((2 : Int32).toInt64.toUInt64 &&& Int64.toUInt64 63)).toInt64) hx hb dJL_bitCount_17 rfl ?_
  refine lv_ldc2 (own := RJL) (v := 3689348814741910323) hx hb hown (htA _ lkJL_316) dJL_bitCount_18 ?_
  refine lv_land hx hb dJL_bitCount_21 ?_
  refine lv_ladd hx hb dJL_bitCount_22 ?_
  refine lv_topl (fun x2 e2 => ?_)
  refine lv_lstore_n (lv' := [(0, .long x2)]) hx hb dJL_bitCount_23 rfl hl (by decide) rfl (fun ls hl => ?_)
  refine lv_lload_n hx hb dJL_bitCount_24 rfl (lv_at hl 0 rfl) ?_
  refine lv_lload_n hx hb dJL_bitCount_25 rfl (lv_at hl 0 rfl) ?_
  refine lv_iconst (v := 4) hx hb dJL_bitCount_26 (by decide) ?_
  refine lv_lushr (v := (x2.toUInt64 >>> ((4 : Int32).toInt64.toUInt64 &&& Int64.toUInt64 63)).toInt64) hx hb dJL_bitCount_27 rfl ?_
  refine lv_ladd hx hb dJL_bitCount_28 ?_
  refine lv_ldc2 (own := RJL) (v := 1085102592571150095) hx hb hown (htA _ lkJL_318) dJL_bitCount_29 ?_
  refine lv_land hx hb dJL_bitCount_32 ?_
  refine lv_topl (fun x3 e3 => ?_)
  refine lv_lstore_n (lv' := [(0, .long x3)]) hx hb dJL_bitCount_33 rfl hl (by decide) rfl (fun ls hl => ?_)
  refine lv_lload_n hx hb dJL_bitCount_34 rfl (lv_at hl 0 rfl) ?_
  refine lv_lload_n hx hb dJL_bitCount_35 rfl (lv_at hl 0 rfl) ?_
  refine lv_bipush (v := 8) hx hb dJL_bitCount_36 (by decide) ?_
  refine lv_lushr (v := (x3.toUInt64 >>> ((8 : Int32).toInt64.toUInt64 &&& Int64.toUInt64 63)).toInt64) hx hb dJL_bitCount_38 rfl ?_
  refine lv_ladd hx hb dJL_bitCount_39 ?_
  refine lv_topl (fun x4 e4 => ?_)
  refine lv_lstore_n (lv' := [(0, .long x4)]) hx hb dJL_bitCount_40 rfl hl (by decide) rfl (fun ls hl => ?_)
  refine lv_lload_n hx hb dJL_bitCount_41 rfl (lv_at hl 0 rfl) ?_
  refine lv_lload_n hx hb dJL_bitCount_42 rfl (lv_at hl 0 rfl) ?_
  refine lv_bipush (v := 16) hx hb dJL_bitCount_43 (by decide) ?_
  refine lv_lushr (v := (x4.toUInt64 >>> ((16 : Int32).toInt64.toUInt64 &&& Int64.toUInt64 63)).toInt64) hx hb dJL_bitCount_45 rfl ?_
  refine lv_ladd hx hb dJL_bitCount_46 ?_
  refine lv_topl (fun x5 e5 => ?_)
  refine lv_lstore_n (lv' := [(0, .long x5)]) hx hb dJL_bitCount_47 rfl hl (by decide) rfl (fun ls hl => ?_)
  refine lv_lload_n hx hb dJL_bitCount_48 rfl (lv_at hl 0 rfl) ?_
  refine lv_lload_n hx hb dJL_bitCount_49 rfl (lv_at hl 0 rfl) ?_
  refine lv_bipush (v := 32) hx hb dJL_bitCount_50 (by decide) ?_
  refine lv_lushr (v := (x5.toUInt64 >>> ((32 : Int32).toInt64.toUInt64 &&& Int64.toUInt64 63)).toInt64) hx hb dJL_bitCount_52 rfl ?_
  refine lv_ladd hx hb dJL_bitCount_53 ?_
  refine lv_topl (fun x6 e6 => ?_)
  refine lv_lstore_n (lv' := [(0, .long x6)]) hx hb dJL_bitCount_54 rfl hl (by decide) rfl (fun ls hl => ?_)
  refine lv_lload_n hx hb dJL_bitCount_55 rfl (lv_at hl 0 rfl) ?_
  refine lv_l2i (v := x6.toInt32) hx hb dJL_bitCount_56 rfl ?_
  refine lv_bipush (v := 127) hx hb dJL_bitCount_57 (by decide) ?_
  refine lv_iand hx hb dJL_bitCount_59 ?_
  exact W.iret (v := x6.toInt32 &&& 127) hx hb hr (fun t ht hW => ⟨⟨x6.toInt32 &&& 127, (), rfl, y_bitCount e1 e2 e3 e4 e5 e6, by rw [ht]; exact hP, va_K.moved hW.alike hK, hD⟩, hS.F ht⟩) hS.2.2 dJL_bitCount_60
set_option maxHeartbeats 4000000 in
set_option maxRecDepth 100000 in
theorem c_nextBlock (l : Launch) (dC : Nat → ClassId) (dI : Nat → Nat → Nat) (c0 : Nat) (sz : Nat) (hc0 : c0 < 262144) : Met l yX2_nextBlock wsX2_nextBlock ({ frames := 0, cells := 0, slots := 0, locals := 0 }) (va_Pc [.int (nI c0)] (fun U => U.heap.size = sz ∧ va_P (dC, dI) vwCl [] U.heap ∧ va_K (dC, dI) vwCl [] U ∧ va_D (fun _ => True) [])) (va_Qi (fun (r : Int32) (u : Unit) => r = nI (64 * (c0 / 64) + 64)) (fun (u : Unit) (t : State) => va_P (dC, dI) vwCl [] t.heap ∧ va_K (dC, dI) vwCl [] t ∧ va_D (va_A [] sz) []) (va_A [] sz)) 0 0 (va_A [] sz) := by
  refine Met.ofW (cc := cX2_nextBlock) (maxL := 1) (ret := (some .int)) (by decide) rfl ?_
  intro p e s m args below meth c s₁ B hml hv
  obtain ⟨rfl, hsz, hP, hK, hD0⟩ := hv
  have hx := B.exec
  have hb := B.bytes
  have hr := B.returns
  have hts := atoms_spec (ws := wsX2_nextBlock) B.pre
  have htA : ∀ w ∈ wsA, w.before _ s = true := fun w h => hts w (List.mem_cons_of_mem _ h)
  have hown : s.vm.findClass RX2 = some m.cls := findClass_of_methodNamed B.named
  have hlocks := B.notSynchronized
  subst hsz
  have hD := hD0.self (sz := s.heap.size)
  generalize hAe : va_A [] s.heap.size = A at hD ⊢
  have hA : ∀ q : Nat, s.heap.size ≤ q → A q := fun q h => by rw [← hAe]; exact Or.inr h
  have hS : va_S A s.heap s.heap [] := va_S.rf
  have hP : va_P (dC, dI) vwCl [] s.heap := hP
  have hl := lv_entry ([.int (nI c0)]) (n := 1) (Nat.le_of_ble_eq_true rfl)
  rw [lg_entry_eq]
  generalize (lg_sl ([.int (nI c0)]) ++ List.replicate (1 - (lg_sl ([.int (nI c0)])).length) Slot.unset).toArray = ls at hl ⊢
  have hl : lv_has ls 1 [(0, .int (nI c0))] := hl
  refine lv_iload_n hx hb dX2_nextBlock_0 rfl (lv_at hl 0 rfl) ?_
  refine lv_bipush (v := (-64)) hx hb dX2_nextBlock_1 (by decide) ?_
  refine lv_iand hx hb dX2_nextBlock_3 ?_
  refine lv_bipush (v := 64) hx hb dX2_nextBlock_4 (by decide) ?_
  refine lv_iadd hx hb dX2_nextBlock_6 ?_
  exact W.iret (v := ((nI c0) &&& (-64)) + 64) hx hb hr (fun t ht hW => ⟨⟨((nI c0) &&& (-64)) + 64, (), rfl, y_nblk hc0, by rw [ht]; exact hP, va_K.moved hW.alike hK, hD⟩, hS.F ht⟩) hS.2.2 dX2_nextBlock_7
set_option maxHeartbeats 4000000 in
set_option maxRecDepth 100000 in
theorem c_foundIn (l : Launch) (dC : Nat → ClassId) (dI : Nat → Nat → Nat) (hs : Nat) (q1 : Nat) (q2 : Nat) (q7 : Nat) (q5 : Nat) (q6 : Nat) (bY : Int32) (bN : Int32) (fd : Int64) (sz : Nat)  : Met l yX2_foundInBlock wsX2_foundInBlock ({ frames := 1, cells := 0, slots := 0, locals := 30 }) (va_Pc [.ref hs] (fun U => U.heap.size = sz ∧ va_P (dC, dI) vwCl [sO hs q1 q2 q7 q5 q6 bY bN fd] U.heap ∧ va_K (dC, dI) vwCl [] U ∧ va_D (fun _ => True) [sO hs q1 q2 q7 q5 q6 bY bN fd])) (va_Qi (fun (r : Int32) (u : Unit) => r = nI (cb (zn fd) 64)) (fun (u : Unit) (t : State) => va_P (dC, dI) vwCl [sO hs q1 q2 q7 q5 q6 bY bN fd] t.heap ∧ va_K (dC, dI) vwCl [] t ∧ va_D (va_A [sO hs q1 q2 q7 q5 q6 bY bN fd] sz) [sO hs q1 q2 q7 q5 q6 bY bN fd]) (va_A [sO hs q1 q2 q7 q5 q6 bY bN fd] sz)) 0 0 (va_A [sO hs q1 q2 q7 q5 q6 bY bN fd] sz) := by
  refine Met.ofW (cc := cX2_foundInBlock) (maxL := 1) (ret := (some .int)) (by decide) rfl ?_
  intro p e s m args below meth c s₁ B hml hv
  obtain ⟨rfl, hsz, hP, hK, hD0⟩ := hv
  have hx := B.exec
  have hb := B.bytes
  have hr := B.returns
  have hts := atoms_spec (ws := wsX2_foundInBlock) B.pre
  have htA : ∀ w ∈ wsA, w.before _ s = true := fun w h => hts w (List.mem_cons_of_mem _ h)
  have hown : s.vm.findClass RX2 = some m.cls := findClass_of_methodNamed B.named
  have hlocks := B.notSynchronized
  subst hsz
  have hD := hD0.self (sz := s.heap.size)
  generalize hAe : va_A [sO hs q1 q2 q7 q5 q6 bY bN fd] s.heap.size = A at hD ⊢
  have hA : ∀ q : Nat, s.heap.size ≤ q → A q := fun q h => by rw [← hAe]; exact Or.inr h
  have hS : va_S A s.heap s.heap [] := va_S.rf
  have hP : va_P (dC, dI) vwCl [sO hs q1 q2 q7 q5 q6 bY bN fd] s.heap := hP
  have hl := lv_entry ([.ref hs]) (n := 1) (Nat.le_of_ble_eq_true rfl)
  rw [lg_entry_eq]
  generalize (lg_sl ([.ref hs]) ++ List.replicate (1 - (lg_sl ([.ref hs])).length) Slot.unset).toArray = ls at hl ⊢
  have hl : lv_has ls 1 [(0, .ref hs)] := hl
  refine lv_aload_n hx hb dX2_foundInBlock_0 rfl (lv_at hl 0 rfl) ?_
  refine va_get (D := (dC, dI)) (ci := 2) (v := .long fd) (C := RX2) (T := TX2) (N := 8) hx hb htA inX2 hown hK hP 0 rfl rfl 7 (by decide) (htA _ lkX2_52) (fun _ h9 => h9) rfl dX2_foundInBlock_1 ?_
  have hPc := hP.sub (ws' := []) [] rfl
  have hDc := hD.sub (ws' := []) [] (by decide) rfl
  have hKc := hK.sub (tys' := []) [] rfl
  have hFc := va_free (wc := []) hD hS hA [] rfl
  refine va_calli (va_runS (As := [.long fd]) (rest := []) ⟨hx, hb, hml, hown, htA⟩ (c_bitCount l dC dI fd s.heap.size) (va_cwS 1 htA gX2_69 rfl rfl rfl (by decide +kernel) ⟨Nat.le_of_ble_eq_true rfl, Nat.le_of_ble_eq_true rfl⟩) ⟨fun a U g mk q => by obtain ⟨q0, q1, qP, qK, qD⟩ := q; exact ⟨q0, q1, qP, va_K.moved (u := U) (U := U.calling g mk a) (Vm.Alike.refl U.vm) qK, qD⟩, fun U hU hW => ⟨rfl, by rw [hU], by rw [hU]; exact hPc, va_K.moved hW.alike hKc, hDc.weaken (fun _ _ _ _ => trivial)⟩⟩ rfl rfl hl.1 rfl (lv_room (Nat.le_of_ble_eq_true rfl)) dX2_foundInBlock_4 ⟨Nat.zero_le _, Nat.zero_le _⟩) hS (fun q _ h => hFc q h) hFc (fun r9 u t H1 locs ht hvm hw hB hz1 hk1 hS => ?_)
  obtain ⟨hP1, hK1, hD1⟩ := hB
  rw [ht] at hP1
  try dsimp only at hw hP1 hD1
  obtain ⟨hP, hD⟩ := va_join (wr := [sO hs q1 q2 q7 q5 q6 bY bN fd]) (w1 := []) hP hD [] [0] rfl rfl (by decide) (by decide) hk1 hFc hP1 hD1
  generalize H1 = H at hP hS ⊢
  have hP : va_P (dC, dI) vwCl [sO hs q1 q2 q7 q5 q6 bY bN fd] H := hP.sub [0] rfl
  have hD : va_D A [sO hs q1 q2 q7 q5 q6 bY bN fd] := hD.sub [0] (by decide) rfl
  exact W.iret (v := r9) hx hb hr (fun t ht hW => ⟨⟨r9, (), rfl, hw, by rw [ht]; exact hP, va_K.moved hW.alike hK, hD⟩, hS.F ht⟩) hS.2.2 dX2_foundInBlock_7
set_option maxHeartbeats 4000000 in
set_option maxRecDepth 100000 in
theorem c_writeParts (l : Launch) (dC : Nat → ClassId) (dI : Nat → Nat → Nat) (hs : Nat) (q1 : Nat) (q2 : Nat) (q7 : Nat) (q5 : Nat) (q6 : Nat) (k1 : ClassId) (k2 : ClassId) (k7 : ClassId) (f1 : Nat → Int32) (f2 : Nat → Int32) (f7 : Nat → Int64) (bY : Int32) (bN : Int32) (fd : Int64) (k : Nat) (y : Int32) (n : Int32) (w : Int64) (sz : Nat) (hk : k < 420) : Met l yX2_writeParts wsX2_writeParts ({ frames := 0, cells := 0, slots := 0, locals := 0 }) (va_Pc [.ref hs, .int (nI k), .int y, .int n, .long w] (fun U => U.heap.size = sz ∧ va_P (dC, dI) vwCl [sO hs q1 q2 q7 q5 q6 bY bN fd, (q1, .inl (k1, 420, .inl f1)), (q2, .inl (k2, 420, .inl f2)), (q7, .inl (k7, 420, .inr (.inl f7)))] U.heap ∧ va_K (dC, dI) vwCl [(k1, .int), (k2, .int), (k7, .long)] U ∧ va_D (fun _ => True) [sO hs q1 q2 q7 q5 q6 bY bN fd, (q1, .inl (k1, 420, .inl f1)), (q2, .inl (k2, 420, .inl f2)), (q7, .inl (k7, 420, .inr (.inl f7)))])) (va_Qv (fun (u : (Nat → Int32) × (Nat → Int32) × (Nat → Int64)) => u.1 = upd f1 k y ∧ u.2.1 = upd f2 k n ∧ u.2.2 = vp_updL f7 k w) (fun (u : (Nat → Int32) × (Nat → Int32) × (Nat → Int64)) (t : State) => va_P (dC, dI) vwCl [sO hs q1 q2 q7 q5 q6 bY bN fd, (q1, .inl (k1, 420, .inl u.1)), (q2, .inl (k2, 420, .inl u.2.1)), (q7, .inl (k7, 420, .inr (.inl u.2.2)))] t.heap ∧ va_K (dC, dI) vwCl [(k1, .int), (k2, .int), (k7, .long)] t ∧ va_D (va_A [sO hs q1 q2 q7 q5 q6 bY bN fd, (q1, .inl (k1, 420, .inl f1)), (q2, .inl (k2, 420, .inl f2)), (q7, .inl (k7, 420, .inr (.inl f7)))] sz) [sO hs q1 q2 q7 q5 q6 bY bN fd, (q1, .inl (k1, 420, .inl u.1)), (q2, .inl (k2, 420, .inl u.2.1)), (q7, .inl (k7, 420, .inr (.inl u.2.2)))]) (va_A [sO hs q1 q2 q7 q5 q6 bY bN fd, (q1, .inl (k1, 420, .inl f1)), (q2, .inl (k2, 420, .inl f2)), (q7, .inl (k7, 420, .inr (.inl f7)))] sz)) 0 0 (va_A [sO hs q1 q2 q7 q5 q6 bY bN fd, (q1, .inl (k1, 420, .inl f1)), (q2, .inl (k2, 420, .inl f2)), (q7, .inl (k7, 420, .inr (.inl f7)))] sz) := by
  refine Met.ofW (cc := cX2_writeParts) (maxL := 6) (ret := none) (by decide) rfl ?_
  intro p e s m args below meth c s₁ B hml hv
  obtain ⟨rfl, hsz, hP, hK, hD0⟩ := hv
  have hx := B.exec
  have hb := B.bytes
  have hr := B.returns
  have hts := atoms_spec (ws := wsX2_writeParts) B.pre
  have htA : ∀ w ∈ wsA, w.before _ s = true := fun w h => hts w (List.mem_cons_of_mem _ h)
  have hown : s.vm.findClass RX2 = some m.cls := findClass_of_methodNamed B.named
  have hlocks := B.notSynchronized
  subst hsz
  have hD := hD0.self (sz := s.heap.size)
  generalize hAe : va_A [sO hs q1 q2 q7 q5 q6 bY bN fd, (q1, .inl (k1, 420, .inl f1)), (q2, .inl (k2, 420, .inl f2)), (q7, .inl (k7, 420, .inr (.inl f7)))] s.heap.size = A at hD ⊢
  have hA : ∀ q : Nat, s.heap.size ≤ q → A q := fun q h => by rw [← hAe]; exact Or.inr h
  have hS : va_S A s.heap s.heap [] := va_S.rf
  have hP : va_P (dC, dI) vwCl [sO hs q1 q2 q7 q5 q6 bY bN fd, (q1, .inl (k1, 420, .inl f1)), (q2, .inl (k2, 420, .inl f2)), (q7, .inl (k7, 420, .inr (.inl f7)))] s.heap := hP
  have hl := lv_entry ([.ref hs, .int (nI k), .int y, .int n, .long w]) (n := 6) (Nat.le_of_ble_eq_true rfl)
  rw [lg_entry_eq]
  generalize (lg_sl ([.ref hs, .int (nI k), .int y, .int n, .long w]) ++ List.replicate (6 - (lg_sl ([.ref hs, .int (nI k), .int y, .int n, .long w])).length) Slot.unset).toArray = ls at hl ⊢
  have hl : lv_has ls 6 [(0, .ref hs), (1, .int (nI k)), (2, .int y), (3, .int n), (4, .long w)] := hl
  refine lv_iload_n hx hb dX2_writeParts_0 rfl (lv_at hl 1 rfl) ?_
  refine lv_if_lt (tgt := 33) hx hb dX2_writeParts_1 (by decide) (fun cb_23 => ?_) (fun cb_23 => ?_)
  · exact absurd cb_23 (nI_pos (by omega))
  · refine lv_iload_n hx hb dX2_writeParts_4 rfl (lv_at hl 1 rfl) ?_
    refine lv_sipush (v := 420) hx hb dX2_writeParts_5 (by decide) ?_
    refine lv_icmp_ge (tgt := 33) hx hb dX2_writeParts_8 (by decide) (fun cb_24 => ?_) (fun cb_24 => ?_)
    · exact absurd cb_24 (nI_ge (b := 420) hk (by omega))
    · refine lv_aload_n hx hb dX2_writeParts_11 rfl (lv_at hl 0 rfl) ?_
      refine va_get (D := (dC, dI)) (ci := 2) (v := .ref q1) (C := RX2) (T := TX2) (N := 8) hx hb htA inX2 hown hK hP 0 rfl rfl 0 (by decide) (htA _ lkX2_11) (fun _ h9 => h9) rfl dX2_writeParts_12 ?_
      refine lv_iload_n hx hb dX2_writeParts_15 rfl (lv_at hl 1 rfl) ?_
      refine lv_iload_n hx hb dX2_writeParts_16 rfl (lv_at hl 2 rfl) ?_
      refine yv_iast hx hb hK hP hD hS 1 0 rfl rfl (k := k) hk (by decide) dX2_writeParts_17 (fun H locs hP hD hS => ?_)
      have hP : va_P (dC, dI) vwCl [sO hs q1 q2 q7 q5 q6 bY bN fd, (q1, .inl (k1, 420, .inl (upd f1 k y))), (q2, .inl (k2, 420, .inl f2)), (q7, .inl (k7, 420, .inr (.inl f7)))] H := hP
      have hD : va_D A [sO hs q1 q2 q7 q5 q6 bY bN fd, (q1, .inl (k1, 420, .inl (upd f1 k y))), (q2, .inl (k2, 420, .inl f2)), (q7, .inl (k7, 420, .inr (.inl f7)))] := hD
      refine lv_aload_n hx hb dX2_writeParts_18 rfl (lv_at hl 0 rfl) ?_
      refine va_get (D := (dC, dI)) (ci := 2) (v := .ref q2) (C := RX2) (T := TX2) (N := 8) hx hb htA inX2 hown hK hP 0 rfl rfl 1 (by decide) (htA _ lkX2_15) (fun _ h9 => h9) rfl dX2_writeParts_19 ?_
      refine lv_iload_n hx hb dX2_writeParts_22 rfl (lv_at hl 1 rfl) ?_
      refine lv_iload_n hx hb dX2_writeParts_23 rfl (lv_at hl 3 rfl) ?_
      refine yv_iast hx hb hK hP hD hS 2 1 rfl rfl (k := k) hk (by decide) dX2_writeParts_24 (fun H locs hP hD hS => ?_)
      have hP : va_P (dC, dI) vwCl [sO hs q1 q2 q7 q5 q6 bY bN fd, (q1, .inl (k1, 420, .inl (upd f1 k y))), (q2, .inl (k2, 420, .inl (upd f2 k n))), (q7, .inl (k7, 420, .inr (.inl f7)))] H := hP
      have hD : va_D A [sO hs q1 q2 q7 q5 q6 bY bN fd, (q1, .inl (k1, 420, .inl (upd f1 k y))), (q2, .inl (k2, 420, .inl (upd f2 k n))), (q7, .inl (k7, 420, .inr (.inl f7)))] := hD
      refine lv_aload_n hx hb dX2_writeParts_25 rfl (lv_at hl 0 rfl) ?_
      refine va_get (D := (dC, dI)) (ci := 2) (v := .ref q7) (C := RX2) (T := TX2) (N := 8) hx hb htA inX2 hown hK hP 0 rfl rfl 2 (by decide) (htA _ lkX2_18) (fun _ h9 => h9) rfl dX2_writeParts_26 ?_
      refine lv_iload_n hx hb dX2_writeParts_29 rfl (lv_at hl 1 rfl) ?_
      refine lv_lload hx hb dX2_writeParts_30 (lv_at hl 4 rfl) ?_
      refine yv_last hx hb hK hP hD hS 3 2 rfl rfl (k := k) hk (by decide) dX2_writeParts_32 (fun H locs hP hD hS => ?_)
      have hP : va_P (dC, dI) vwCl [sO hs q1 q2 q7 q5 q6 bY bN fd, (q1, .inl (k1, 420, .inl (upd f1 k y))), (q2, .inl (k2, 420, .inl (upd f2 k n))), (q7, .inl (k7, 420, .inr (.inl (vp_updL f7 k w))))] H := hP
      have hD : va_D A [sO hs q1 q2 q7 q5 q6 bY bN fd, (q1, .inl (k1, 420, .inl (upd f1 k y))), (q2, .inl (k2, 420, .inl (upd f2 k n))), (q7, .inl (k7, 420, .inr (.inl (vp_updL f7 k w))))] := hD
      exact W.vret hx hb hr (fun t ht hW => ⟨⟨(upd f1 k y, upd f2 k n, vp_updL f7 k w), rfl, ⟨rfl, rfl, rfl⟩, by rw [ht]; exact hP, va_K.moved hW.alike hK, hD⟩, hS.F ht⟩) hS.2.2 dX2_writeParts_33
