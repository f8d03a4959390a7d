set_option maxHeartbeats 4000000 in
set_option maxRecDepth 100000 in
theorem c_giveReasons (l : Launch) (dC : Nat → ClassId) (dI : Nat → Nat → Nat) (h : Nat) (q1 : Nat) (q2 : Nat) (q3 : Nat) (q4 : Nat) (q5 : Nat) (q6 : Nat) (k5 : ClassId) (k6 : ClassId) (f5 : Nat → Int32) (f6 : Nat → Int32) (cc : Int32) (lv : Int32) (ac : Int32) (tc : Int32) (ty : Int32) (tn : Int32) (md : Int32) (st : Nat) (sz : Nat)  : Met l yX0_giveReasonsOfStart wsX0_giveReasonsOfStart ({ frames := 0, cells := 0, slots := 0, locals := 0 }) (va_Pc [.ref h, .int (nI st)] (fun U => U.heap.size = sz ∧ va_P (dC, dI) vwCl [yO h q1 q2 q3 q4 q5 q6 cc lv ac tc ty tn md, (q5, .inl (k5, 18, .inl f5)), (q6, .inl (k6, 18, .inl f6))] U.heap ∧ va_K (dC, dI) vwCl [(k5, .int), (k6, .int)] U ∧ va_D (fun _ => True) [yO h q1 q2 q3 q4 q5 q6 cc lv ac tc ty tn md, (q5, .inl (k5, 18, .inl f5)), (q6, .inl (k6, 18, .inl f6))])) (va_Qv (fun (u : (Nat → Int32) × (Nat → Int32)) => ∀ v, v < 18 → u.1 v = (262143 &&& (nI st ^^^ (-1))) &&& ((-2 : Int32) <<< (nI v &&& 31)) ∧ u.2 v = 0) (fun (u : (Nat → Int32) × (Nat → Int32)) (t : State) => va_P (dC, dI) vwCl [yO h q1 q2 q3 q4 q5 q6 cc lv ac tc ty tn md, (q5, .inl (k5, 18, .inl u.1)), (q6, .inl (k6, 18, .inl u.2))] t.heap ∧ va_K (dC, dI) vwCl [(k5, .int), (k6, .int)] t ∧ va_D (va_A [yO h q1 q2 q3 q4 q5 q6 cc lv ac tc ty tn md, (q5, .inl (k5, 18, .inl f5)), (q6, .inl (k6, 18, .inl f6))] sz) [yO h q1 q2 q3 q4 q5 q6 cc lv ac tc ty tn md, (q5, .inl (k5, 18, .inl u.1)), (q6, .inl (k6, 18, .inl u.2))]) (va_A [yO h q1 q2 q3 q4 q5 q6 cc lv ac tc ty tn md, (q5, .inl (k5, 18, .inl f5)), (q6, .inl (k6, 18, .inl f6))] sz)) 0 0 (va_A [yO h q1 q2 q3 q4 q5 q6 cc lv ac tc ty tn md, (q5, .inl (k5, 18, .inl f5)), (q6, .inl (k6, 18, .inl f6))] sz) := by
  refine Met.ofW (cc := cX0_giveReasonsOfStart) (maxL := 3) (ret := none) (by decide) rfl ?_
  intro p e s m args below meth c s₁ B hml hv
  obtain ⟨rfl, hsz, hP, hK, hD0⟩ := hv
  have hx := B.exec
  have hb := B.bytes
  have hr := B.returns
  have hts := atoms_spec (ws := wsX0_giveReasonsOfStart) B.pre
  have htA : ∀ w ∈ wsA, w.before _ s = true := fun w h => hts w (List.mem_cons_of_mem _ h)
  have hown : s.vm.findClass RX0 = some m.cls := findClass_of_methodNamed B.named
  have hlocks := B.notSynchronized
  subst hsz
  have hD := hD0.self (sz := s.heap.size)
  generalize hAe : va_A [yO h q1 q2 q3 q4 q5 q6 cc lv ac tc ty tn md, (q5, .inl (k5, 18, .inl f5)), (q6, .inl (k6, 18, .inl f6))] s.heap.size = A at hD ⊢
  have hA : ∀ q : Nat, s.heap.size ≤ q → A q := fun q h => by rw [← hAe]; exact Or.inr h
  have hS : va_S A s.heap s.heap [] := va_S.rf
  have hP : va_P (dC, dI) vwCl [yO h q1 q2 q3 q4 q5 q6 cc lv ac tc ty tn md, (q5, .inl (k5, 18, .inl f5)), (q6, .inl (k6, 18, .inl f6))] s.heap := hP
  have hl := lv_entry ([.ref h, .int (nI st)]) (n := 3) (Nat.le_of_ble_eq_true rfl)
  rw [lg_entry_eq]
  generalize (lg_sl ([.ref h, .int (nI st)]) ++ List.replicate (3 - (lg_sl ([.ref h, .int (nI st)])).length) Slot.unset).toArray = ls at hl ⊢
  have hl : lv_has ls 3 [(0, .ref h), (1, .int (nI st))] := hl
  refine lv_iconst (v := 0) hx hb dX0_giveReasonsOfStart_0 (by decide) ?_
  refine lv_istore_n (lv' := [(2, .int 0), (0, .ref h), (1, .int (nI st))]) hx hb dX0_giveReasonsOfStart_1 rfl hl (by decide) rfl (fun ls hl => ?_)
  have loop : ∀ (fu i : Nat) (g5 g6 : Nat → Int32), i ≤ 18 → 19 ≤ i + fu → (∀ v, v < i → g5 v = (262143 &&& (nI st ^^^ (-1))) &&& ((-2 : Int32) <<< (nI v &&& 31)) ∧ g6 v = 0) → ∀ (H : Heap) (locs : List Loc), va_P (dC, dI) vwCl [yO h q1 q2 q3 q4 q5 q6 cc lv ac tc ty tn md, (q5, .inl (k5, 18, .inl g5)), (q6, .inl (k6, 18, .inl g6))] H → va_D A [yO h q1 q2 q3 q4 q5 q6 cc lv ac tc ty tn md, (q5, .inl (k5, 18, .inl g5)), (q6, .inl (k6, 18, .inl g6))] → va_S A s.heap H locs → ∀ (ls : Array Slot), lv_has ls 3 [(2, .int (nI i)), (0, .ref h), (1, .int (nI st))] → W p l e (headSpec wsX0_giveReasonsOfStart ({ frames := 0, cells := 0, slots := 0, locals := 0 })).room s m ([.ref h, .int (nI st)] : List Value).toArray below meth c H locs 0 0 (MQ below (va_Qv (fun (u : (Nat → Int32) × (Nat → Int32)) => ∀ v, v < 18 → u.1 v = (262143 &&& (nI st ^^^ (-1))) &&& ((-2 : Int32) <<< (nI v &&& 31)) ∧ u.2 v = 0) (fun (u : (Nat → Int32) × (Nat → Int32)) (t : State) => va_P (dC, dI) vwCl [yO h q1 q2 q3 q4 q5 q6 cc lv ac tc ty tn md, (q5, .inl (k5, 18, .inl u.1)), (q6, .inl (k6, 18, .inl u.2))] t.heap ∧ va_K (dC, dI) vwCl [(k5, .int), (k6, .int)] t ∧ va_D A [yO h q1 q2 q3 q4 q5 q6 cc lv ac tc ty tn md, (q5, .inl (k5, 18, .inl u.1)), (q6, .inl (k6, 18, .inl u.2))]) A) ([.ref h, .int (nI st)] : List Value).toArray s 0 0 A) (F0 m 2 ls []) := by
    intro fu
    induction fu with
    | zero =>
      intro i g5 g6 h1 h2
      exact absurd h2 (by omega)
    | succ fu ih =>
      intro i g5 g6 hi hin hI H locs hP hD hS ls hl
      refine lv_iload_n hx hb dX0_giveReasonsOfStart_2 rfl (lv_at hl 0 rfl) ?_
      refine lv_bipush (v := 18) hx hb dX0_giveReasonsOfStart_3 (by decide) ?_
      refine lv_icmp_ge (tgt := 38) hx hb dX0_giveReasonsOfStart_5 (by decide) (fun cb_8 => ?_) (fun cb_8 => ?_)
      · have hie : i = 18 := by
          rcases Nat.lt_or_ge i 18 with q | q
          · exact absurd cb_8 (nI_ge (b := 18) q (by omega))
          · omega
        subst hie
        exact W.vret hx hb hr (fun t ht hW => ⟨⟨(g5, g6), rfl, hI, by rw [ht]; exact hP, va_K.moved hW.alike hK, hD⟩, hS.F ht⟩) hS.2.2 dX0_giveReasonsOfStart_38
      · have hlt : i < 18 := by
          rcases Nat.lt_or_ge i 18 with q | q
          · exact q
          · exact absurd (nI_le (a := 18) q (by omega)) cb_8
        refine lv_aload_n hx hb dX0_giveReasonsOfStart_8 rfl (lv_at hl 1 rfl) ?_
        refine va_get (D := (dC, dI)) (ci := 0) (v := .ref q5) (C := RX0) (T := TX0) (N := 13) hx hb htA inX0 hown hK hP 0 rfl rfl 4 (by decide) (htA _ lkX0_22) (fun _ h9 => h9) rfl dX0_giveReasonsOfStart_9 ?_
        refine lv_iload_n hx hb dX0_giveReasonsOfStart_12 rfl (lv_at hl 0 rfl) ?_
        refine lv_ldc (own := RX0) (v := 262143) hx hb hown (htA _ lkX0_108) dX0_giveReasonsOfStart_13 ?_
        refine lv_iload_n hx hb dX0_giveReasonsOfStart_15 rfl (lv_at hl 2 rfl) ?_
        refine lv_iconst (v := (-1)) hx hb dX0_giveReasonsOfStart_16 (by decide) ?_
        refine lv_ixor hx hb dX0_giveReasonsOfStart_17 ?_
        refine lv_iand hx hb dX0_giveReasonsOfStart_18 ?_
        refine lv_bipush (v := (-2)) hx hb dX0_giveReasonsOfStart_19 (by decide) ?_
        refine lv_iload_n hx hb dX0_giveReasonsOfStart_21 rfl (lv_at hl 0 rfl) ?_
        refine lv_ishl hx hb dX0_giveReasonsOfStart_22 ?_
        refine lv_iand hx hb dX0_giveReasonsOfStart_23 ?_
        refine yv_iast hx hb hK hP hD hS 1 0 rfl rfl (k := i) hlt (by decide) dX0_giveReasonsOfStart_24 (fun H locs hP hD hS => ?_)
        have hP : va_P (dC, dI) vwCl [yO h q1 q2 q3 q4 q5 q6 cc lv ac tc ty tn md, (q5, .inl (k5, 18, .inl (upd g5 i ((262143 &&& ((nI st) ^^^ (-1))) &&& ((-2 : Int32) <<< ((nI i) &&& 31)))))), (q6, .inl (k6, 18, .inl g6))] H := hP
        have hD : va_D A [yO h q1 q2 q3 q4 q5 q6 cc lv ac tc ty tn md, (q5, .inl (k5, 18, .inl (upd g5 i ((262143 &&& ((nI st) ^^^ (-1))) &&& ((-2 : Int32) <<< ((nI i) &&& 31)))))), (q6, .inl (k6, 18, .inl g6))] := hD
        refine lv_aload_n hx hb dX0_giveReasonsOfStart_25 rfl (lv_at hl 1 rfl) ?_
        refine va_get (D := (dC, dI)) (ci := 0) (v := .ref q6) (C := RX0) (T := TX0) (N := 13) hx hb htA inX0 hown hK hP 0 rfl rfl 5 (by decide) (htA _ lkX0_25) (fun _ h9 => h9) rfl dX0_giveReasonsOfStart_26 ?_
        refine lv_iload_n hx hb dX0_giveReasonsOfStart_29 rfl (lv_at hl 0 rfl) ?_
        refine lv_iconst (v := 0) hx hb dX0_giveReasonsOfStart_30 (by decide) ?_
        refine yv_iast hx hb hK hP hD hS 2 1 rfl rfl (k := i) hlt (by decide) dX0_giveReasonsOfStart_31 (fun H locs hP hD hS => ?_)
        have hP : va_P (dC, dI) vwCl [yO h q1 q2 q3 q4 q5 q6 cc lv ac tc ty tn md, (q5, .inl (k5, 18, .inl (upd g5 i ((262143 &&& ((nI st) ^^^ (-1))) &&& ((-2 : Int32) <<< ((nI i) &&& 31)))))), (q6, .inl (k6, 18, .inl (upd g6 i 0)))] H := hP
        have hD : va_D A [yO h q1 q2 q3 q4 q5 q6 cc lv ac tc ty tn md, (q5, .inl (k5, 18, .inl (upd g5 i ((262143 &&& ((nI st) ^^^ (-1))) &&& ((-2 : Int32) <<< ((nI i) &&& 31)))))), (q6, .inl (k6, 18, .inl (upd g6 i 0)))] := hD
        refine lv_iinc (v := nI (i + 1)) (lv' := [(2, .int (nI (i + 1))), (0, .ref h), (1, .int (nI st))]) hx hb dX0_giveReasonsOfStart_32 hl (k := 0) rfl (nI_1 _) (by decide) rfl (fun ls hl => ?_)
        refine lv_goto (tgt := 2) hx hb dX0_giveReasonsOfStart_35 (by decide) ?_
        refine ih (i + 1) _ _ hlt (by omega) ?_ _ _ hP hD hS ls (lv_sub hl [0, 1, 2] rfl)
        intro v hv
        by_cases e : v = i
        · subst e
          exact ⟨pk_us, pk_us⟩
        · rw [pk_un e, pk_un e]
          exact hI v (by omega)
  exact loop 19 0 f5 f6 (by omega) (by omega) (fun v hv => absurd hv (Nat.not_lt_zero v)) _ _ hP hD hS ls hl
set_option maxHeartbeats 4000000 in
set_option maxRecDepth 100000 in
theorem c_falseRow (l : Launch) (dC : Nat → ClassId) (dI : Nat → Nat → Nat) (h : Nat) (q1 : Nat) (q2 : Nat) (q3 : Nat) (q4 : Nat) (q5 : Nat) (q6 : Nat) (k1 : ClassId) (k2 : ClassId) (f1 : Nat → Int32) (f2 : Nat → Int32) (cc : Int32) (lv : Int32) (ac : Int32) (tc : Int32) (ty : Int32) (tn : Int32) (md : Int32) (cd : Nat) (rows : Nat) (sz : Nat) (hrows : rows ≤ 419) (hm : ∀ j, j < rows → ym (f1 j) ∧ ym (f2 j)) : Met l yX0_falseRow wsX0_falseRow ({ frames := 0, cells := 0, slots := 0, locals := 0 }) (va_Pc [.ref h, .int (nI cd), .int (nI rows)] (fun U => U.heap.size = sz ∧ va_P (dC, dI) vwCl [yO h q1 q2 q3 q4 q5 q6 cc lv ac tc ty tn md, (q1, .inl (k1, 419, .inl f1)), (q2, .inl (k2, 419, .inl f2))] U.heap ∧ va_K (dC, dI) vwCl [(k1, .int), (k2, .int)] U ∧ va_D (fun _ => True) [yO h q1 q2 q3 q4 q5 q6 cc lv ac tc ty tn md, (q1, .inl (k1, 419, .inl f1)), (q2, .inl (k2, 419, .inl f2))])) (va_Qi (fun (r : Int32) (u : Unit) => (r = -1 ∧ ∀ j, j < rows → ycl (f1 j) (f2 j) cd) ∨ ∃ j, j < rows ∧ r = nI j ∧ ¬ ycl (f1 j) (f2 j) cd) (fun (u : Unit) (t : State) => va_P (dC, dI) vwCl [yO h q1 q2 q3 q4 q5 q6 cc lv ac tc ty tn md, (q1, .inl (k1, 419, .inl f1)), (q2, .inl (k2, 419, .inl f2))] t.heap ∧ va_K (dC, dI) vwCl [(k1, .int), (k2, .int)] t ∧ va_D (va_A [yO h q1 q2 q3 q4 q5 q6 cc lv ac tc ty tn md, (q1, .inl (k1, 419, .inl f1)), (q2, .inl (k2, 419, .inl f2))] sz) [yO h q1 q2 q3 q4 q5 q6 cc lv ac tc ty tn md, (q1, .inl (k1, 419, .inl f1)), (q2, .inl (k2, 419, .inl f2))]) (va_A [yO h q1 q2 q3 q4 q5 q6 cc lv ac tc ty tn md, (q1, .inl (k1, 419, .inl f1)), (q2, .inl (k2, 419, .inl f2))] sz)) 0 0 (va_A [yO h q1 q2 q3 q4 q5 q6 cc lv ac tc ty tn md, (q1, .inl (k1, 419, .inl f1)), (q2, .inl (k2, 419, .inl f2))] sz) := by
  refine Met.ofW (cc := cX0_falseRow) (maxL := 8) (ret := (some .int)) (by decide) rfl ?_
  intro p e s m args below meth c s₁ B hml hv
  obtain ⟨rfl, hsz, hP, hK, hD0⟩ := hv
  have hx := B.exec
  have hb := B.bytes
  have hr := B.returns
  have hts := atoms_spec (ws := wsX0_falseRow) B.pre
  have htA : ∀ w ∈ wsA, w.before _ s = true := fun w h => hts w (List.mem_cons_of_mem _ h)
  have hown : s.vm.findClass RX0 = some m.cls := findClass_of_methodNamed B.named
  have hlocks := B.notSynchronized
  subst hsz
  have hD := hD0.self (sz := s.heap.size)
  generalize hAe : va_A [yO h q1 q2 q3 q4 q5 q6 cc lv ac tc ty tn md, (q1, .inl (k1, 419, .inl f1)), (q2, .inl (k2, 419, .inl f2))] s.heap.size = A at hD ⊢
  have hA : ∀ q : Nat, s.heap.size ≤ q → A q := fun q h => by rw [← hAe]; exact Or.inr h
  have hS : va_S A s.heap s.heap [] := va_S.rf
  have hP : va_P (dC, dI) vwCl [yO h q1 q2 q3 q4 q5 q6 cc lv ac tc ty tn md, (q1, .inl (k1, 419, .inl f1)), (q2, .inl (k2, 419, .inl f2))] s.heap := hP
  have hl := lv_entry ([.ref h, .int (nI cd), .int (nI rows)]) (n := 8) (Nat.le_of_ble_eq_true rfl)
  rw [lg_entry_eq]
  generalize (lg_sl ([.ref h, .int (nI cd), .int (nI rows)]) ++ List.replicate (8 - (lg_sl ([.ref h, .int (nI cd), .int (nI rows)])).length) Slot.unset).toArray = ls at hl ⊢
  have hl : lv_has ls 8 [(0, .ref h), (1, .int (nI cd)), (2, .int (nI rows))] := hl
  refine lv_iconst (v := (-1)) hx hb dX0_falseRow_0 (by decide) ?_
  refine lv_istore_n (lv' := [(3, .int (-1)), (0, .ref h), (1, .int (nI cd)), (2, .int (nI rows))]) hx hb dX0_falseRow_1 rfl hl (by decide) rfl (fun ls hl => ?_)
  refine lv_iconst (v := 0) hx hb dX0_falseRow_2 (by decide) ?_
  refine lv_istore (lv' := [(4, .int 0), (3, .int (-1)), (0, .ref h), (1, .int (nI cd)), (2, .int (nI rows))]) hx hb dX0_falseRow_3 hl (by decide) rfl (fun ls hl => ?_)
  refine lv_iconst (v := 0) hx hb dX0_falseRow_5 (by decide) ?_
  refine lv_istore (lv' := [(5, .int 0), (4, .int 0), (3, .int (-1)), (0, .ref h), (1, .int (nI cd)), (2, .int (nI rows))]) hx hb dX0_falseRow_6 hl (by decide) rfl (fun ls hl => ?_)
  have loop : ∀ (fu i : Nat) (x3 x4 : Int32), i ≤ rows → rows + 1 ≤ i + fu → ((x3 = -1 ∧ x4 = 0 ∧ ∀ j, j < i → ycl (f1 j) (f2 j) cd) ∨ ∃ j, j < rows ∧ x3 = nI j ∧ ¬ ycl (f1 j) (f2 j) cd) → ∀ (ls : Array Slot), lv_has ls 8 [(5, .int (nI i)), (4, .int x4), (3, .int x3), (0, .ref h), (1, .int (nI cd)), (2, .int (nI rows))] → W p l e (headSpec wsX0_falseRow ({ frames := 0, cells := 0, slots := 0, locals := 0 })).room s m ([.ref h, .int (nI cd), .int (nI rows)] : List Value).toArray below meth c s.heap [] 0 0 (MQ below (va_Qi (fun (r : Int32) (u : Unit) => (r = -1 ∧ ∀ j, j < rows → ycl (f1 j) (f2 j) cd) ∨ ∃ j, j < rows ∧ r = nI j ∧ ¬ ycl (f1 j) (f2 j) cd) (fun (u : Unit) (t : State) => va_P (dC, dI) vwCl [yO h q1 q2 q3 q4 q5 q6 cc lv ac tc ty tn md, (q1, .inl (k1, 419, .inl f1)), (q2, .inl (k2, 419, .inl f2))] t.heap ∧ va_K (dC, dI) vwCl [(k1, .int), (k2, .int)] t ∧ va_D A [yO h q1 q2 q3 q4 q5 q6 cc lv ac tc ty tn md, (q1, .inl (k1, 419, .inl f1)), (q2, .inl (k2, 419, .inl f2))]) A) ([.ref h, .int (nI cd), .int (nI rows)] : List Value).toArray s 0 0 A) (F0 m 8 ls []) := by
    intro fu
    induction fu with
    | zero =>
      intro i x3 x4 h1 h2
      exact absurd h2 (by omega)
    | succ fu ih =>
      intro i x3 x4 hi hin hI ls hl
      refine lv_iload hx hb dX0_falseRow_8 (lv_at hl 0 rfl) ?_
      refine lv_iload_n hx hb dX0_falseRow_10 rfl (lv_at hl 5 rfl) ?_
      refine lv_icmp_ge (tgt := 99) hx hb dX0_falseRow_11 (by decide) (fun cb_9 => ?_) (fun cb_9 => ?_)
      · have hie : i = rows := by
          rcases Nat.lt_or_ge i rows with q | q
          · exact absurd cb_9 (nI_ge q (by omega))
          · omega
        subst hie
        refine lv_iload_n hx hb dX0_falseRow_99 rfl (lv_at hl 2 rfl) ?_
        exact W.iret (v := x3) hx hb hr (fun t ht hW => ⟨⟨x3, (), rfl, hI.elim (fun q => Or.inl ⟨q.1, q.2.2⟩) Or.inr, by rw [ht]; exact hP, va_K.moved hW.alike hK, hD⟩, hS.F ht⟩) hS.2.2 dX0_falseRow_100
      · have hir : i < rows := by
          rcases Nat.lt_or_ge i rows with q | q
          · exact q
          · exact absurd (nI_le q (by omega)) cb_9
        have hlt : i < 419 := by omega
        refine lv_iload hx hb dX0_falseRow_14 (lv_at hl 0 rfl) ?_
        refine lv_sipush (v := 419) hx hb dX0_falseRow_16 (by decide) ?_
        refine lv_icmp_ge (tgt := 99) hx hb dX0_falseRow_19 (by decide) (fun cb_10 => ?_) (fun cb_10 => ?_)
        · exact absurd cb_10 (nI_ge (b := 419) hlt (by omega))
        · refine lv_aload_n hx hb dX0_falseRow_22 rfl (lv_at hl 3 rfl) ?_
          refine va_get (D := (dC, dI)) (ci := 0) (v := .ref q1) (C := RX0) (T := TX0) (N := 13) hx hb htA inX0 hown hK hP 0 rfl rfl 0 (by decide) (htA _ lkX0_9) (fun _ h9 => h9) rfl dX0_falseRow_23 ?_
          refine lv_iload hx hb dX0_falseRow_26 (lv_at hl 0 rfl) ?_
          refine yv_iald hx hb hK hP 1 0 rfl rfl (k := i) hlt (by decide) dX0_falseRow_28 ?_
          refine lv_iload_n hx hb dX0_falseRow_29 rfl (lv_at hl 4 rfl) ?_
          refine lv_iand hx hb dX0_falseRow_30 ?_
          refine lv_aload_n hx hb dX0_falseRow_31 rfl (lv_at hl 3 rfl) ?_
          refine va_get (D := (dC, dI)) (ci := 0) (v := .ref q2) (C := RX0) (T := TX0) (N := 13) hx hb htA inX0 hown hK hP 0 rfl rfl 1 (by decide) (htA _ lkX0_13) (fun _ h9 => h9) rfl dX0_falseRow_32 ?_
          refine lv_iload hx hb dX0_falseRow_35 (lv_at hl 0 rfl) ?_
          refine yv_iald hx hb hK hP 2 1 rfl rfl (k := i) hlt (by decide) dX0_falseRow_37 ?_
          refine lv_iload_n hx hb dX0_falseRow_38 rfl (lv_at hl 4 rfl) ?_
          refine lv_iconst (v := (-1)) hx hb dX0_falseRow_39 (by decide) ?_
          refine lv_ixor hx hb dX0_falseRow_40 ?_
          refine lv_iand hx hb dX0_falseRow_41 ?_
          refine lv_ior hx hb dX0_falseRow_42 ?_
          refine lv_if_ne (tgt := 93) hx hb dX0_falseRow_43 (by decide) (fun cb_11 => ?_) (fun cb_11 => ?_)
          · have hcl : ycl (f1 i) (f2 i) cd := by
              by_cases q : ycl (f1 i) (f2 i) cd
              · exact q
              · exact absurd ((ycl_test (hm i hir).1 (hm i hir).2).mpr q) cb_11
            refine lv_iinc (v := nI (i + 1)) (lv' := [(5, .int (nI (i + 1))), (4, .int x4), (3, .int x3), (0, .ref h), (1, .int (nI cd)), (2, .int (nI rows))]) hx hb dX0_falseRow_93 hl (k := 0) rfl (nI_1 _) (by decide) rfl (fun ls hl => ?_)
            refine lv_goto (tgt := 8) hx hb dX0_falseRow_96 (by decide) ?_
            refine ih (i + 1) x3 x4 hir (by omega) ?_ ls (lv_sub hl [0, 1, 2, 3, 4, 5] rfl)
            rcases hI with ⟨h1, h2, h3⟩ | h
            · refine Or.inl ⟨h1, h2, fun j hj => ?_⟩
              by_cases e : j = i
              · rw [e]; exact hcl
              · exact h3 j (by omega)
            · exact Or.inr h
          · have hcl : ¬ ycl (f1 i) (f2 i) cd := (ycl_test (hm i hir).1 (hm i hir).2).mp cb_11
            refine lv_aload_n hx hb dX0_falseRow_46 rfl (lv_at hl 3 rfl) ?_
            refine va_get (D := (dC, dI)) (ci := 0) (v := .ref q1) (C := RX0) (T := TX0) (N := 13) hx hb htA inX0 hown hK hP 0 rfl rfl 0 (by decide) (htA _ lkX0_9) (fun _ h9 => h9) rfl dX0_falseRow_47 ?_
            refine lv_iload hx hb dX0_falseRow_50 (lv_at hl 0 rfl) ?_
            refine yv_iald hx hb hK hP 1 0 rfl rfl (k := i) hlt (by decide) dX0_falseRow_52 ?_
            refine lv_aload_n hx hb dX0_falseRow_53 rfl (lv_at hl 3 rfl) ?_
            refine va_get (D := (dC, dI)) (ci := 0) (v := .ref q2) (C := RX0) (T := TX0) (N := 13) hx hb htA inX0 hown hK hP 0 rfl rfl 1 (by decide) (htA _ lkX0_13) (fun _ h9 => h9) rfl dX0_falseRow_54 ?_
            refine lv_iload hx hb dX0_falseRow_57 (lv_at hl 0 rfl) ?_
            refine yv_iald hx hb hK hP 2 1 rfl rfl (k := i) hlt (by decide) dX0_falseRow_59 ?_
            refine lv_ior hx hb dX0_falseRow_60 ?_
            refine lv_istore (lv' := [(6, .int ((f1 i) ||| (f2 i))), (5, .int (nI i)), (4, .int x4), (3, .int x3), (0, .ref h), (1, .int (nI cd)), (2, .int (nI rows))]) hx hb dX0_falseRow_61 hl (by decide) rfl (fun ls hl => ?_)
            refine lv_iload hx hb dX0_falseRow_63 (lv_at hl 0 rfl) ?_
            refine lv_iload hx hb dX0_falseRow_65 (lv_at hl 0 rfl) ?_
            refine lv_ineg hx hb dX0_falseRow_67 ?_
            refine lv_iand hx hb dX0_falseRow_68 ?_
            refine lv_istore (lv' := [(7, .int (((f1 i) ||| (f2 i)) &&& (-((f1 i) ||| (f2 i))))), (6, .int ((f1 i) ||| (f2 i))), (5, .int (nI i)), (4, .int x4), (3, .int x3), (0, .ref h), (1, .int (nI cd)), (2, .int (nI rows))]) hx hb dX0_falseRow_69 hl (by decide) rfl (fun ls hl => ?_)
            refine lv_iload hx hb dX0_falseRow_71 (lv_at hl 0 rfl) ?_
            refine lv_if_ne (tgt := 79) hx hb dX0_falseRow_73 (by decide) (fun cb_12 => ?_) (fun cb_12 => ?_)
            · refine lv_iload hx hb dX0_falseRow_79 (lv_at hl 0 rfl) ?_
              refine lv_iload hx hb dX0_falseRow_81 (lv_at hl 3 rfl) ?_
              refine lv_icmp_le (tgt := 93) hx hb dX0_falseRow_83 (by decide) (fun cb_13 => ?_) (fun cb_13 => ?_)
              · refine lv_iinc (v := nI (i + 1)) (lv' := [(5, .int (nI (i + 1))), (7, .int (((f1 i) ||| (f2 i)) &&& (-((f1 i) ||| (f2 i))))), (6, .int ((f1 i) ||| (f2 i))), (4, .int x4), (3, .int x3), (0, .ref h), (1, .int (nI cd)), (2, .int (nI rows))]) hx hb dX0_falseRow_93 hl (k := 2) rfl (nI_1 _) (by decide) rfl (fun ls hl => ?_)
                refine lv_goto (tgt := 8) hx hb dX0_falseRow_96 (by decide) ?_
                refine ih (i + 1) x3 x4 hir (by omega) ?_ ls (lv_sub hl [0, 3, 4, 5, 6, 7] rfl)
                rcases hI with ⟨h1, h2, h3⟩ | h
                · exfalso
                  rw [h2] at cb_13
                  exact cb_12 (Int32.le_antisymm cb_13 (Int32.not_lt.mp (y_low (hm i hir).1 (hm i hir).2 _)))
                · exact Or.inr h
              · refine lv_iload hx hb dX0_falseRow_86 (lv_at hl 2 rfl) ?_
                refine lv_istore_n (lv' := [(3, .int (nI i)), (7, .int (((f1 i) ||| (f2 i)) &&& (-((f1 i) ||| (f2 i))))), (6, .int ((f1 i) ||| (f2 i))), (5, .int (nI i)), (4, .int x4), (0, .ref h), (1, .int (nI cd)), (2, .int (nI rows))]) hx hb dX0_falseRow_88 rfl hl (by decide) rfl (fun ls hl => ?_)
                refine lv_iload hx hb dX0_falseRow_89 (lv_at hl 1 rfl) ?_
                refine lv_istore (lv' := [(4, .int (((f1 i) ||| (f2 i)) &&& (-((f1 i) ||| (f2 i))))), (3, .int (nI i)), (7, .int (((f1 i) ||| (f2 i)) &&& (-((f1 i) ||| (f2 i))))), (6, .int ((f1 i) ||| (f2 i))), (5, .int (nI i)), (0, .ref h), (1, .int (nI cd)), (2, .int (nI rows))]) hx hb dX0_falseRow_91 hl (by decide) rfl (fun ls hl => ?_)
                refine lv_iinc (v := nI (i + 1)) (lv' := [(5, .int (nI (i + 1))), (4, .int (((f1 i) ||| (f2 i)) &&& (-((f1 i) ||| (f2 i))))), (3, .int (nI i)), (7, .int (((f1 i) ||| (f2 i)) &&& (-((f1 i) ||| (f2 i))))), (6, .int ((f1 i) ||| (f2 i))), (0, .ref h), (1, .int (nI cd)), (2, .int (nI rows))]) hx hb dX0_falseRow_93 hl (k := 4) rfl (nI_1 _) (by decide) rfl (fun ls hl => ?_)
                refine lv_goto (tgt := 8) hx hb dX0_falseRow_96 (by decide) ?_
                exact ih (i + 1) _ _ hir (by omega) (Or.inr ⟨i, hir, rfl, hcl⟩) ls (lv_sub hl [0, 1, 2, 5, 6, 7] rfl)
            · refine lv_iload hx hb dX0_falseRow_76 (lv_at hl 2 rfl) ?_
              exact W.iret (v := nI i) hx hb hr (fun t ht hW => ⟨⟨nI i, (), rfl, Or.inr ⟨i, hir, rfl, hcl⟩, by rw [ht]; exact hP, va_K.moved hW.alike hK, hD⟩, hS.F ht⟩) hS.2.2 dX0_falseRow_78
  exact loop (rows + 1) 0 (-1) 0 (by omega) (by omega) (Or.inl ⟨rfl, rfl, fun j hj => absurd hj (Nat.not_lt_zero j)⟩) ls hl
set_option maxHeartbeats 4000000 in
set_option maxRecDepth 100000 in
theorem c_leap (l : Launch) (dC : Nat → ClassId) (dI : Nat → Nat → Nat) (h : Nat) (q1 : Nat) (q2 : Nat) (q3 : Nat) (q4 : Nat) (q5 : Nat) (q6 : Nat) (k5 : ClassId) (k6 : ClassId) (f5 : Nat → Int32) (f6 : Nat → Int32) (cc : Int32) (lv : Int32) (ac : Int32) (tc : Int32) (ty : Int32) (tn : Int32) (md : Int32) (cd : Nat) (y : Int32) (n : Int32) (G : Nat → Prop) (sz : Nat) (hcd : cd < 262144) (hR : yRI G cd f5 f6) (hI0 : yLI G cd 0 y n) : Met l yX0_leap wsX0_leap ({ frames := 0, cells := 0, slots := 0, locals := 0 }) (va_Pc [.ref h, .int (nI cd), .int y, .int n] (fun U => U.heap.size = sz ∧ va_P (dC, dI) vwCl [yO h q1 q2 q3 q4 q5 q6 cc lv ac tc ty tn md, (q5, .inl (k5, 18, .inl f5)), (q6, .inl (k6, 18, .inl f6))] U.heap ∧ va_K (dC, dI) vwCl [(k5, .int), (k6, .int)] U ∧ va_D (fun _ => True) [yO h q1 q2 q3 q4 q5 q6 cc lv ac tc ty tn md, (q5, .inl (k5, 18, .inl f5)), (q6, .inl (k6, 18, .inl f6))])) (va_Qi (fun (r : Int32) (u : (Nat → Int32) × (Nat → Int32)) => (r = -1 ∧ ∀ a, ¬ G a) ∨ ∃ c2, r = nI c2 ∧ c2 < 262144 ∧ cd < c2 ∧ yRI G c2 u.1 u.2) (fun (u : (Nat → Int32) × (Nat → Int32)) (t : State) => va_P (dC, dI) vwCl [yO h q1 q2 q3 q4 q5 q6 cc lv ac tc ty tn md, (q5, .inl (k5, 18, .inl u.1)), (q6, .inl (k6, 18, .inl u.2))] t.heap ∧ va_K (dC, dI) vwCl [(k5, .int), (k6, .int)] t ∧ va_D (va_A [yO h q1 q2 q3 q4 q5 q6 cc lv ac tc ty tn md, (q5, .inl (k5, 18, .inl f5)), (q6, .inl (k6, 18, .inl f6))] sz) [yO h q1 q2 q3 q4 q5 q6 cc lv ac tc ty tn md, (q5, .inl (k5, 18, .inl u.1)), (q6, .inl (k6, 18, .inl u.2))]) (va_A [yO h q1 q2 q3 q4 q5 q6 cc lv ac tc ty tn md, (q5, .inl (k5, 18, .inl f5)), (q6, .inl (k6, 18, .inl f6))] sz)) 0 0 (va_A [yO h q1 q2 q3 q4 q5 q6 cc lv ac tc ty tn md, (q5, .inl (k5, 18, .inl f5)), (q6, .inl (k6, 18, .inl f6))] sz) := by
  refine Met.ofW (cc := cX0_leap) (maxL := 8) (ret := (some .int)) (by decide) rfl ?_
  intro p e s m args below meth c s₁ B hml hv
  obtain ⟨rfl, hsz, hP, hK, hD0⟩ := hv
  have hx := B.exec
  have hb := B.bytes
  have hr := B.returns
  have hts := atoms_spec (ws := wsX0_leap) B.pre
  have htA : ∀ w ∈ wsA, w.before _ s = true := fun w h => hts w (List.mem_cons_of_mem _ h)
  have hown : s.vm.findClass RX0 = some m.cls := findClass_of_methodNamed B.named
  have hlocks := B.notSynchronized
  subst hsz
  have hD := hD0.self (sz := s.heap.size)
  generalize hAe : va_A [yO h q1 q2 q3 q4 q5 q6 cc lv ac tc ty tn md, (q5, .inl (k5, 18, .inl f5)), (q6, .inl (k6, 18, .inl f6))] s.heap.size = A at hD ⊢
  have hA : ∀ q : Nat, s.heap.size ≤ q → A q := fun q h => by rw [← hAe]; exact Or.inr h
  have hS : va_S A s.heap s.heap [] := va_S.rf
  have hP : va_P (dC, dI) vwCl [yO h q1 q2 q3 q4 q5 q6 cc lv ac tc ty tn md, (q5, .inl (k5, 18, .inl f5)), (q6, .inl (k6, 18, .inl f6))] s.heap := hP
  have hl := lv_entry ([.ref h, .int (nI cd), .int y, .int n]) (n := 8) (Nat.le_of_ble_eq_true rfl)
  rw [lg_entry_eq]
  generalize (lg_sl ([.ref h, .int (nI cd), .int y, .int n]) ++ List.replicate (8 - (lg_sl ([.ref h, .int (nI cd), .int y, .int n])).length) Slot.unset).toArray = ls at hl ⊢
  have hl : lv_has ls 8 [(0, .ref h), (1, .int (nI cd)), (2, .int y), (3, .int n)] := hl
  refine lv_iload_n hx hb dX0_leap_0 rfl (lv_at hl 2 rfl) ?_
  refine lv_istore (lv' := [(4, .int y), (0, .ref h), (1, .int (nI cd)), (2, .int y), (3, .int n)]) hx hb dX0_leap_1 hl (by decide) rfl (fun ls hl => ?_)
  refine lv_iload_n hx hb dX0_leap_3 rfl (lv_at hl 4 rfl) ?_
  refine lv_istore (lv' := [(5, .int n), (4, .int y), (0, .ref h), (1, .int (nI cd)), (2, .int y), (3, .int n)]) hx hb dX0_leap_4 hl (by decide) rfl (fun ls hl => ?_)
  refine lv_iconst (v := 0) hx hb dX0_leap_6 (by decide) ?_
  refine lv_istore (lv' := [(6, .int 0), (5, .int n), (4, .int y), (0, .ref h), (1, .int (nI cd)), (2, .int y), (3, .int n)]) hx hb dX0_leap_7 hl (by decide) rfl (fun ls hl => ?_)
  have loop : ∀ (fu v : Nat) (x4 x5 : Int32), v ≤ 18 → 19 ≤ v + fu → yLI G cd v x4 x5 → ∀ (ls : Array Slot), lv_has ls 8 [(6, .int (nI v)), (5, .int x5), (4, .int x4), (0, .ref h), (1, .int (nI cd))] → W p l e (headSpec wsX0_leap ({ frames := 0, cells := 0, slots := 0, locals := 0 })).room s m ([.ref h, .int (nI cd), .int y, .int n] : List Value).toArray below meth c s.heap [] 0 0 (MQ below (va_Qi (fun (r : Int32) (u : (Nat → Int32) × (Nat → Int32)) => (r = -1 ∧ ∀ a, ¬ G a) ∨ ∃ c2, r = nI c2 ∧ c2 < 262144 ∧ cd < c2 ∧ yRI G c2 u.1 u.2) (fun (u : (Nat → Int32) × (Nat → Int32)) (t : State) => va_P (dC, dI) vwCl [yO h q1 q2 q3 q4 q5 q6 cc lv ac tc ty tn md, (q5, .inl (k5, 18, .inl u.1)), (q6, .inl (k6, 18, .inl u.2))] t.heap ∧ va_K (dC, dI) vwCl [(k5, .int), (k6, .int)] t ∧ va_D A [yO h q1 q2 q3 q4 q5 q6 cc lv ac tc ty tn md, (q5, .inl (k5, 18, .inl u.1)), (q6, .inl (k6, 18, .inl u.2))]) A) ([.ref h, .int (nI cd), .int y, .int n] : List Value).toArray s 0 0 A) (F0 m 9 ls []) := by
    intro fu
    induction fu with
    | zero =>
      intro v x4 x5 h1 h2
      exact absurd h2 (by omega)
    | succ fu ih =>
      intro v x4 x5 hv hin hI ls hl
      refine lv_iload hx hb dX0_leap_9 (lv_at hl 0 rfl) ?_
      refine lv_bipush (v := 18) hx hb dX0_leap_11 (by decide) ?_
      refine lv_icmp_ge (tgt := 105) hx hb dX0_leap_13 (by decide) (fun cb_14 => ?_) (fun cb_14 => ?_)
      · have hve : v = 18 := by
          rcases Nat.lt_or_ge v 18 with q | q
          · exact absurd cb_14 (nI_ge (b := 18) q (by omega))
          · omega
        subst hve
        refine lv_iconst (v := (-1)) hx hb dX0_leap_105 (by decide) ?_
        exact W.iret (v := (-1)) hx hb hr (fun t ht hW => ⟨⟨(-1), (f5, f6), rfl, Or.inl ⟨rfl, yLI_end hI⟩, by rw [ht]; exact hP, va_K.moved hW.alike hK, hD⟩, hS.F ht⟩) hS.2.2 dX0_leap_106
      · have hlt : v < 18 := by
          rcases Nat.lt_or_ge v 18 with q | q
          · exact q
          · exact absurd (nI_le (a := 18) q (by omega)) cb_14
        refine lv_iconst (v := 1) hx hb dX0_leap_16 (by decide) ?_
        refine lv_iload hx hb dX0_leap_17 (lv_at hl 0 rfl) ?_
        refine lv_ishl hx hb dX0_leap_19 ?_
        refine lv_istore (lv' := [(7, .int ((1 : Int32) <<< ((nI v) &&& 31))), (6, .int (nI v)), (5, .int x5), (4, .int x4), (0, .ref h), (1, .int (nI cd))]) hx hb dX0_leap_20 hl (by decide) rfl (fun ls hl => ?_)
        refine lv_iload hx hb dX0_leap_22 (lv_at hl 3 rfl) ?_
        refine lv_iload hx hb dX0_leap_24 (lv_at hl 0 rfl) ?_
        refine lv_iand hx hb dX0_leap_26 ?_
        refine lv_if_eq (tgt := 62) hx hb dX0_leap_27 (by decide) (fun cb_15 => ?_) (fun cb_15 => ?_)
        · have hn4 := (yb_at hlt).mp cb_15
          refine lv_iload hx hb dX0_leap_62 (lv_at hl 2 rfl) ?_
          refine lv_iload hx hb dX0_leap_64 (lv_at hl 0 rfl) ?_
          refine lv_iand hx hb dX0_leap_66 ?_
          refine lv_if_eq (tgt := 99) hx hb dX0_leap_67 (by decide) (fun cb_16 => ?_) (fun cb_16 => ?_)
          · refine lv_iinc (v := nI (v + 1)) (lv' := [(6, .int (nI (v + 1))), (7, .int ((1 : Int32) <<< ((nI v) &&& 31))), (5, .int x5), (4, .int x4), (0, .ref h), (1, .int (nI cd))]) hx hb dX0_leap_99 hl (k := 1) rfl (nI_1 _) (by decide) rfl (fun ls hl => ?_)
            refine lv_goto (tgt := 9) hx hb dX0_leap_102 (by decide) ?_
            exact ih (v + 1) _ _ hlt (by omega) (yLI_skip hI hn4 ((yb_at hlt).mp cb_16)) ls (lv_sub hl [0, 2, 3, 4, 5] rfl)
          · refine lv_iload hx hb dX0_leap_70 (lv_at hl 3 rfl) ?_
            refine lv_aload_n hx hb dX0_leap_72 rfl (lv_at hl 4 rfl) ?_
            refine va_get (D := (dC, dI)) (ci := 0) (v := .ref q5) (C := RX0) (T := TX0) (N := 13) hx hb htA inX0 hown hK hP 0 rfl rfl 4 (by decide) (htA _ lkX0_22) (fun _ h9 => h9) rfl dX0_leap_73 ?_
            refine lv_iload hx hb dX0_leap_76 (lv_at hl 1 rfl) ?_
            refine yv_iald hx hb hK hP 1 0 rfl rfl (k := v) hlt (by decide) dX0_leap_78 ?_
            refine lv_ior hx hb dX0_leap_79 ?_
            refine lv_istore (lv' := [(4, .int (x4 ||| (f5 v))), (7, .int ((1 : Int32) <<< ((nI v) &&& 31))), (6, .int (nI v)), (5, .int x5), (0, .ref h), (1, .int (nI cd))]) hx hb dX0_leap_80 hl (by decide) rfl (fun ls hl => ?_)
            refine lv_iload hx hb dX0_leap_82 (lv_at hl 3 rfl) ?_
            refine lv_iload hx hb dX0_leap_84 (lv_at hl 1 rfl) ?_
            refine lv_iconst (v := (-1)) hx hb dX0_leap_86 (by decide) ?_
            refine lv_ixor hx hb dX0_leap_87 ?_
            refine lv_iand hx hb dX0_leap_88 ?_
            refine lv_aload_n hx hb dX0_leap_89 rfl (lv_at hl 4 rfl) ?_
            refine va_get (D := (dC, dI)) (ci := 0) (v := .ref q6) (C := RX0) (T := TX0) (N := 13) hx hb htA inX0 hown hK hP 0 rfl rfl 5 (by decide) (htA _ lkX0_25) (fun _ h9 => h9) rfl dX0_leap_90 ?_
            refine lv_iload hx hb dX0_leap_93 (lv_at hl 2 rfl) ?_
            refine yv_iald hx hb hK hP 2 1 rfl rfl (k := v) hlt (by decide) dX0_leap_95 ?_
            refine lv_ior hx hb dX0_leap_96 ?_
            refine lv_istore (lv' := [(5, .int ((x5 &&& (((1 : Int32) <<< ((nI v) &&& 31)) ^^^ (-1))) ||| (f6 v))), (4, .int (x4 ||| (f5 v))), (7, .int ((1 : Int32) <<< ((nI v) &&& 31))), (6, .int (nI v)), (0, .ref h), (1, .int (nI cd))]) hx hb dX0_leap_97 hl (by decide) rfl (fun ls hl => ?_)
            refine lv_iinc (v := nI (v + 1)) (lv' := [(6, .int (nI (v + 1))), (5, .int ((x5 &&& (((1 : Int32) <<< ((nI v) &&& 31)) ^^^ (-1))) ||| (f6 v))), (4, .int (x4 ||| (f5 v))), (7, .int ((1 : Int32) <<< ((nI v) &&& 31))), (0, .ref h), (1, .int (nI cd))]) hx hb dX0_leap_99 hl (k := 3) rfl (nI_1 _) (by decide) rfl (fun ls hl => ?_)
            refine lv_goto (tgt := 9) hx hb dX0_leap_102 (by decide) ?_
            exact ih (v + 1) _ _ hlt (by omega) (yLI_res hlt hI hR hn4 (Decidable.byContradiction (fun q => cb_16 ((yb_at hlt).mpr q)))) ls (lv_sub hl [0, 1, 2, 4, 5] rfl)
        · obtain ⟨c2, z1, z2, z3, z4⟩ := yLI_leap hcd hlt hI hR (Decidable.byContradiction (fun q => cb_15 ((yb_at hlt).mpr q)))
          refine lv_aload_n hx hb dX0_leap_30 rfl (lv_at hl 4 rfl) ?_
          refine va_get (D := (dC, dI)) (ci := 0) (v := .ref q5) (C := RX0) (T := TX0) (N := 13) hx hb htA inX0 hown hK hP 0 rfl rfl 4 (by decide) (htA _ lkX0_22) (fun _ h9 => h9) rfl dX0_leap_31 ?_
          refine lv_iload hx hb dX0_leap_34 (lv_at hl 1 rfl) ?_
          refine lv_iload hx hb dX0_leap_36 (lv_at hl 3 rfl) ?_
          refine lv_iload hx hb dX0_leap_38 (lv_at hl 0 rfl) ?_
          refine lv_iconst (v := (-1)) hx hb dX0_leap_40 (by decide) ?_
          refine lv_ixor hx hb dX0_leap_41 ?_
          refine lv_iand hx hb dX0_leap_42 ?_
          refine yv_iast hx hb hK hP hD hS 1 0 rfl rfl (k := v) hlt (by decide) dX0_leap_43 (fun H locs hP hD hS => ?_)
          have hP : va_P (dC, dI) vwCl [yO h q1 q2 q3 q4 q5 q6 cc lv ac tc ty tn md, (q5, .inl (k5, 18, .inl (upd f5 v (x4 &&& (((1 : Int32) <<< ((nI v) &&& 31)) ^^^ (-1)))))), (q6, .inl (k6, 18, .inl f6))] H := hP
          have hD : va_D A [yO h q1 q2 q3 q4 q5 q6 cc lv ac tc ty tn md, (q5, .inl (k5, 18, .inl (upd f5 v (x4 &&& (((1 : Int32) <<< ((nI v) &&& 31)) ^^^ (-1)))))), (q6, .inl (k6, 18, .inl f6))] := hD
          refine lv_aload_n hx hb dX0_leap_44 rfl (lv_at hl 4 rfl) ?_
          refine va_get (D := (dC, dI)) (ci := 0) (v := .ref q6) (C := RX0) (T := TX0) (N := 13) hx hb htA inX0 hown hK hP 0 rfl rfl 5 (by decide) (htA _ lkX0_25) (fun _ h9 => h9) rfl dX0_leap_45 ?_
          refine lv_iload hx hb dX0_leap_48 (lv_at hl 1 rfl) ?_
          refine lv_iload hx hb dX0_leap_50 (lv_at hl 2 rfl) ?_
          refine yv_iast hx hb hK hP hD hS 2 1 rfl rfl (k := v) hlt (by decide) dX0_leap_52 (fun H locs hP hD hS => ?_)
          have hP : va_P (dC, dI) vwCl [yO h q1 q2 q3 q4 q5 q6 cc lv ac tc ty tn md, (q5, .inl (k5, 18, .inl (upd f5 v (x4 &&& (((1 : Int32) <<< ((nI v) &&& 31)) ^^^ (-1)))))), (q6, .inl (k6, 18, .inl (upd f6 v x5)))] H := hP
          have hD : va_D A [yO h q1 q2 q3 q4 q5 q6 cc lv ac tc ty tn md, (q5, .inl (k5, 18, .inl (upd f5 v (x4 &&& (((1 : Int32) <<< ((nI v) &&& 31)) ^^^ (-1)))))), (q6, .inl (k6, 18, .inl (upd f6 v x5)))] := hD
          refine lv_iload_n hx hb dX0_leap_53 rfl (lv_at hl 5 rfl) ?_
          refine lv_iload hx hb dX0_leap_54 (lv_at hl 0 rfl) ?_
          refine lv_ior hx hb dX0_leap_56 ?_
          refine lv_iload hx hb dX0_leap_57 (lv_at hl 0 rfl) ?_
          refine lv_ineg hx hb dX0_leap_59 ?_
          refine lv_iand hx hb dX0_leap_60 ?_
          exact W.iret (v := ((nI cd) ||| ((1 : Int32) <<< ((nI v) &&& 31))) &&& (-((1 : Int32) <<< ((nI v) &&& 31)))) hx hb hr (fun t ht hW => ⟨⟨((nI cd) ||| ((1 : Int32) <<< ((nI v) &&& 31))) &&& (-((1 : Int32) <<< ((nI v) &&& 31))), (_, _), rfl, Or.inr ⟨c2, z3, z1, z2, z4⟩, by rw [ht]; exact hP, va_K.moved hW.alike hK, hD⟩, hS.F ht⟩) hS.2.2 dX0_leap_61
  exact loop 19 0 y n (by omega) (by omega) hI0 ls (lv_sub hl [0, 1, 2, 3, 4] rfl)
