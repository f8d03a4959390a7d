/-- one assumption more is written behind the rows -/
theorem yWA {cc i rows : Nat} {f1 f2 f4 g1 g2 d1 d2 : Nat → Int32} {f7 g7 d7 : Nat → Int64} {w : Int64} {lo : Int32} (hI : cc ≤ rows ∧ rows ≤ cc + i ∧ (∀ j, j < cc → g1 j = f1 j ∧ g2 j = f2 j ∧ g7 j = f7 j) ∧ (∀ j, j < rows → yh (g1 j) ∧ yh (g2 j)) ∧ (∀ a, (∀ j, j < rows → scl (g1 j) (g2 j) (g7 j) a) ↔ ((∀ j, j < cc → scl (f1 j) (f2 j) (f7 j) a) ∧ ∀ j, j < i → ¬ nI j = lo → ycl (yYes (f4 j)) (yNo (f4 j)) a))) (e1 : d1 = upd g1 rows (yYes (f4 i) &&& 262080)) (e2 : d2 = upd g2 rows (yNo (f4 i) &&& 262080)) (e7 : d7 = vp_updL g7 rows w) (hw : yLw 6 (yYes (f4 i)) (yNo (f4 i)) w) (hl : yLit (f4 i)) (hne : ¬ nI i = lo) : cc ≤ (rows + 1) ∧ (rows + 1) ≤ cc + (i + 1) ∧ (∀ j, j < cc → d1 j = f1 j ∧ d2 j = f2 j ∧ d7 j = f7 j) ∧ (∀ j, j < (rows + 1) → yh (d1 j) ∧ yh (d2 j)) ∧ (∀ a, (∀ j, j < (rows + 1) → scl (d1 j) (d2 j) (d7 j) a) ↔ ((∀ j, j < cc → scl (f1 j) (f2 j) (f7 j) a) ∧ ∀ j, j < (i + 1) → ¬ nI j = lo → ycl (yYes (f4 j)) (yNo (f4 j)) a)) := by
  obtain ⟨h1, h2, h3, h4, h5⟩ := hI
  subst e1
  subst e2
  subst e7
  refine ⟨by omega, by omega, fun j hj => ?_, fun j hj => ?_, fun a => ?_⟩
  · rw [pk_un (by omega), pk_un (by omega), pk_uLn (by omega)]; exact h3 j hj
  · by_cases e : j = rows
    · rw [e, pk_us, pk_us]; exact ⟨yh_and _, yh_and _⟩
    · rw [pk_un e, pk_un e]; exact h4 j (by omega)
  · rw [yRow, scl_split (yLit_m hl).1 (yLit_m hl).2 hw, h5 a]
    constructor
    · rintro ⟨⟨q1, q3⟩, q2⟩
      refine ⟨q1, fun j hj hn => ?_⟩
      by_cases e : j = i
      · rw [e]; exact q2
      · exact q3 j (by omega) hn
    · rintro ⟨q1, q2⟩
      exact ⟨⟨q1, fun j hj hn => q2 j (by omega) hn⟩, q2 i (by omega) hne⟩
set_option maxHeartbeats 4000000 in
set_option maxRecDepth 100000 in
theorem c_writeAssumptions (l : Launch) (dC : Nat → ClassId) (dI : Nat → Nat → Nat) (h : Nat) (hs : Nat) (q1 : Nat) (q2 : Nat) (q7 : Nat) (q3 : Nat) (q4 : Nat) (q5 : Nat) (q6 : Nat) (k1 : ClassId) (k2 : ClassId) (k7 : ClassId) (k4 : ClassId) (f1 : Nat → Int32) (f2 : Nat → Int32) (f7 : Nat → Int64) (f4 : Nat → Int32) (cc : Nat) (lv : Int32) (ac : Nat) (tc : Int32) (ty : Int32) (tn : Int32) (md : Int32) (bY : Int32) (bN : Int32) (fd : Int64) (lo : Int32) (sz : Nat) (hcc : cc ≤ 400) (hac : ac ≤ 18) (hm : ∀ j, j < cc → yh (f1 j) ∧ yh (f2 j)) (hlit : ∀ j, j < ac → yLit (f4 j)) : Met l yX0_writeAssumptions wsX0_writeAssumptions ({ frames := 2, cells := 0, slots := 0, locals := 55 }) (va_Pc [.ref h, .int lo] (fun U => U.heap.size = sz ∧ va_P (dC, dI) vwCl [yO h hs q3 q4 (nI cc) lv (nI ac) tc ty tn md, sO hs q1 q2 q7 q5 q6 bY bN fd, (q1, .inl (k1, 420, .inl f1)), (q2, .inl (k2, 420, .inl f2)), (q7, .inl (k7, 420, .inr (.inl f7))), (q4, .inl (k4, 18, .inl f4))] U.heap ∧ va_K (dC, dI) vwCl [(k1, .int), (k2, .int), (k7, .long), (k4, .int)] U ∧ va_D (fun _ => True) [yO h hs q3 q4 (nI cc) lv (nI ac) tc ty tn md, sO hs q1 q2 q7 q5 q6 bY bN fd, (q1, .inl (k1, 420, .inl f1)), (q2, .inl (k2, 420, .inl f2)), (q7, .inl (k7, 420, .inr (.inl f7))), (q4, .inl (k4, 18, .inl f4))] ∧ yStat (va_A [yO h hs q3 q4 (nI cc) lv (nI ac) tc ty tn md, sO hs q1 q2 q7 q5 q6 bY bN fd, (q1, .inl (k1, 420, .inl f1)), (q2, .inl (k2, 420, .inl f2)), (q7, .inl (k7, 420, .inr (.inl f7))), (q4, .inl (k4, 18, .inl f4))] sz) U U.heap)) (va_Qi (fun (r : Int32) (u : (Nat → Int32) × (Nat → Int32) × (Nat → Int64)) => ∃ rows, r = nI rows ∧ cc ≤ rows ∧ rows ≤ cc + ac ∧ (∀ j, j < cc → u.1 j = f1 j ∧ u.2.1 j = f2 j ∧ u.2.2 j = f7 j) ∧ (∀ j, j < rows → yh (u.1 j) ∧ yh (u.2.1 j)) ∧ (∀ a, (∀ j, j < rows → scl (u.1 j) (u.2.1 j) (u.2.2 j) a) ↔ ((∀ j, j < cc → scl (f1 j) (f2 j) (f7 j) a) ∧ ∀ j, j < ac → ¬ nI j = lo → ycl (yYes (f4 j)) (yNo (f4 j)) a))) (fun (u : (Nat → Int32) × (Nat → Int32) × (Nat → Int64)) (t : State) => va_P (dC, dI) vwCl [yO h hs q3 q4 (nI cc) lv (nI ac) tc ty tn md, sO hs q1 q2 q7 q5 q6 bY bN fd, (q1, .inl (k1, 420, .inl u.1)), (q2, .inl (k2, 420, .inl u.2.1)), (q7, .inl (k7, 420, .inr (.inl u.2.2))), (q4, .inl (k4, 18, .inl f4))] t.heap ∧ va_K (dC, dI) vwCl [(k1, .int), (k2, .int), (k7, .long), (k4, .int)] t ∧ va_D (va_A [yO h hs q3 q4 (nI cc) lv (nI ac) tc ty tn md, sO hs q1 q2 q7 q5 q6 bY bN fd, (q1, .inl (k1, 420, .inl f1)), (q2, .inl (k2, 420, .inl f2)), (q7, .inl (k7, 420, .inr (.inl f7))), (q4, .inl (k4, 18, .inl f4))] sz) [yO h hs q3 q4 (nI cc) lv (nI ac) tc ty tn md, sO hs q1 q2 q7 q5 q6 bY bN fd, (q1, .inl (k1, 420, .inl u.1)), (q2, .inl (k2, 420, .inl u.2.1)), (q7, .inl (k7, 420, .inr (.inl u.2.2))), (q4, .inl (k4, 18, .inl f4))]) (va_A [yO h hs q3 q4 (nI cc) lv (nI ac) tc ty tn md, sO hs q1 q2 q7 q5 q6 bY bN fd, (q1, .inl (k1, 420, .inl f1)), (q2, .inl (k2, 420, .inl f2)), (q7, .inl (k7, 420, .inr (.inl f7))), (q4, .inl (k4, 18, .inl f4))] sz)) 0 0 (va_A [yO h hs q3 q4 (nI cc) lv (nI ac) tc ty tn md, sO hs q1 q2 q7 q5 q6 bY bN fd, (q1, .inl (k1, 420, .inl f1)), (q2, .inl (k2, 420, .inl f2)), (q7, .inl (k7, 420, .inr (.inl f7))), (q4, .inl (k4, 18, .inl f4))] sz) := by
  refine Met.ofW (cc := cX0_writeAssumptions) (maxL := 4) (ret := (some .int)) (by decide) rfl ?_
  intro p e s m args below meth c s₁ B hml hv
  obtain ⟨rfl, hsz, hP, hK, hD0, hST⟩ := hv
  have hx := B.exec
  have hb := B.bytes
  have hr := B.returns
  have hts := atoms_spec (ws := wsX0_writeAssumptions) B.pre
  have htA : ∀ w ∈ wsA, w.before _ s = true := fun w h => hts w (List.mem_cons_of_mem _ h)
  have hown : s.vm.findClass RX0 = some m.cls := findClass_of_methodNamed B.named
  have hlocks := B.notSynchronized
  subst hsz
  have hD := hD0.self (sz := s.heap.size)
  generalize hAe : va_A [yO h hs q3 q4 (nI cc) lv (nI ac) tc ty tn md, sO hs q1 q2 q7 q5 q6 bY bN fd, (q1, .inl (k1, 420, .inl f1)), (q2, .inl (k2, 420, .inl f2)), (q7, .inl (k7, 420, .inr (.inl f7))), (q4, .inl (k4, 18, .inl f4))] s.heap.size = A at hD hST ⊢
  have hA : ∀ q : Nat, s.heap.size ≤ q → A q := fun q h => by rw [← hAe]; exact Or.inr h
  have hS : va_S A s.heap s.heap [] := va_S.rf
  have hP : va_P (dC, dI) vwCl [yO h hs q3 q4 (nI cc) lv (nI ac) tc ty tn md, sO hs q1 q2 q7 q5 q6 bY bN fd, (q1, .inl (k1, 420, .inl f1)), (q2, .inl (k2, 420, .inl f2)), (q7, .inl (k7, 420, .inr (.inl f7))), (q4, .inl (k4, 18, .inl f4))] s.heap := hP
  have hl := lv_entry ([.ref h, .int lo]) (n := 4) (Nat.le_of_ble_eq_true rfl)
  rw [lg_entry_eq]
  generalize (lg_sl ([.ref h, .int lo]) ++ List.replicate (4 - (lg_sl ([.ref h, .int lo])).length) Slot.unset).toArray = ls at hl ⊢
  have hl : lv_has ls 4 [(0, .ref h), (1, .int lo)] := hl
  refine lv_aload_n hx hb dX0_writeAssumptions_0 rfl (lv_at hl 0 rfl) ?_
  refine va_get (D := (dC, dI)) (ci := 0) (v := .int (nI cc)) (C := RX0) (T := TX0) (N := 10) hx hb htA inX0 hown hK hP 0 rfl rfl 3 (by decide) (htA _ lkX0_59) (fun _ h9 => h9) rfl dX0_writeAssumptions_1 ?_
  refine lv_istore_n (lv' := [(2, .int (nI cc)), (0, .ref h), (1, .int lo)]) hx hb dX0_writeAssumptions_4 rfl hl (by decide) rfl (fun ls hl => ?_)
  refine lv_iconst (v := 0) hx hb dX0_writeAssumptions_5 (by decide) ?_
  refine lv_istore_n (lv' := [(3, .int 0), (2, .int (nI cc)), (0, .ref h), (1, .int lo)]) hx hb dX0_writeAssumptions_6 rfl hl (by decide) rfl (fun ls hl => ?_)
  have loop : ∀ (fu i rows : Nat) (g1 g2 : Nat → Int32) (g7 : Nat → Int64), i ≤ ac → 19 ≤ i + fu → (cc ≤ rows ∧ rows ≤ cc + i ∧ (∀ j, j < cc → g1 j = f1 j ∧ g2 j = f2 j ∧ g7 j = f7 j) ∧ (∀ j, j < rows → yh (g1 j) ∧ yh (g2 j)) ∧ (∀ a, (∀ j, j < rows → scl (g1 j) (g2 j) (g7 j) a) ↔ ((∀ j, j < cc → scl (f1 j) (f2 j) (f7 j) a) ∧ ∀ j, j < i → ¬ nI j = lo → ycl (yYes (f4 j)) (yNo (f4 j)) a))) → ∀ (H : Heap) (locs : List Loc), va_P (dC, dI) vwCl [yO h hs q3 q4 (nI cc) lv (nI ac) tc ty tn md, sO hs q1 q2 q7 q5 q6 bY bN fd, (q1, .inl (k1, 420, .inl g1)), (q2, .inl (k2, 420, .inl g2)), (q7, .inl (k7, 420, .inr (.inl g7))), (q4, .inl (k4, 18, .inl f4))] H → va_D A [yO h hs q3 q4 (nI cc) lv (nI ac) tc ty tn md, sO hs q1 q2 q7 q5 q6 bY bN fd, (q1, .inl (k1, 420, .inl g1)), (q2, .inl (k2, 420, .inl g2)), (q7, .inl (k7, 420, .inr (.inl g7))), (q4, .inl (k4, 18, .inl f4))] → va_S A s.heap H locs → ∀ (ls : Array Slot), lv_has ls 4 [(3, .int (nI i)), (2, .int (nI rows)), (0, .ref h), (1, .int lo)] → W p l e (headSpec wsX0_writeAssumptions ({ frames := 2, cells := 0, slots := 0, locals := 55 })).room s m ([.ref h, .int lo] : List Value).toArray below meth c H locs 0 0 (MQ below (va_Qi (fun (r : Int32) (u : (Nat → Int32) × (Nat → Int32) × (Nat → Int64)) => ∃ rows, r = nI rows ∧ cc ≤ rows ∧ rows ≤ cc + ac ∧ (∀ j, j < cc → u.1 j = f1 j ∧ u.2.1 j = f2 j ∧ u.2.2 j = f7 j) ∧ (∀ j, j < rows → yh (u.1 j) ∧ yh (u.2.1 j)) ∧ (∀ a, (∀ j, j < rows → scl (u.1 j) (u.2.1 j) (u.2.2 j) a) ↔ ((∀ j, j < cc → scl (f1 j) (f2 j) (f7 j) a) ∧ ∀ j, j < ac → ¬ nI j = lo → ycl (yYes (f4 j)) (yNo (f4 j)) a))) (fun (u : (Nat → Int32) × (Nat → Int32) × (Nat → Int64)) (t : State) => va_P (dC, dI) vwCl [yO h hs q3 q4 (nI cc) lv (nI ac) tc ty tn md, sO hs q1 q2 q7 q5 q6 bY bN fd, (q1, .inl (k1, 420, .inl u.1)), (q2, .inl (k2, 420, .inl u.2.1)), (q7, .inl (k7, 420, .inr (.inl u.2.2))), (q4, .inl (k4, 18, .inl f4))] t.heap ∧ va_K (dC, dI) vwCl [(k1, .int), (k2, .int), (k7, .long), (k4, .int)] t ∧ va_D A [yO h hs q3 q4 (nI cc) lv (nI ac) tc ty tn md, sO hs q1 q2 q7 q5 q6 bY bN fd, (q1, .inl (k1, 420, .inl u.1)), (q2, .inl (k2, 420, .inl u.2.1)), (q7, .inl (k7, 420, .inr (.inl u.2.2))), (q4, .inl (k4, 18, .inl f4))]) A) ([.ref h, .int lo] : List Value).toArray s 0 0 A) (F0 m 7 ls []) := by
    intro fu
    induction fu with
    | zero =>
      intro i rows g1 g2 g7 h1 h2
      exact absurd h2 (by omega)
    | succ fu ih =>
      intro i rows g1 g2 g7 hi hin hI H locs hP hD hS ls hl
      have hrow : rows ≤ 418 := by have := hI.2.1; omega
      refine lv_iload_n hx hb dX0_writeAssumptions_7 rfl (lv_at hl 0 rfl) ?_
      refine lv_aload_n hx hb dX0_writeAssumptions_8 rfl (lv_at hl 2 rfl) ?_
      refine va_get (D := (dC, dI)) (ci := 0) (v := .int (nI ac)) (C := RX0) (T := TX0) (N := 10) hx hb htA inX0 hown hK hP 0 rfl rfl 5 (by decide) (htA _ lkX0_75) (fun _ h9 => h9) rfl dX0_writeAssumptions_9 ?_
      refine lv_icmp_ge (tgt := 61) hx hb dX0_writeAssumptions_12 (by decide) (fun cb_55 => ?_) (fun cb_55 => ?_)
      · have hie : i = ac := by
          rcases Nat.lt_or_ge i ac with q | q
          · exact absurd cb_55 (nI_ge q (by omega))
          · omega
        subst hie
        refine lv_iload_n hx hb dX0_writeAssumptions_61 rfl (lv_at hl 1 rfl) ?_
        exact W.iret (v := nI rows) hx hb hr (fun t ht hW => ⟨⟨nI rows, (g1, g2, g7), rfl, ⟨rows, rfl, hI⟩, by rw [ht]; exact hP, va_K.moved hW.alike hK, hD⟩, hS.F ht⟩) hS.2.2 dX0_writeAssumptions_62
      · have hia : i < ac := by
          rcases Nat.lt_or_ge i ac with q | q
          · exact q
          · exact absurd (nI_le q (by omega)) cb_55
        have hlt : i < 18 := by omega
        refine lv_iload_n hx hb dX0_writeAssumptions_15 rfl (lv_at hl 0 rfl) ?_
        refine lv_bipush (v := 18) hx hb dX0_writeAssumptions_16 (by decide) ?_
        refine lv_icmp_ge (tgt := 61) hx hb dX0_writeAssumptions_18 (by decide) (fun cb_56 => ?_) (fun cb_56 => ?_)
        · exact absurd cb_56 (nI_ge (b := 18) hlt (by omega))
        · refine lv_iload_n hx hb dX0_writeAssumptions_21 rfl (lv_at hl 0 rfl) ?_
          refine lv_iload_n hx hb dX0_writeAssumptions_22 rfl (lv_at hl 3 rfl) ?_
          refine lv_icmp_eq (tgt := 55) hx hb dX0_writeAssumptions_23 (by decide) (fun cb_57 => ?_) (fun cb_57 => ?_)
          · refine lv_iinc (v := nI (i + 1)) (lv' := [(3, .int (nI (i + 1))), (2, .int (nI rows)), (0, .ref h), (1, .int lo)]) hx hb dX0_writeAssumptions_55 hl (k := 0) rfl (nI_1 _) (by decide) rfl (fun ls hl => ?_)
            refine lv_goto (tgt := 7) hx hb dX0_writeAssumptions_58 (by decide) ?_
            refine ih (i + 1) rows g1 g2 g7 hia (by omega) ?_ _ _ hP hD hS ls (lv_sub hl [0, 1, 2, 3] rfl)
            obtain ⟨h1, h2, h3, h4, h5⟩ := hI
            refine ⟨h1, by omega, h3, h4, fun a => (h5 a).trans ⟨fun q => ⟨q.1, fun j hj hne => ?_⟩, fun q => ⟨q.1, fun j hj hne => q.2 j (by omega) hne⟩⟩⟩
            by_cases e : j = i
            · rw [e] at hne; exact absurd cb_57 hne
            · exact q.2 j (by omega) hne
          · refine lv_aload_n hx hb dX0_writeAssumptions_26 rfl (lv_at hl 2 rfl) ?_
            refine va_get (D := (dC, dI)) (ci := 0) (v := .ref hs) (C := RX0) (T := TX0) (N := 10) hx hb htA inX0 hown hK hP 0 rfl rfl 0 (by decide) (htA _ lkX0_12) (fun _ h9 => h9) rfl dX0_writeAssumptions_27 ?_
            refine lv_iload_n hx hb dX0_writeAssumptions_30 rfl (lv_at hl 1 rfl) ?_
            refine lv_aload_n hx hb dX0_writeAssumptions_31 rfl (lv_at hl 2 rfl) ?_
            refine va_get (D := (dC, dI)) (ci := 0) (v := .ref q4) (C := RX0) (T := TX0) (N := 10) hx hb htA inX0 hown hK hP 0 rfl rfl 2 (by decide) (htA _ lkX0_20) (fun _ h9 => h9) rfl dX0_writeAssumptions_32 ?_
            refine lv_iload_n hx hb dX0_writeAssumptions_35 rfl (lv_at hl 0 rfl) ?_
            refine yv_iald hx hb hK hP 5 3 rfl rfl (k := i) hlt (by decide) dX0_writeAssumptions_36 ?_
            have hPc := hP.sub (ws' := []) [] rfl
            have hDc := hD.sub (ws' := []) [] (by decide) rfl
            have hKc := hK.sub (tys' := []) [] rfl
            have hFc := va_free (wc := []) hD hS hA [] rfl
            refine va_calli (va_runS (As := [.int (f4 i)]) (rest := [.int (nI rows), .ref hs]) ⟨hx, hb, hml, hown, htA⟩ (c_yesMask l dC dI (f4 i) H.size) (va_cwS 1 htA gX0_49 rfl rfl rfl (by decide +kernel) ⟨Nat.le_of_ble_eq_true rfl, Nat.le_of_ble_eq_true rfl⟩) ⟨fun a U g mk q => by obtain ⟨q0, q1, qP, qK, qD⟩ := q; exact ⟨q0, q1, qP, va_K.moved (u := U) (U := U.calling g mk a) (Vm.Alike.refl U.vm) qK, qD⟩, fun U hU hW => ⟨rfl, by rw [hU], by rw [hU]; exact hPc, va_K.moved hW.alike hKc, hDc.weaken (fun _ _ _ _ => trivial)⟩⟩ rfl rfl hl.1 rfl (lv_room (Nat.le_of_ble_eq_true rfl)) dX0_writeAssumptions_37 ⟨Nat.zero_le _, Nat.zero_le _⟩) hS (fun q _ h => hFc q h) hFc (fun ry u t H1 locs ht hvm hw hB hz1 hk1 hS => ?_)
            obtain ⟨hP1, hK1, hD1⟩ := hB
            rw [ht] at hP1
            try dsimp only at hw hP1 hD1
            obtain ⟨hP, hD⟩ := va_join (wr := [yO h hs q3 q4 (nI cc) lv (nI ac) tc ty tn md, sO hs q1 q2 q7 q5 q6 bY bN fd, (q1, .inl (k1, 420, .inl g1)), (q2, .inl (k2, 420, .inl g2)), (q7, .inl (k7, 420, .inr (.inl g7))), (q4, .inl (k4, 18, .inl f4))]) (w1 := []) hP hD [] [0, 1, 2, 3, 4, 5] rfl rfl (by decide) (by decide) hk1 hFc hP1 hD1
            generalize H1 = H at hP hS ⊢
            have hP : va_P (dC, dI) vwCl [yO h hs q3 q4 (nI cc) lv (nI ac) tc ty tn md, sO hs q1 q2 q7 q5 q6 bY bN fd, (q1, .inl (k1, 420, .inl g1)), (q2, .inl (k2, 420, .inl g2)), (q7, .inl (k7, 420, .inr (.inl g7))), (q4, .inl (k4, 18, .inl f4))] H := hP.sub [0, 1, 2, 3, 4, 5] rfl
            have hD : va_D A [yO h hs q3 q4 (nI cc) lv (nI ac) tc ty tn md, sO hs q1 q2 q7 q5 q6 bY bN fd, (q1, .inl (k1, 420, .inl g1)), (q2, .inl (k2, 420, .inl g2)), (q7, .inl (k7, 420, .inr (.inl g7))), (q4, .inl (k4, 18, .inl f4))] := hD.sub [0, 1, 2, 3, 4, 5] (by decide) rfl
            obtain rfl := hw
            refine lv_aload_n hx hb dX0_writeAssumptions_40 rfl (lv_at hl 2 rfl) ?_
            refine va_get (D := (dC, dI)) (ci := 0) (v := .ref q4) (C := RX0) (T := TX0) (N := 10) hx hb htA inX0 hown hK hP 0 rfl rfl 2 (by decide) (htA _ lkX0_20) (fun _ h9 => h9) rfl dX0_writeAssumptions_41 ?_
            refine lv_iload_n hx hb dX0_writeAssumptions_44 rfl (lv_at hl 0 rfl) ?_
            refine yv_iald hx hb hK hP 5 3 rfl rfl (k := i) hlt (by decide) dX0_writeAssumptions_45 ?_
            have hPc := hP.sub (ws' := []) [] rfl
            have hDc := hD.sub (ws' := []) [] (by decide) rfl
            have hKc := hK.sub (tys' := []) [] rfl
            have hFc := va_free (wc := []) hD hS hA [] rfl
            refine va_calli (va_runS (As := [.int (f4 i)]) (rest := [.int (yYes (f4 i)), .int (nI rows), .ref hs]) ⟨hx, hb, hml, hown, htA⟩ (c_noMask l dC dI (f4 i) H.size) (va_cwS 1 htA gX0_56 rfl rfl rfl (by decide +kernel) ⟨Nat.le_of_ble_eq_true rfl, Nat.le_of_ble_eq_true rfl⟩) ⟨fun a U g mk q => by obtain ⟨q0, q1, qP, qK, qD⟩ := q; exact ⟨q0, q1, qP, va_K.moved (u := U) (U := U.calling g mk a) (Vm.Alike.refl U.vm) qK, qD⟩, fun U hU hW => ⟨rfl, by rw [hU], by rw [hU]; exact hPc, va_K.moved hW.alike hKc, hDc.weaken (fun _ _ _ _ => trivial)⟩⟩ rfl rfl hl.1 rfl (lv_room (Nat.le_of_ble_eq_true rfl)) dX0_writeAssumptions_46 ⟨Nat.zero_le _, Nat.zero_le _⟩) hS (fun q _ h => hFc q h) hFc (fun rn u t H1 locs ht hvm hw hB hz1 hk1 hS => ?_)
            obtain ⟨hP1, hK1, hD1⟩ := hB
            rw [ht] at hP1
            try dsimp only at hw hP1 hD1
            obtain ⟨hP, hD⟩ := va_join (wr := [yO h hs q3 q4 (nI cc) lv (nI ac) tc ty tn md, sO hs q1 q2 q7 q5 q6 bY bN fd, (q1, .inl (k1, 420, .inl g1)), (q2, .inl (k2, 420, .inl g2)), (q7, .inl (k7, 420, .inr (.inl g7))), (q4, .inl (k4, 18, .inl f4))]) (w1 := []) hP hD [] [0, 1, 2, 3, 4, 5] rfl rfl (by decide) (by decide) hk1 hFc hP1 hD1
            generalize H1 = H at hP hS ⊢
            have hP : va_P (dC, dI) vwCl [yO h hs q3 q4 (nI cc) lv (nI ac) tc ty tn md, sO hs q1 q2 q7 q5 q6 bY bN fd, (q1, .inl (k1, 420, .inl g1)), (q2, .inl (k2, 420, .inl g2)), (q7, .inl (k7, 420, .inr (.inl g7))), (q4, .inl (k4, 18, .inl f4))] H := hP.sub [0, 1, 2, 3, 4, 5] rfl
            have hD : va_D A [yO h hs q3 q4 (nI cc) lv (nI ac) tc ty tn md, sO hs q1 q2 q7 q5 q6 bY bN fd, (q1, .inl (k1, 420, .inl g1)), (q2, .inl (k2, 420, .inl g2)), (q7, .inl (k7, 420, .inr (.inl g7))), (q4, .inl (k4, 18, .inl f4))] := hD.sub [0, 1, 2, 3, 4, 5] (by decide) rfl
            obtain rfl := hw
            have hPc := hP.sub (ws' := [sO hs q1 q2 q7 q5 q6 bY bN fd, (q1, .inl (k1, 420, .inl g1)), (q2, .inl (k2, 420, .inl g2)), (q7, .inl (k7, 420, .inr (.inl g7)))]) [1, 2, 3, 4] rfl
            have hDc := hD.sub (ws' := [sO hs q1 q2 q7 q5 q6 bY bN fd, (q1, .inl (k1, 420, .inl g1)), (q2, .inl (k2, 420, .inl g2)), (q7, .inl (k7, 420, .inr (.inl g7)))]) [1, 2, 3, 4] (by decide) rfl
            have hKc := hK.sub (tys' := [(k1, .int), (k2, .int), (k7, .long)]) [0, 1, 2] rfl
            have hFc := va_free (wc := [sO hs q1 q2 q7 q5 q6 bY bN fd, (q1, .inl (k1, 420, .inl g1)), (q2, .inl (k2, 420, .inl g2)), (q7, .inl (k7, 420, .inr (.inl g7)))]) hD hS hA [1, 2, 3, 4] rfl
            refine va_callv (va_runV (As := [.int (nI rows), .int (yYes (f4 i)), .int (yNo (f4 i))]) (rest := []) ⟨hx, hb, hml, hown, htA⟩ (c_write l dC dI hs q1 q2 q7 q5 q6 k1 k2 k7 g1 g2 g7 bY bN fd rows (yYes (f4 i)) (yNo (f4 i)) H.size (by omega)) (cwV 3 htA gX0_64 rfl rfl rfl (by decide +kernel) ⟨Nat.le_of_ble_eq_true rfl, Nat.le_of_ble_eq_true rfl⟩) ⟨fun a U g mk q => by obtain ⟨q0, q1, qP, qK, qD, qS⟩ := q; exact ⟨q0, q1, qP, va_K.moved (u := U) (U := U.calling g mk a) (Vm.Alike.refl U.vm) qK, qD, yStat.moved (u := U) (U := U.calling g mk a) (Vm.Alike.refl U.vm) qS⟩, va_recv hKc hPc (ci := 2) (q0 := 0) rfl rfl, fun U hU hW => ⟨rfl, by rw [hU], by rw [hU]; exact hPc, va_K.moved hW.alike hKc, hDc.weaken (fun _ _ _ _ => trivial), by rw [hU]; exact ((yStat.moved hW.alike hST).kept hS.2.1).narrow (fun q9 h9 => hFc q9 h9)⟩⟩ rfl rfl hl.1 rfl (lv_room (Nat.le_of_ble_eq_true rfl)) dX0_writeAssumptions_49 ⟨Nat.zero_le _, Nat.zero_le _⟩) hS (fun q _ h => hFc q h) hFc (fun u t H1 locs ht hvm hw hB hz1 hk1 hS => ?_)
            obtain ⟨d1, d2, d7⟩ := u
            obtain ⟨hP1, hK1, hD1⟩ := hB
            rw [ht] at hP1
            try dsimp only at hw hP1 hD1
            obtain ⟨hP, hD⟩ := va_join (wr := [yO h hs q3 q4 (nI cc) lv (nI ac) tc ty tn md, (q4, .inl (k4, 18, .inl f4))]) (w1 := [sO hs q1 q2 q7 q5 q6 bY bN fd, (q1, .inl (k1, 420, .inl d1)), (q2, .inl (k2, 420, .inl d2)), (q7, .inl (k7, 420, .inr (.inl d7)))]) hP hD [1, 2, 3, 4] [0, 5] rfl rfl (by decide) (by decide) hk1 hFc hP1 hD1
            generalize H1 = H at hP hS ⊢
            have hP : va_P (dC, dI) vwCl [yO h hs q3 q4 (nI cc) lv (nI ac) tc ty tn md, sO hs q1 q2 q7 q5 q6 bY bN fd, (q1, .inl (k1, 420, .inl d1)), (q2, .inl (k2, 420, .inl d2)), (q7, .inl (k7, 420, .inr (.inl d7))), (q4, .inl (k4, 18, .inl f4))] H := hP.sub [0, 2, 3, 4, 5, 1] rfl
            have hD : va_D A [yO h hs q3 q4 (nI cc) lv (nI ac) tc ty tn md, sO hs q1 q2 q7 q5 q6 bY bN fd, (q1, .inl (k1, 420, .inl d1)), (q2, .inl (k2, 420, .inl d2)), (q7, .inl (k7, 420, .inr (.inl d7))), (q4, .inl (k4, 18, .inl f4))] := hD.sub [0, 2, 3, 4, 5, 1] (by decide) rfl
            refine lv_iinc (v := nI (rows + 1)) (lv' := [(2, .int (nI (rows + 1))), (3, .int (nI i)), (0, .ref h), (1, .int lo)]) hx hb dX0_writeAssumptions_52 hl (k := 1) rfl (nI_1 _) (by decide) rfl (fun ls hl => ?_)
            refine lv_iinc (v := nI (i + 1)) (lv' := [(3, .int (nI (i + 1))), (2, .int (nI (rows + 1))), (0, .ref h), (1, .int lo)]) hx hb dX0_writeAssumptions_55 hl (k := 1) rfl (nI_1 _) (by decide) rfl (fun ls hl => ?_)
            refine lv_goto (tgt := 7) hx hb dX0_writeAssumptions_58 (by decide) ?_
            obtain ⟨hw1, hw2, w9, hw3, hw4⟩ := hw
            refine ih (i + 1) (rows + 1) d1 d2 d7 hia (by omega) ?_ _ _ hP hD hS ls (lv_sub hl [0, 1, 2, 3] rfl)
            exact yWA hI hw1 hw2 hw4 hw3 (hlit i hia) cb_57
  exact loop 19 0 cc f1 f2 f7 (by omega) (by omega) ⟨Nat.le_refl _, by omega, fun j _ => ⟨rfl, rfl, rfl⟩, hm, fun a => ⟨fun q => ⟨q, fun j hj => absurd hj (Nat.not_lt_zero j)⟩, fun q => q.1⟩⟩ _ _ hP hD hS ls (lv_sub hl [0, 1, 2, 3] rfl)
