set_option maxHeartbeats 4000000 in
set_option maxRecDepth 100000 in
theorem c_leastFrom (l : Launch) (dC : Nat → ClassId) (dI : Nat → Nat → Nat) (h : Nat) (q1 : Nat) (q2 : Nat) (q3 : Nat) (q4 : Nat) (q5 : Nat) (q6 : Nat) (k1 : ClassId) (k2 : ClassId) (k5 : ClassId) (k6 : ClassId) (f1 : Nat → Int32) (f2 : Nat → Int32) (f5 : Nat → Int32) (f6 : Nat → Int32) (cc : Int32) (lv : Int32) (ac : Int32) (tc : Int32) (ty : Int32) (tn : Int32) (md : Int32) (st : Nat) (rows : Nat) (sz : Nat) (hst : st ≤ 262144) (hrows : rows ≤ 419) (hm : ∀ j, j < rows → ym (f1 j) ∧ ym (f2 j)) : Met l yX0_leastFrom wsX0_leastFrom ({ frames := 1, cells := 0, slots := 0, locals := 40 }) (va_Pc [.ref h, .int (nI st), .int (nI rows)] (fun U => U.heap.size = sz ∧ va_P (dC, dI) vwCl [yO h q1 q2 q3 q4 q5 q6 cc lv ac tc ty tn md, (q1, .inl (k1, 419, .inl f1)), (q2, .inl (k2, 419, .inl f2)), (q5, .inl (k5, 18, .inl f5)), (q6, .inl (k6, 18, .inl f6))] U.heap ∧ va_K (dC, dI) vwCl [(k1, .int), (k2, .int), (k5, .int), (k6, .int)] U ∧ va_D (fun _ => True) [yO h q1 q2 q3 q4 q5 q6 cc lv ac tc ty tn md, (q1, .inl (k1, 419, .inl f1)), (q2, .inl (k2, 419, .inl f2)), (q5, .inl (k5, 18, .inl f5)), (q6, .inl (k6, 18, .inl f6))])) (va_Qi (fun (r : Int32) (u : (Nat → Int32) × (Nat → Int32)) => yL (fun a => ∀ j, j < rows → ycl (f1 j) (f2 j) a) st r) (fun (u : (Nat → Int32) × (Nat → Int32)) (t : State) => va_P (dC, dI) vwCl [yO h q1 q2 q3 q4 q5 q6 cc lv ac tc ty tn md, (q1, .inl (k1, 419, .inl f1)), (q2, .inl (k2, 419, .inl f2)), (q5, .inl (k5, 18, .inl u.1)), (q6, .inl (k6, 18, .inl u.2))] t.heap ∧ va_K (dC, dI) vwCl [(k1, .int), (k2, .int), (k5, .int), (k6, .int)] t ∧ va_D (va_A [yO h q1 q2 q3 q4 q5 q6 cc lv ac tc ty tn md, (q1, .inl (k1, 419, .inl f1)), (q2, .inl (k2, 419, .inl f2)), (q5, .inl (k5, 18, .inl f5)), (q6, .inl (k6, 18, .inl f6))] sz) [yO h q1 q2 q3 q4 q5 q6 cc lv ac tc ty tn md, (q1, .inl (k1, 419, .inl f1)), (q2, .inl (k2, 419, .inl f2)), (q5, .inl (k5, 18, .inl u.1)), (q6, .inl (k6, 18, .inl u.2))]) (va_A [yO h q1 q2 q3 q4 q5 q6 cc lv ac tc ty tn md, (q1, .inl (k1, 419, .inl f1)), (q2, .inl (k2, 419, .inl f2)), (q5, .inl (k5, 18, .inl f5)), (q6, .inl (k6, 18, .inl f6))] sz)) 0 0 (va_A [yO h q1 q2 q3 q4 q5 q6 cc lv ac tc ty tn md, (q1, .inl (k1, 419, .inl f1)), (q2, .inl (k2, 419, .inl f2)), (q5, .inl (k5, 18, .inl f5)), (q6, .inl (k6, 18, .inl f6))] sz) := by
  refine Met.ofW (cc := cX0_leastFrom) (maxL := 6) (ret := (some .int)) (by decide) rfl ?_
  intro p e s m args below meth c s₁ B hml hv
  obtain ⟨rfl, hsz, hP, hK, hD0⟩ := hv
  have hx := B.exec
  have hb := B.bytes
  have hr := B.returns
  have hts := atoms_spec (ws := wsX0_leastFrom) B.pre
  have htA : ∀ w ∈ wsA, w.before _ s = true := fun w h => hts w (List.mem_cons_of_mem _ h)
  have hown : s.vm.findClass RX0 = some m.cls := findClass_of_methodNamed B.named
  have hlocks := B.notSynchronized
  subst hsz
  have hD := hD0.self (sz := s.heap.size)
  generalize hAe : va_A [yO h q1 q2 q3 q4 q5 q6 cc lv ac tc ty tn md, (q1, .inl (k1, 419, .inl f1)), (q2, .inl (k2, 419, .inl f2)), (q5, .inl (k5, 18, .inl f5)), (q6, .inl (k6, 18, .inl f6))] s.heap.size = A at hD ⊢
  have hA : ∀ q : Nat, s.heap.size ≤ q → A q := fun q h => by rw [← hAe]; exact Or.inr h
  have hS : va_S A s.heap s.heap [] := va_S.rf
  have hP : va_P (dC, dI) vwCl [yO h q1 q2 q3 q4 q5 q6 cc lv ac tc ty tn md, (q1, .inl (k1, 419, .inl f1)), (q2, .inl (k2, 419, .inl f2)), (q5, .inl (k5, 18, .inl f5)), (q6, .inl (k6, 18, .inl f6))] s.heap := hP
  have hl := lv_entry ([.ref h, .int (nI st), .int (nI rows)]) (n := 6) (Nat.le_of_ble_eq_true rfl)
  rw [lg_entry_eq]
  generalize (lg_sl ([.ref h, .int (nI st), .int (nI rows)]) ++ List.replicate (6 - (lg_sl ([.ref h, .int (nI st), .int (nI rows)])).length) Slot.unset).toArray = ls at hl ⊢
  have hl : lv_has ls 6 [(0, .ref h), (1, .int (nI st)), (2, .int (nI rows))] := hl
  refine lv_iload_n hx hb dX0_leastFrom_0 rfl (lv_at hl 1 rfl) ?_
  refine lv_ldc (own := RX0) (v := 262143) hx hb hown (htA _ lkX0_108) dX0_leastFrom_1 ?_
  refine lv_icmp_le (tgt := 8) hx hb dX0_leastFrom_3 (by decide) (fun cb_17 => ?_) (fun cb_17 => ?_)
  · have hst2 : st < 262144 := by
      rcases Nat.lt_or_ge st 262144 with q | q
      · exact q
      · exact absurd cb_17 (nI_ge (a := 262143) (show 262143 < st by omega) (by omega))
    refine lv_aload_n hx hb dX0_leastFrom_8 rfl (lv_at hl 0 rfl) ?_
    refine lv_iload_n hx hb dX0_leastFrom_9 rfl (lv_at hl 1 rfl) ?_
    have hPc := hP.sub (ws' := [yO h q1 q2 q3 q4 q5 q6 cc lv ac tc ty tn md, (q5, .inl (k5, 18, .inl f5)), (q6, .inl (k6, 18, .inl f6))]) [0, 3, 4] rfl
    have hDc := hD.sub (ws' := [yO h q1 q2 q3 q4 q5 q6 cc lv ac tc ty tn md, (q5, .inl (k5, 18, .inl f5)), (q6, .inl (k6, 18, .inl f6))]) [0, 3, 4] (by decide) rfl
    have hKc := hK.sub (tys' := [(k5, .int), (k6, .int)]) [2, 3] rfl
    have hFc := va_free (wc := [yO h q1 q2 q3 q4 q5 q6 cc lv ac tc ty tn md, (q5, .inl (k5, 18, .inl f5)), (q6, .inl (k6, 18, .inl f6))]) hD hS hA [0, 3, 4] rfl
    refine va_callv (va_runV (As := [.int (nI st)]) (rest := []) ⟨hx, hb, hml, hown, htA⟩ (c_giveReasons l dC dI h q1 q2 q3 q4 q5 q6 k5 k6 f5 f6 cc lv ac tc ty tn md st s.heap.size) (cwV 1 htA gX0_109 rfl rfl rfl (by decide +kernel) ⟨Nat.le_of_ble_eq_true rfl, Nat.le_of_ble_eq_true rfl⟩) ⟨fun a U g mk q => by obtain ⟨q0, q1, qP, qK, qD⟩ := q; exact ⟨q0, q1, qP, va_K.moved (u := U) (U := U.calling g mk a) (Vm.Alike.refl U.vm) qK, qD⟩, va_recv hKc hPc (ci := 0) (q0 := 0) rfl rfl, fun U hU hW => ⟨rfl, by rw [hU], by rw [hU]; exact hPc, va_K.moved hW.alike hKc, hDc.weaken (fun _ _ _ _ => trivial)⟩⟩ rfl rfl hl.1 rfl (lv_room (Nat.le_of_ble_eq_true rfl)) dX0_leastFrom_10 ⟨Nat.zero_le _, Nat.zero_le _⟩) hS (fun q _ h => hFc q h) hFc (fun u t H1 locs ht hvm hw hB hz1 hk1 hS => ?_)
    obtain ⟨g5, g6⟩ := u
    obtain ⟨hP1, hK1, hD1⟩ := hB
    rw [ht] at hP1
    try dsimp only at hw hP1 hD1
    obtain ⟨hP, hD⟩ := va_join (wr := [(q1, .inl (k1, 419, .inl f1)), (q2, .inl (k2, 419, .inl f2))]) (w1 := [yO h q1 q2 q3 q4 q5 q6 cc lv ac tc ty tn md, (q5, .inl (k5, 18, .inl g5)), (q6, .inl (k6, 18, .inl g6))]) hP hD [0, 3, 4] [1, 2] rfl rfl (by decide) (by decide) hk1 hFc hP1 hD1
    generalize H1 = H at hP hS ⊢
    have hP : va_P (dC, dI) vwCl [yO h q1 q2 q3 q4 q5 q6 cc lv ac tc ty tn md, (q1, .inl (k1, 419, .inl f1)), (q2, .inl (k2, 419, .inl f2)), (q5, .inl (k5, 18, .inl g5)), (q6, .inl (k6, 18, .inl g6))] H := hP.sub [2, 0, 1, 3, 4] rfl
    have hD : va_D A [yO h q1 q2 q3 q4 q5 q6 cc lv ac tc ty tn md, (q1, .inl (k1, 419, .inl f1)), (q2, .inl (k2, 419, .inl f2)), (q5, .inl (k5, 18, .inl g5)), (q6, .inl (k6, 18, .inl g6))] := hD.sub [2, 0, 1, 3, 4] (by decide) rfl
    have hR : yRI (fun a => st ≤ a ∧ a < 262144 ∧ ∀ j, j < rows → ycl (f1 j) (f2 j) a) st g5 g6 := yRI_start hst2 (fun a ha => ⟨ha.1, ha.2.1⟩) hw
    refine lv_iload_n hx hb dX0_leastFrom_13 rfl (lv_at hl 1 rfl) ?_
    refine lv_istore_n (lv' := [(3, .int (nI st)), (0, .ref h), (1, .int (nI st)), (2, .int (nI rows))]) hx hb dX0_leastFrom_14 rfl hl (by decide) rfl (fun ls hl => ?_)
    refine lv_iconst (v := 0) hx hb dX0_leastFrom_15 (by decide) ?_
    refine lv_istore (lv' := [(4, .int 0), (3, .int (nI st)), (0, .ref h), (1, .int (nI st)), (2, .int (nI rows))]) hx hb dX0_leastFrom_16 hl (by decide) rfl (fun ls hl => ?_)
    have loop : ∀ (fu k : Nat) (x3 : Int32) (g5 g6 : Nat → Int32), k ≤ 262144 → 262145 ≤ k + fu → ((x3 = -1 ∧ ∀ a, ¬ (fun a => st ≤ a ∧ a < 262144 ∧ ∀ j, j < rows → ycl (f1 j) (f2 j) a) a) ∨ ∃ c2, x3 = nI c2 ∧ c2 < 262144 ∧ st + k ≤ c2 ∧ yRI (fun a => st ≤ a ∧ a < 262144 ∧ ∀ j, j < rows → ycl (f1 j) (f2 j) a) c2 g5 g6) → ∀ (H : Heap) (locs : List Loc), va_P (dC, dI) vwCl [yO h q1 q2 q3 q4 q5 q6 cc lv ac tc ty tn md, (q1, .inl (k1, 419, .inl f1)), (q2, .inl (k2, 419, .inl f2)), (q5, .inl (k5, 18, .inl g5)), (q6, .inl (k6, 18, .inl g6))] H → va_D A [yO h q1 q2 q3 q4 q5 q6 cc lv ac tc ty tn md, (q1, .inl (k1, 419, .inl f1)), (q2, .inl (k2, 419, .inl f2)), (q5, .inl (k5, 18, .inl g5)), (q6, .inl (k6, 18, .inl g6))] → va_S A s.heap H locs → ∀ (ls : Array Slot), lv_has ls 6 [(4, .int (nI k)), (3, .int x3), (0, .ref h), (1, .int (nI st)), (2, .int (nI rows))] → W p l e (headSpec wsX0_leastFrom ({ frames := 1, cells := 0, slots := 0, locals := 40 })).room s m ([.ref h, .int (nI st), .int (nI rows)] : List Value).toArray below meth c H locs 0 0 (MQ below (va_Qi (fun (r : Int32) (u : (Nat → Int32) × (Nat → Int32)) => yL (fun a => ∀ j, j < rows → ycl (f1 j) (f2 j) a) st r) (fun (u : (Nat → Int32) × (Nat → Int32)) (t : State) => va_P (dC, dI) vwCl [yO h q1 q2 q3 q4 q5 q6 cc lv ac tc ty tn md, (q1, .inl (k1, 419, .inl f1)), (q2, .inl (k2, 419, .inl f2)), (q5, .inl (k5, 18, .inl u.1)), (q6, .inl (k6, 18, .inl u.2))] t.heap ∧ va_K (dC, dI) vwCl [(k1, .int), (k2, .int), (k5, .int), (k6, .int)] t ∧ va_D A [yO h q1 q2 q3 q4 q5 q6 cc lv ac tc ty tn md, (q1, .inl (k1, 419, .inl f1)), (q2, .inl (k2, 419, .inl f2)), (q5, .inl (k5, 18, .inl u.1)), (q6, .inl (k6, 18, .inl u.2))]) A) ([.ref h, .int (nI st), .int (nI rows)] : List Value).toArray s 0 0 A) (F0 m 18 ls []) := by
      intro fu
      induction fu with
      | zero =>
        intro k x3 g5 g6 h1 h2
        exact absurd h2 (by omega)
      | succ fu ih =>
        intro k x3 g5 g6 hk hin hI H locs hP hD hS ls hl
        refine lv_iload hx hb dX0_leastFrom_18 (lv_at hl 0 rfl) ?_
        refine lv_ldc (own := RX0) (v := 262143) hx hb hown (htA _ lkX0_108) dX0_leastFrom_20 ?_
        refine lv_icmp_gt (tgt := 79) hx hb dX0_leastFrom_22 (by decide) (fun cb_19 => ?_) (fun cb_19 => ?_)
        · have hno : ∀ a, ¬ (fun a => st ≤ a ∧ a < 262144 ∧ ∀ j, j < rows → ycl (f1 j) (f2 j) a) a := by
            rcases hI with ⟨h1, h2⟩ | ⟨c2, h1, h2, h3, h4⟩
            · exact h2
            · have : ¬ k ≤ 262143 := fun q => absurd cb_19 (nI_nlt (a := 262143) q (by omega))
              omega
          refine lv_iconst (v := (-1)) hx hb dX0_leastFrom_79 (by decide) ?_
          exact W.iret (v := (-1)) hx hb hr (fun t ht hW => ⟨⟨(-1), (g5, g6), rfl, Or.inl ⟨rfl, fun a h1 h2 h3 => hno a ⟨h1, h2, h3⟩⟩, by rw [ht]; exact hP, va_K.moved hW.alike hK, hD⟩, hS.F ht⟩) hS.2.2 dX0_leastFrom_80
        · have hk2 : k < 262144 := by
            rcases Nat.lt_or_ge k 262144 with q | q
            · exact q
            · exact absurd (nI_lt (a := 262143) (show 262143 < k by omega) (by omega)) cb_19
          refine lv_iload_n hx hb dX0_leastFrom_25 rfl (lv_at hl 1 rfl) ?_
          refine lv_iconst (v := (-1)) hx hb dX0_leastFrom_26 (by decide) ?_
          refine lv_icmp_eq (tgt := 79) hx hb dX0_leastFrom_27 (by decide) (fun cb_20 => ?_) (fun cb_20 => ?_)
          · have hno : ∀ a, ¬ (fun a => st ≤ a ∧ a < 262144 ∧ ∀ j, j < rows → ycl (f1 j) (f2 j) a) a := by
              rcases hI with ⟨h1, h2⟩ | ⟨c2, h1, h2, h3, h4⟩
              · exact h2
              · exact absurd (h1.symm.trans cb_20) (y_m1 (by omega))
            refine lv_iconst (v := (-1)) hx hb dX0_leastFrom_79 (by decide) ?_
            exact W.iret (v := (-1)) hx hb hr (fun t ht hW => ⟨⟨(-1), (g5, g6), rfl, Or.inl ⟨rfl, fun a h1 h2 h3 => hno a ⟨h1, h2, h3⟩⟩, by rw [ht]; exact hP, va_K.moved hW.alike hK, hD⟩, hS.F ht⟩) hS.2.2 dX0_leastFrom_80
          · obtain ⟨c2, rfl, hc2, hck, hR⟩ : ∃ c2, x3 = nI c2 ∧ c2 < 262144 ∧ st + k ≤ c2 ∧ yRI (fun a => st ≤ a ∧ a < 262144 ∧ ∀ j, j < rows → ycl (f1 j) (f2 j) a) c2 g5 g6 := hI.resolve_left (fun q => cb_20 q.1)
            refine lv_aload_n hx hb dX0_leastFrom_30 rfl (lv_at hl 2 rfl) ?_
            refine lv_iload_n hx hb dX0_leastFrom_31 rfl (lv_at hl 1 rfl) ?_
            refine lv_iload_n hx hb dX0_leastFrom_32 rfl (lv_at hl 4 rfl) ?_
            have hPc := hP.sub (ws' := [yO h q1 q2 q3 q4 q5 q6 cc lv ac tc ty tn md, (q1, .inl (k1, 419, .inl f1)), (q2, .inl (k2, 419, .inl f2))]) [0, 1, 2] rfl
            have hDc := hD.sub (ws' := [yO h q1 q2 q3 q4 q5 q6 cc lv ac tc ty tn md, (q1, .inl (k1, 419, .inl f1)), (q2, .inl (k2, 419, .inl f2))]) [0, 1, 2] (by decide) rfl
            have hKc := hK.sub (tys' := [(k1, .int), (k2, .int)]) [0, 1] rfl
            have hFc := va_free (wc := [yO h q1 q2 q3 q4 q5 q6 cc lv ac tc ty tn md, (q1, .inl (k1, 419, .inl f1)), (q2, .inl (k2, 419, .inl f2))]) hD hS hA [0, 1, 2] rfl
            refine va_calli (va_runV (As := [.int (nI c2), .int (nI rows)]) (rest := []) ⟨hx, hb, hml, hown, htA⟩ (c_falseRow l dC dI h q1 q2 q3 q4 q5 q6 k1 k2 f1 f2 cc lv ac tc ty tn md c2 rows H.size hrows hm) (cwV 2 htA gX0_113 rfl rfl rfl (by decide +kernel) ⟨Nat.le_of_ble_eq_true rfl, Nat.le_of_ble_eq_true rfl⟩) ⟨fun a U g mk q => by obtain ⟨q0, q1, qP, qK, qD⟩ := q; exact ⟨q0, q1, qP, va_K.moved (u := U) (U := U.calling g mk a) (Vm.Alike.refl U.vm) qK, qD⟩, va_recv hKc hPc (ci := 0) (q0 := 0) rfl rfl, fun U hU hW => ⟨rfl, by rw [hU], by rw [hU]; exact hPc, va_K.moved hW.alike hKc, hDc.weaken (fun _ _ _ _ => trivial)⟩⟩ rfl rfl hl.1 rfl (lv_room (Nat.le_of_ble_eq_true rfl)) dX0_leastFrom_33 ⟨Nat.zero_le _, Nat.zero_le _⟩) hS (fun q _ h => hFc q h) hFc (fun r_21 u t H1 locs ht hvm hw hB hz1 hk1 hS => ?_)
            obtain ⟨hP1, hK1, hD1⟩ := hB
            rw [ht] at hP1
            try dsimp only at hw hP1 hD1
            obtain ⟨hP, hD⟩ := va_join (wr := [(q5, .inl (k5, 18, .inl g5)), (q6, .inl (k6, 18, .inl g6))]) (w1 := [yO h q1 q2 q3 q4 q5 q6 cc lv ac tc ty tn md, (q1, .inl (k1, 419, .inl f1)), (q2, .inl (k2, 419, .inl f2))]) hP hD [0, 1, 2] [3, 4] rfl rfl (by decide) (by decide) hk1 hFc hP1 hD1
            generalize H1 = H at hP hS ⊢
            have hP : va_P (dC, dI) vwCl [yO h q1 q2 q3 q4 q5 q6 cc lv ac tc ty tn md, (q1, .inl (k1, 419, .inl f1)), (q2, .inl (k2, 419, .inl f2)), (q5, .inl (k5, 18, .inl g5)), (q6, .inl (k6, 18, .inl g6))] H := hP.sub [2, 3, 4, 0, 1] rfl
            have hD : va_D A [yO h q1 q2 q3 q4 q5 q6 cc lv ac tc ty tn md, (q1, .inl (k1, 419, .inl f1)), (q2, .inl (k2, 419, .inl f2)), (q5, .inl (k5, 18, .inl g5)), (q6, .inl (k6, 18, .inl g6))] := hD.sub [2, 3, 4, 0, 1] (by decide) rfl
            refine lv_istore (lv' := [(5, .int r_21), (4, .int (nI k)), (3, .int (nI c2)), (0, .ref h), (1, .int (nI st)), (2, .int (nI rows))]) hx hb dX0_leastFrom_36 hl (by decide) rfl (fun ls hl => ?_)
            rcases hw with ⟨rfl, hall⟩ | ⟨j, hj, rfl, hcl⟩
            · refine lv_iload hx hb dX0_leastFrom_38 (lv_at hl 0 rfl) ?_
              refine lv_if_lt (tgt := 51) hx hb dX0_leastFrom_40 (by decide) (fun cb_22 => ?_) (fun cb_22 => ?_)
              · refine lv_iload_n hx hb dX0_leastFrom_51 rfl (lv_at hl 2 rfl) ?_
                exact W.iret (v := nI c2) hx hb hr (fun t ht hW => ⟨⟨nI c2, (g5, g6), rfl, Or.inr ⟨c2, rfl, by omega, hc2, hall, fun a h1 h2 h3 => absurd (yRI_least hc2 hR ⟨h1, by omega, h3⟩) (by omega)⟩, by rw [ht]; exact hP, va_K.moved hW.alike hK, hD⟩, hS.F ht⟩) hS.2.2 dX0_leastFrom_52
              · exact absurd (by decide) cb_22
            · have hj2 : j < 419 := by omega
              refine lv_iload hx hb dX0_leastFrom_38 (lv_at hl 0 rfl) ?_
              refine lv_if_lt (tgt := 51) hx hb dX0_leastFrom_40 (by decide) (fun cb_23 => ?_) (fun cb_23 => ?_)
              · exact absurd cb_23 (nI_pos (by omega))
              · refine lv_iload hx hb dX0_leastFrom_43 (lv_at hl 0 rfl) ?_
                refine lv_sipush (v := 419) hx hb dX0_leastFrom_45 (by decide) ?_
                refine lv_icmp_lt (tgt := 53) hx hb dX0_leastFrom_48 (by decide) (fun cb_24 => ?_) (fun cb_24 => ?_)
                · refine lv_aload_n hx hb dX0_leastFrom_53 rfl (lv_at hl 3 rfl) ?_
                  refine lv_iload_n hx hb dX0_leastFrom_54 rfl (lv_at hl 2 rfl) ?_
                  refine lv_aload_n hx hb dX0_leastFrom_55 rfl (lv_at hl 3 rfl) ?_
                  refine va_get (D := (dC, dI)) (ci := 0) (v := .ref q1) (C := RX0) (T := TX0) (N := 13) hx hb htA inX0 hown hK hP 0 rfl rfl 0 (by decide) (htA _ lkX0_9) (fun _ h9 => h9) rfl dX0_leastFrom_56 ?_
                  refine lv_iload hx hb dX0_leastFrom_59 (lv_at hl 0 rfl) ?_
                  refine yv_iald hx hb hK hP 1 0 rfl rfl (k := j) hj2 (by decide) dX0_leastFrom_61 ?_
                  refine lv_aload_n hx hb dX0_leastFrom_62 rfl (lv_at hl 3 rfl) ?_
                  refine va_get (D := (dC, dI)) (ci := 0) (v := .ref q2) (C := RX0) (T := TX0) (N := 13) hx hb htA inX0 hown hK hP 0 rfl rfl 1 (by decide) (htA _ lkX0_13) (fun _ h9 => h9) rfl dX0_leastFrom_63 ?_
                  refine lv_iload hx hb dX0_leastFrom_66 (lv_at hl 0 rfl) ?_
                  refine yv_iald hx hb hK hP 2 1 rfl rfl (k := j) hj2 (by decide) dX0_leastFrom_68 ?_
                  have hPc := hP.sub (ws' := [yO h q1 q2 q3 q4 q5 q6 cc lv ac tc ty tn md, (q5, .inl (k5, 18, .inl g5)), (q6, .inl (k6, 18, .inl g6))]) [0, 3, 4] rfl
                  have hDc := hD.sub (ws' := [yO h q1 q2 q3 q4 q5 q6 cc lv ac tc ty tn md, (q5, .inl (k5, 18, .inl g5)), (q6, .inl (k6, 18, .inl g6))]) [0, 3, 4] (by decide) rfl
                  have hKc := hK.sub (tys' := [(k5, .int), (k6, .int)]) [2, 3] rfl
                  have hFc := va_free (wc := [yO h q1 q2 q3 q4 q5 q6 cc lv ac tc ty tn md, (q5, .inl (k5, 18, .inl g5)), (q6, .inl (k6, 18, .inl g6))]) hD hS hA [0, 3, 4] rfl
                  refine va_calli (va_runV (As := [.int (nI c2), .int (f1 j), .int (f2 j)]) (rest := []) ⟨hx, hb, hml, hown, htA⟩ (c_leap l dC dI h q1 q2 q3 q4 q5 q6 k5 k6 g5 g6 cc lv ac tc ty tn md c2 (f1 j) (f2 j) (fun a => st ≤ a ∧ a < 262144 ∧ ∀ j, j < rows → ycl (f1 j) (f2 j) a) H.size hc2 hR (yLI_0 (hm j hj).1 (hm j hj).2 hcl (fun a ha => ha.2.2 j hj))) (cwV 3 htA gX0_116 rfl rfl rfl (by decide +kernel) ⟨Nat.le_of_ble_eq_true rfl, Nat.le_of_ble_eq_true rfl⟩) ⟨fun a U g mk q => by obtain ⟨q0, q1, qP, qK, qD⟩ := q; exact ⟨q0, q1, qP, va_K.moved (u := U) (U := U.calling g mk a) (Vm.Alike.refl U.vm) qK, qD⟩, va_recv hKc hPc (ci := 0) (q0 := 0) rfl rfl, fun U hU hW => ⟨rfl, by rw [hU], by rw [hU]; exact hPc, va_K.moved hW.alike hKc, hDc.weaken (fun _ _ _ _ => trivial)⟩⟩ rfl rfl hl.1 rfl (lv_room (Nat.le_of_ble_eq_true rfl)) dX0_leastFrom_69 ⟨Nat.zero_le _, Nat.zero_le _⟩) hS (fun q _ h => hFc q h) hFc (fun r9 u t H1 locs ht hvm hw hB hz1 hk1 hS => ?_)
                  obtain ⟨d5, d6⟩ := u
                  obtain ⟨hP1, hK1, hD1⟩ := hB
                  rw [ht] at hP1
                  try dsimp only at hw hP1 hD1
                  obtain ⟨hP, hD⟩ := va_join (wr := [(q1, .inl (k1, 419, .inl f1)), (q2, .inl (k2, 419, .inl f2))]) (w1 := [yO h q1 q2 q3 q4 q5 q6 cc lv ac tc ty tn md, (q5, .inl (k5, 18, .inl d5)), (q6, .inl (k6, 18, .inl d6))]) hP hD [0, 3, 4] [1, 2] rfl rfl (by decide) (by decide) hk1 hFc hP1 hD1
                  generalize H1 = H at hP hS ⊢
                  have hP : va_P (dC, dI) vwCl [yO h q1 q2 q3 q4 q5 q6 cc lv ac tc ty tn md, (q1, .inl (k1, 419, .inl f1)), (q2, .inl (k2, 419, .inl f2)), (q5, .inl (k5, 18, .inl d5)), (q6, .inl (k6, 18, .inl d6))] H := hP.sub [2, 0, 1, 3, 4] rfl
                  have hD : va_D A [yO h q1 q2 q3 q4 q5 q6 cc lv ac tc ty tn md, (q1, .inl (k1, 419, .inl f1)), (q2, .inl (k2, 419, .inl f2)), (q5, .inl (k5, 18, .inl d5)), (q6, .inl (k6, 18, .inl d6))] := hD.sub [2, 0, 1, 3, 4] (by decide) rfl
                  refine lv_istore_n (lv' := [(3, .int r9), (5, .int (nI j)), (4, .int (nI k)), (0, .ref h), (1, .int (nI st)), (2, .int (nI rows))]) hx hb dX0_leastFrom_72 rfl hl (by decide) rfl (fun ls hl => ?_)
                  refine lv_iinc (v := nI (k + 1)) (lv' := [(4, .int (nI (k + 1))), (3, .int r9), (5, .int (nI j)), (0, .ref h), (1, .int (nI st)), (2, .int (nI rows))]) hx hb dX0_leastFrom_73 hl (k := 2) rfl (nI_1 _) (by decide) rfl (fun ls hl => ?_)
                  refine lv_goto (tgt := 18) hx hb dX0_leastFrom_76 (by decide) ?_
                  refine ih (k + 1) r9 d5 d6 (by omega) (by omega) ?_ _ _ hP hD hS ls (lv_sub hl [0, 1, 3, 4, 5] rfl)
                  rcases hw with ⟨h1, h2⟩ | ⟨c3, h1, h2, h3, h4⟩
                  · exact Or.inl ⟨h1, h2⟩
                  · exact Or.inr ⟨c3, h1, h2, by omega, h4⟩
                · exact absurd (nI_lt (b := 419) hj2 (by omega)) cb_24
    exact loop 262145 0 (nI st) g5 g6 (by omega) (by omega) (Or.inr ⟨st, rfl, hst2, by omega, hR⟩) _ _ hP hD hS ls (lv_sub hl [0, 1, 2, 3, 4] rfl)
  · refine lv_iconst (v := (-1)) hx hb dX0_leastFrom_6 (by decide) ?_
    exact W.iret (v := (-1)) hx hb hr (fun t ht hW => ⟨⟨(-1), (f5, f6), rfl, Or.inl ⟨rfl, fun a h1 h2 => absurd (nI_le (b := 262143) (show st ≤ 262143 by omega) (by omega)) cb_17⟩, by rw [ht]; exact hP, va_K.moved hW.alike hK, hD⟩, hS.F ht⟩) hS.2.2 dX0_leastFrom_7
set_option maxHeartbeats 4000000 in
set_option maxRecDepth 100000 in
theorem c_isSatisfied (l : Launch) (dC : Nat → ClassId) (dI : Nat → Nat → Nat) (h : Nat) (q1 : Nat) (q2 : Nat) (q3 : Nat) (q4 : Nat) (q5 : Nat) (q6 : Nat) (k1 : ClassId) (k2 : ClassId) (k5 : ClassId) (k6 : ClassId) (f1 : Nat → Int32) (f2 : Nat → Int32) (f5 : Nat → Int32) (f6 : Nat → Int32) (cc : Int32) (lv : Int32) (ac : Int32) (tc : Int32) (ty : Int32) (tn : Int32) (md : Int32) (rows : Nat) (sz : Nat) (hrows : rows ≤ 419) (hm : ∀ j, j < rows → ym (f1 j) ∧ ym (f2 j)) : Met l yX0_isSatisfied wsX0_isSatisfied ({ frames := 2, cells := 0, slots := 0, locals := 80 }) (va_Pc [.ref h, .int (nI rows)] (fun U => U.heap.size = sz ∧ va_P (dC, dI) vwCl [yO h q1 q2 q3 q4 q5 q6 cc lv ac tc ty tn md, (q1, .inl (k1, 419, .inl f1)), (q2, .inl (k2, 419, .inl f2)), (q5, .inl (k5, 18, .inl f5)), (q6, .inl (k6, 18, .inl f6))] U.heap ∧ va_K (dC, dI) vwCl [(k1, .int), (k2, .int), (k5, .int), (k6, .int)] U ∧ va_D (fun _ => True) [yO h q1 q2 q3 q4 q5 q6 cc lv ac tc ty tn md, (q1, .inl (k1, 419, .inl f1)), (q2, .inl (k2, 419, .inl f2)), (q5, .inl (k5, 18, .inl f5)), (q6, .inl (k6, 18, .inl f6))])) (va_Qi (fun (r : Int32) (u : (Nat → Int32) × (Nat → Int32)) => (r = 1 ∧ ∃ a, a < 262144 ∧ ∀ j, j < rows → ycl (f1 j) (f2 j) a) ∨ (r = 0 ∧ ¬ ∃ a, a < 262144 ∧ ∀ j, j < rows → ycl (f1 j) (f2 j) a)) (fun (u : (Nat → Int32) × (Nat → Int32)) (t : State) => va_P (dC, dI) vwCl [yO h q1 q2 q3 q4 q5 q6 cc lv ac tc ty tn md, (q1, .inl (k1, 419, .inl f1)), (q2, .inl (k2, 419, .inl f2)), (q5, .inl (k5, 18, .inl u.1)), (q6, .inl (k6, 18, .inl u.2))] t.heap ∧ va_K (dC, dI) vwCl [(k1, .int), (k2, .int), (k5, .int), (k6, .int)] t ∧ va_D (va_A [yO h q1 q2 q3 q4 q5 q6 cc lv ac tc ty tn md, (q1, .inl (k1, 419, .inl f1)), (q2, .inl (k2, 419, .inl f2)), (q5, .inl (k5, 18, .inl f5)), (q6, .inl (k6, 18, .inl f6))] sz) [yO h q1 q2 q3 q4 q5 q6 cc lv ac tc ty tn md, (q1, .inl (k1, 419, .inl f1)), (q2, .inl (k2, 419, .inl f2)), (q5, .inl (k5, 18, .inl u.1)), (q6, .inl (k6, 18, .inl u.2))]) (va_A [yO h q1 q2 q3 q4 q5 q6 cc lv ac tc ty tn md, (q1, .inl (k1, 419, .inl f1)), (q2, .inl (k2, 419, .inl f2)), (q5, .inl (k5, 18, .inl f5)), (q6, .inl (k6, 18, .inl f6))] sz)) 0 0 (va_A [yO h q1 q2 q3 q4 q5 q6 cc lv ac tc ty tn md, (q1, .inl (k1, 419, .inl f1)), (q2, .inl (k2, 419, .inl f2)), (q5, .inl (k5, 18, .inl f5)), (q6, .inl (k6, 18, .inl f6))] sz) := by
  refine Met.ofW (cc := cX0_isSatisfied) (maxL := 2) (ret := (some .boolean)) (by decide) rfl ?_
  intro p e s m args below meth c s₁ B hml hv
  obtain ⟨rfl, hsz, hP, hK, hD0⟩ := hv
  have hx := B.exec
  have hb := B.bytes
  have hr := B.returns
  have hts := atoms_spec (ws := wsX0_isSatisfied) B.pre
  have htA : ∀ w ∈ wsA, w.before _ s = true := fun w h => hts w (List.mem_cons_of_mem _ h)
  have hown : s.vm.findClass RX0 = some m.cls := findClass_of_methodNamed B.named
  have hlocks := B.notSynchronized
  subst hsz
  have hD := hD0.self (sz := s.heap.size)
  generalize hAe : va_A [yO h q1 q2 q3 q4 q5 q6 cc lv ac tc ty tn md, (q1, .inl (k1, 419, .inl f1)), (q2, .inl (k2, 419, .inl f2)), (q5, .inl (k5, 18, .inl f5)), (q6, .inl (k6, 18, .inl f6))] s.heap.size = A at hD ⊢
  have hA : ∀ q : Nat, s.heap.size ≤ q → A q := fun q h => by rw [← hAe]; exact Or.inr h
  have hS : va_S A s.heap s.heap [] := va_S.rf
  have hP : va_P (dC, dI) vwCl [yO h q1 q2 q3 q4 q5 q6 cc lv ac tc ty tn md, (q1, .inl (k1, 419, .inl f1)), (q2, .inl (k2, 419, .inl f2)), (q5, .inl (k5, 18, .inl f5)), (q6, .inl (k6, 18, .inl f6))] s.heap := hP
  have hl := lv_entry ([.ref h, .int (nI rows)]) (n := 2) (Nat.le_of_ble_eq_true rfl)
  rw [lg_entry_eq]
  generalize (lg_sl ([.ref h, .int (nI rows)]) ++ List.replicate (2 - (lg_sl ([.ref h, .int (nI rows)])).length) Slot.unset).toArray = ls at hl ⊢
  have hl : lv_has ls 2 [(0, .ref h), (1, .int (nI rows))] := hl
  refine lv_aload_n hx hb dX0_isSatisfied_0 rfl (lv_at hl 0 rfl) ?_
  refine lv_iconst (v := 0) hx hb dX0_isSatisfied_1 (by decide) ?_
  refine lv_iload_n hx hb dX0_isSatisfied_2 rfl (lv_at hl 1 rfl) ?_
  refine W.eq (g2 := F0 m 3 ls [.int (nI rows), .int (nI 0), .ref h]) (by rw [nI_0]) ?_
  have hPc := hP.sub (ws' := [yO h q1 q2 q3 q4 q5 q6 cc lv ac tc ty tn md, (q1, .inl (k1, 419, .inl f1)), (q2, .inl (k2, 419, .inl f2)), (q5, .inl (k5, 18, .inl f5)), (q6, .inl (k6, 18, .inl f6))]) [0, 1, 2, 3, 4] rfl
  have hDc := hD.sub (ws' := [yO h q1 q2 q3 q4 q5 q6 cc lv ac tc ty tn md, (q1, .inl (k1, 419, .inl f1)), (q2, .inl (k2, 419, .inl f2)), (q5, .inl (k5, 18, .inl f5)), (q6, .inl (k6, 18, .inl f6))]) [0, 1, 2, 3, 4] (by decide) rfl
  have hKc := hK.sub (tys' := [(k1, .int), (k2, .int), (k5, .int), (k6, .int)]) [0, 1, 2, 3] rfl
  have hFc := va_free (wc := [yO h q1 q2 q3 q4 q5 q6 cc lv ac tc ty tn md, (q1, .inl (k1, 419, .inl f1)), (q2, .inl (k2, 419, .inl f2)), (q5, .inl (k5, 18, .inl f5)), (q6, .inl (k6, 18, .inl f6))]) hD hS hA [0, 1, 2, 3, 4] rfl
  refine va_calli (va_runV (As := [.int (nI 0), .int (nI rows)]) (rest := []) ⟨hx, hb, hml, hown, htA⟩ (c_leastFrom l dC dI h q1 q2 q3 q4 q5 q6 k1 k2 k5 k6 f1 f2 f5 f6 cc lv ac tc ty tn md 0 rows s.heap.size (by omega) hrows hm) (cwV 2 htA gX0_88 rfl rfl rfl (by decide +kernel) ⟨Nat.le_of_ble_eq_true rfl, Nat.le_of_ble_eq_true rfl⟩) ⟨fun a U g mk q => by obtain ⟨q0, q1, qP, qK, qD⟩ := q; exact ⟨q0, q1, qP, va_K.moved (u := U) (U := U.calling g mk a) (Vm.Alike.refl U.vm) qK, qD⟩, va_recv hKc hPc (ci := 0) (q0 := 0) rfl rfl, fun U hU hW => ⟨rfl, by rw [hU], by rw [hU]; exact hPc, va_K.moved hW.alike hKc, hDc.weaken (fun _ _ _ _ => trivial)⟩⟩ rfl rfl hl.1 rfl (lv_room (Nat.le_of_ble_eq_true rfl)) dX0_isSatisfied_3 ⟨Nat.zero_le _, Nat.zero_le _⟩) hS (fun q _ h => hFc q h) hFc (fun r9 u t H1 locs ht hvm hw hB hz1 hk1 hS => ?_)
  obtain ⟨g5, g6⟩ := u
  obtain ⟨hP1, hK1, hD1⟩ := hB
  rw [ht] at hP1
  try dsimp only at hw hP1 hD1
  obtain ⟨hP, hD⟩ := va_join (wr := []) (w1 := [yO h q1 q2 q3 q4 q5 q6 cc lv ac tc ty tn md, (q1, .inl (k1, 419, .inl f1)), (q2, .inl (k2, 419, .inl f2)), (q5, .inl (k5, 18, .inl g5)), (q6, .inl (k6, 18, .inl g6))]) hP hD [0, 1, 2, 3, 4] [] rfl rfl (by decide) (by decide) hk1 hFc hP1 hD1
  generalize H1 = H at hP hS ⊢
  have hP : va_P (dC, dI) vwCl [yO h q1 q2 q3 q4 q5 q6 cc lv ac tc ty tn md, (q1, .inl (k1, 419, .inl f1)), (q2, .inl (k2, 419, .inl f2)), (q5, .inl (k5, 18, .inl g5)), (q6, .inl (k6, 18, .inl g6))] H := hP.sub [0, 1, 2, 3, 4] rfl
  have hD : va_D A [yO h q1 q2 q3 q4 q5 q6 cc lv ac tc ty tn md, (q1, .inl (k1, 419, .inl f1)), (q2, .inl (k2, 419, .inl f2)), (q5, .inl (k5, 18, .inl g5)), (q6, .inl (k6, 18, .inl g6))] := hD.sub [0, 1, 2, 3, 4] (by decide) rfl
  refine lv_iconst (v := (-1)) hx hb dX0_isSatisfied_6 (by decide) ?_
  refine lv_icmp_eq (tgt := 14) hx hb dX0_isSatisfied_7 (by decide) (fun cb_25 => ?_) (fun cb_25 => ?_)
  · refine lv_iconst (v := 0) hx hb dX0_isSatisfied_14 (by decide) ?_
    exact W.zret (v := 0) (ty := .boolean) hx hb hr (by decide) (fun t ht hW => ⟨⟨0, (g5, g6), rfl, Or.inr ⟨rfl, fun ⟨a, h1, h2⟩ => (yL_ne hw).mpr ⟨a, Nat.zero_le _, h1, h2⟩ cb_25⟩, by rw [ht]; exact hP, va_K.moved hW.alike hK, hD⟩, hS.F ht⟩) hS.2.2 dX0_isSatisfied_15
  · refine lv_iconst (v := 1) hx hb dX0_isSatisfied_10 (by decide) ?_
    refine lv_goto (tgt := 15) hx hb dX0_isSatisfied_11 (by decide) ?_
    exact W.zret (v := 1) (ty := .boolean) hx hb hr (by decide) (fun t ht hW => ⟨⟨1, (g5, g6), rfl, Or.inl ⟨rfl, let ⟨a, _, h1, h2⟩ := (yL_ne hw).mp cb_25; ⟨a, h1, h2⟩⟩, by rw [ht]; exact hP, va_K.moved hW.alike hK, hD⟩, hS.F ht⟩) hS.2.2 dX0_isSatisfied_15
