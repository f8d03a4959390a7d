/-- what a throw wants of the state, out of the Statement's own premises -/
theorem law_ex {s : State} {b : Nat} (hts : ∀ w ∈ lw_tbl, w.before #[Value.ref b] s = true) (hgv : (Jvm.Cond.and given_1 narrow_1).before #[Value.ref b] s = true) : yEx (fun q : Nat => s.heap.size ≤ q) s s.heap := by
  have hs := flat_of_before _ hgv
  have hA : ∀ a : Nat, a < s.heap.size → ¬ s.heap.size ≤ a := fun a h => Nat.not_le.mpr h
  refine ⟨vx_Zqof (hts (.laysStatic Bundle.tN "UNASSIGNED_STACK" Bundle.steD) (by decide +kernel)) (hts (.initialized Bundle.tN) (by decide +kernel)) (hs (.isRef (.static Bundle.tN "UNASSIGNED_STACK" Bundle.steD)) (by decide +kernel)) hA, vx_Zqof (hts (.laysStatic Bundle.tN "SUPPRESSED_SENTINEL" Bundle.listD) (by decide +kernel)) (hts (.initialized Bundle.tN) (by decide +kernel)) (hs (.isRef (.static Bundle.tN "SUPPRESSED_SENTINEL" Bundle.listD)) (by decide +kernel)) hA, fun w hw => ?_, fun q hq => ?_, ?_⟩
  · have hm : w ∈ lw_tbl := (by decide +kernel : ∀ w ∈ yExW, w ∈ lw_tbl) w hw
    exact va_Nw.of ((by decide +kernel : ∀ w ∈ yExW, w.onTables = true) w hw) (hts w hm)
  · simp only [yExS, List.mem_cons, List.not_mem_nil, or_false] at hq
    rcases hq with rfl | rfl | rfl | rfl | rfl | rfl | rfl | rfl | rfl | rfl | rfl
    · obtain ⟨a, -, -, -, q1, -⟩ := Cond.exactly_spec (hs (.exactly (.string "ClauseYard" 33) "java/lang/String") (by decide +kernel))
      exact ⟨a, vk_R.of (hts (.stringRef RX0 33 "no literal") (by decide +kernel)) q1⟩
    · obtain ⟨a, -, -, -, q1, -⟩ := Cond.exactly_spec (hs (.exactly (.string "ClauseYard" 43) "java/lang/String") (by decide +kernel))
      exact ⟨a, vk_R.of (hts (.stringRef RX0 43 "the tape is full") (by decide +kernel)) q1⟩
    · obtain ⟨a, -, -, -, q1, -⟩ := Cond.exactly_spec (hs (.exactly (.string "ClauseYard" 62) "java/lang/String") (by decide +kernel))
      exact ⟨a, vk_R.of (hts (.stringRef RX0 62 "the yard is full") (by decide +kernel)) q1⟩
    · obtain ⟨a, -, -, -, q1, -⟩ := Cond.exactly_spec (hs (.exactly (.string "ClauseYard" 71) "java/lang/String") (by decide +kernel))
      exact ⟨a, vk_R.of (hts (.stringRef RX0 71 "no level above this one") (by decide +kernel)) q1⟩
    · obtain ⟨a, -, -, -, q1, -⟩ := Cond.exactly_spec (hs (.exactly (.string "ClauseYard" 73) "java/lang/String") (by decide +kernel))
      exact ⟨a, vk_R.of (hts (.stringRef RX0 73 "no level is open") (by decide +kernel)) q1⟩
    · obtain ⟨a, -, -, -, q1, -⟩ := Cond.exactly_spec (hs (.exactly (.string "ClauseYard" 78) "java/lang/String") (by decide +kernel))
      exact ⟨a, vk_R.of (hts (.stringRef RX0 78 "too many assumptions") (by decide +kernel)) q1⟩
    · obtain ⟨a, -, -, -, q1, -⟩ := Cond.exactly_spec (hs (.exactly (.string "ClauseYard" 87) "java/lang/String") (by decide +kernel))
      exact ⟨a, vk_R.of (hts (.stringRef RX0 87 "no model") (by decide +kernel)) q1⟩
    · obtain ⟨a, -, -, -, q1, -⟩ := Cond.exactly_spec (hs (.exactly (.string "ClauseYard" 94) "java/lang/String") (by decide +kernel))
      exact ⟨a, vk_R.of (hts (.stringRef RX0 94 "no such assumption") (by decide +kernel)) q1⟩
    · obtain ⟨a, -, -, -, q1, -⟩ := Cond.exactly_spec (hs (.exactly (.string "ClauseYard" 97) "java/lang/String") (by decide +kernel))
      exact ⟨a, vk_R.of (hts (.stringRef RX0 97 "not 1 .. 64") (by decide +kernel)) q1⟩
    · obtain ⟨a, -, -, -, q1, -⟩ := Cond.exactly_spec (hs (.exactly (.string "ClauseYard" 111) "java/lang/String") (by decide +kernel))
      exact ⟨a, vk_R.of (hts (.stringRef RX0 111 "no such variable") (by decide +kernel)) q1⟩
    · obtain ⟨a, -, -, -, q1, -⟩ := Cond.exactly_spec (hs (.exactly (.string "ClauseYard" 113) "java/lang/String") (by decide +kernel))
      exact ⟨a, vk_R.of (hts (.stringRef RX0 113 "nothing to look at") (by decide +kernel)) q1⟩
  · obtain ⟨tw, e1, hT⟩ := va_Tof (N := 6) (f := fun j => .long (wO j)) (tm := (.static "ClauseYard$Search" "WHERE_ONE" "[J")) (ty := .long) (A := (fun q : Nat => s.heap.size ≤ q)) (by decide) (hs (.arrayOf (.static "ClauseYard$Search" "WHERE_ONE" "[J") .long) (by decide +kernel)) (va_eqt (hs (.eq (.length (.static "ClauseYard$Search" "WHERE_ONE" "[J")) (.int 6)) (by decide +kernel))) (fun j hj => by
      match j, hj with
      | 0, _ => exact va_eqtl (hs (.eq (.elem (.static "ClauseYard$Search" "WHERE_ONE" "[J") (.int 0)) (.long (-6148914691236517206))) (by decide +kernel))
      | 1, _ => exact va_eqtl (hs (.eq (.elem (.static "ClauseYard$Search" "WHERE_ONE" "[J") (.int 1)) (.long (-3689348814741910324))) (by decide +kernel))
      | 2, _ => exact va_eqtl (hs (.eq (.elem (.static "ClauseYard$Search" "WHERE_ONE" "[J") (.int 2)) (.long (-1085102592571150096))) (by decide +kernel))
      | 3, _ => exact va_eqtl (hs (.eq (.elem (.static "ClauseYard$Search" "WHERE_ONE" "[J") (.int 3)) (.long (-71777214294589696))) (by decide +kernel))
      | 4, _ => exact va_eqtl (hs (.eq (.elem (.static "ClauseYard$Search" "WHERE_ONE" "[J") (.int 4)) (.long (-281470681808896))) (by decide +kernel))
      | 5, _ => exact va_eqtl (hs (.eq (.elem (.static "ClauseYard$Search" "WHERE_ONE" "[J") (.int 5)) (.long (-4294967296))) (by decide +kernel))
      | j + 6, hj => exact absurd hj (by omega)) hA
    exact ⟨tw, va_Zref (hts (.laysStatic "ClauseYard$Search" "WHERE_ONE" "[J") (by decide +kernel)) (hts (.initialized "ClauseYard$Search") (by decide +kernel)) e1 hA, hT⟩
set_option maxHeartbeats 4000000 in
set_option maxRecDepth 100000 in
/-- THE LAW, from its entry -/
theorem whole_start {p : Program} {e : Env} {s : State} {m : MethodId} {below : List Frame} {meth : Method} {c : Code} (l : Launch) (hl9 : l.stackTraces = false) {b L : Nat} {xs : Nat → Int32} (hL : L ≤ 1024) (C0 : lw_At p s m meth c b L xs) : W p l e room_1 s m #[Value.ref b] below meth c s.heap [] 0 0 (lw_Z below #[Value.ref b] s) (entryFrame m ([Value.ref b] : List Value).toArray 7) := by
  obtain ⟨hx, hb, hr, hml, hown, hts, hX, hbl, hlocks, hgv⟩ := id C0
  have htA : ∀ w ∈ wsA, w.before _ s = true := fun w h => hts w (List.mem_filter.mp h).1
  have hown : s.vm.findClass RL = some m.cls := hown
  have hA : ∀ q : Nat, s.heap.size ≤ q → (fun q : Nat => s.heap.size ≤ q) q := fun _ h => h
  have hbA : ¬ (fun q : Nat => s.heap.size ≤ q) b := Nat.not_le.mpr hbl
  have hEX := law_ex hts hgv
  have hNC : va_Nc "java/lang/IllegalStateException" "java/lang/IllegalArgumentException" s := va_Nc.of (flat_of_before _ hgv (.not (.castable "java/lang/IllegalStateException" "java/lang/IllegalArgumentException")) (by decide +kernel))
  have hNest : va_Nw (.methodLinkNest RX0 11 yX2_init "ClauseYard") s := va_Nw.of rfl (hts (.methodLinkNest RX0 11 yX2_init "ClauseYard") (by decide +kernel))
  obtain ⟨c2, iS2, hKn2⟩ := u_known (C := RX2) (T := TX2) (N := 8) (n := 8) htA inX2 (htA _ ist_ClauseYard_Search)
  obtain ⟨c0, iS0, hKn0⟩ := u_known (C := RX0) (T := TX0) (N := 10) (n := 10) htA inX0 (htA _ ist_ClauseYard)
  obtain ⟨c1, iS1, hKn1⟩ := u_known (C := RX1) (T := TX1) (N := 13) (n := 13) htA inX1 (htA _ ist_ClauseYardModel)
  obtain ⟨dC, dI, hKc⟩ : ∃ (dC : Nat → ClassId) (dI : Nat → Nat → Nat), ∀ (k : Nat) (q : vw_C), vwCl[k]? = some q → u_Kn s q.1 q.2.1 q.2.2 (dC k) (dI k) := by
    refine ⟨fun k => if k = 0 then c0 else if k = 1 then c1 else c2, fun k => if k = 0 then iS0 else if k = 1 then iS1 else iS2, ?_⟩
    intro k q hq
    match k, hq with
    | 0, hq => cases hq; exact hKn0
    | 1, hq => cases hq; exact hKn1
    | 2, hq => cases hq; exact hKn2
    | k + 3, hq => simp [vwCl] at hq
  have hS : va_S (fun q : Nat => s.heap.size ≤ q) s.heap s.heap [] := va_S.rf
  have hK : va_K (dC, dI) vwCl [] s := ⟨hKc, fun k q h => by simp at h⟩
  have hP : va_P (dC, dI) vwCl [] s.heap := fun k q h => by simp at h
  have hD : va_D (fun q : Nat => s.heap.size ≤ q) [] := ⟨fun i j p q h => by simp at h, fun k q h => by simp at h⟩
  have hl := lv_entry ([.ref b]) (n := 7) (Nat.le_of_ble_eq_true rfl)
  rw [lg_entry_eq]
  generalize (lg_sl ([.ref b]) ++ List.replicate (7 - (lg_sl ([.ref b])).length) Slot.unset).toArray = ls at hl ⊢
  have hl : lv_has ls 7 [(0, .ref b)] := hl
  refine va_new (ci := 0) (fs := [.null, .null, .null, .int 0, .int 0, .int 0, .int 0, .int 0, .int 0, .int 0]) (C := RX0) (T := TX0) (N := 10) hx hb htA inX0 tyX0 tyX0_ok hown (htA _ lkL_8) (htA _ ist_ClauseYard) (htA _ ini_ClauseYard) hK hP hD hS hA rfl (fun j hj => by rcases (show j = 0 ∨ j = 1 ∨ j = 2 ∨ j = 3 ∨ j = 4 ∨ j = 5 ∨ j = 6 ∨ j = 7 ∨ j = 8 ∨ j = 9 by omega) with rfl | rfl | rfl | rfl | rfl | rfl | rfl | rfl | rfl | rfl <;> rfl) (by show _ ≤ 1056; omega) (by show _ ≤ 21801; omega) dL_law_0 (fun h H hP hD hS => ?_)
  have hP : va_P (dC, dI) vwCl [(h, .inr (0, [.null, .null, .null, .int 0, .int 0, .int 0, .int 0, .int 0, .int 0, .int 0]))] H := hP
  have hD : va_D (fun q : Nat => s.heap.size ≤ q) [(h, .inr (0, [.null, .null, .null, .int 0, .int 0, .int 0, .int 0, .int 0, .int 0, .int 0]))] := hD
  refine W.widen (k := 1) (n := 10) (by omega) (by omega) ?_
  refine lv_dup hx hb dL_law_3 rfl ?_
  have hPc := hP.sub (ws' := [(h, .inr (0, [.null, .null, .null, .int 0, .int 0, .int 0, .int 0, .int 0, .int 0, .int 0]))]) [0] rfl
  have hDc := hD.sub (ws' := [(h, .inr (0, [.null, .null, .null, .int 0, .int 0, .int 0, .int 0, .int 0, .int 0, .int 0]))]) [0] (by decide) rfl
  have hKc := hK.sub (tys' := []) [] rfl
  have hFc := va_free (wc := [(h, .inr (0, [.null, .null, .null, .int 0, .int 0, .int 0, .int 0, .int 0, .int 0, .int 0]))]) hD hS hA [0] rfl
  refine va_callv (va_runI (As := []) (rest := [.ref h]) ⟨hx, hb, hml, hown, htA⟩ (c_init l dC dI h H.size) (cwI 0 htA gL_51 rfl rfl rfl (htA _ ini_ClauseYard) (htA _ lkL_51) (htA _ im_X0_init) rfl (by decide +kernel) ⟨Nat.le_of_ble_eq_true rfl, Nat.le_of_ble_eq_true rfl⟩) ⟨fun a U g mk q => by obtain ⟨q0, q1, qP, qK, qD, qN⟩ := q; exact ⟨q0, q1, qP, va_K.moved (u := U) (U := U.calling g mk a) (Vm.Alike.refl U.vm) qK, qD, va_Nw.same (U := U.calling g mk a) rfl rfl qN⟩, fun U hU hW => ⟨rfl, by rw [hU], by rw [hU]; exact hPc, va_K.moved hW.alike hKc, hDc.weaken (fun _ _ _ _ => trivial), va_Nw.warmM hW hNest⟩⟩ rfl rfl hl.1 rfl (lv_room (Nat.le_of_ble_eq_true rfl)) dL_law_4 ⟨by show _ ≤ 1056; omega, by show _ ≤ 21801; omega⟩) hS (fun q _ h => hFc q h) hFc (fun u t9 H1 locs ht hvm hw hB hz1 hk1 hS => ?_)
  obtain ⟨hs, q1, q2, q7, q3, q4, q5, q6, k1, k2, k7, k3, k4, k5, k6, hP1, hK1, hD1⟩ := hB
  rw [ht] at hP1
  have hK1 := va_K.moved hvm.symm hK1
  obtain ⟨hP, hD⟩ := va_join (wr := []) (w1 := [yO h hs q3 q4 0 0 0 0 0 0 (-1), sO hs q1 q2 q7 q5 q6 0 0 0, (q1, .inl (k1, 420, .inl (fun _ => 0))), (q2, .inl (k2, 420, .inl (fun _ => 0))), (q7, .inl (k7, 420, .inr (.inl (fun _ => 0)))), (q3, .inl (k3, 41, .inl (fun _ => 0))), (q4, .inl (k4, 18, .inl (fun _ => 0))), (q5, .inl (k5, 18, .inl (fun _ => 0))), (q6, .inl (k6, 18, .inl (fun _ => 0)))]) hP hD [0] [] rfl rfl (by decide) (by decide) hk1 hFc hP1 hD1
  have hK := hK.app hK1
  generalize H1 = H at hP hS ⊢
  have hK : va_K (dC, dI) vwCl [(k1, .int), (k2, .int), (k7, .long), (k3, .int), (k4, .int), (k5, .int), (k6, .int)] s := hK
  have hP : va_P (dC, dI) vwCl [yO h hs q3 q4 0 0 0 0 0 0 (-1), sO hs q1 q2 q7 q5 q6 0 0 0, (q1, .inl (k1, 420, .inl (fun _ => 0))), (q2, .inl (k2, 420, .inl (fun _ => 0))), (q7, .inl (k7, 420, .inr (.inl (fun _ => 0)))), (q3, .inl (k3, 41, .inl (fun _ => 0))), (q4, .inl (k4, 18, .inl (fun _ => 0))), (q5, .inl (k5, 18, .inl (fun _ => 0))), (q6, .inl (k6, 18, .inl (fun _ => 0)))] H := hP
  have hD : va_D (fun q : Nat => s.heap.size ≤ q) [yO h hs q3 q4 0 0 0 0 0 0 (-1), sO hs q1 q2 q7 q5 q6 0 0 0, (q1, .inl (k1, 420, .inl (fun _ => 0))), (q2, .inl (k2, 420, .inl (fun _ => 0))), (q7, .inl (k7, 420, .inr (.inl (fun _ => 0)))), (q3, .inl (k3, 41, .inl (fun _ => 0))), (q4, .inl (k4, 18, .inl (fun _ => 0))), (q5, .inl (k5, 18, .inl (fun _ => 0))), (q6, .inl (k6, 18, .inl (fun _ => 0)))] := hD
  refine W.widen (k := 9) (n := 1373) (by omega) (by omega) ?_
  refine lv_astore_n (lv' := [(1, .ref h), (0, .ref b)]) hx hb dL_law_7 rfl hl (by decide) rfl (fun ls hl => ?_)
  refine va_new (ci := 1) (fs := [.int 0, .null, .int 0, .int 0, .null, .null, .null, .int 0, .null, .int 0, .int 0, .null, .null]) (C := RX1) (T := TX1) (N := 13) hx hb htA inX1 tyX1 tyX1_ok hown (htA _ lkL_52) (htA _ ist_ClauseYardModel) (htA _ ini_ClauseYardModel) hK hP hD hS hA rfl (fun j hj => by rcases (show j = 0 ∨ j = 1 ∨ j = 2 ∨ j = 3 ∨ j = 4 ∨ j = 5 ∨ j = 6 ∨ j = 7 ∨ j = 8 ∨ j = 9 ∨ j = 10 ∨ j = 11 ∨ j = 12 by omega) with rfl | rfl | rfl | rfl | rfl | rfl | rfl | rfl | rfl | rfl | rfl | rfl | rfl <;> rfl) (by show _ ≤ 1056; omega) (by show _ ≤ 21801; omega) dL_law_8 (fun hz H hP hD hS => ?_)
  have hP : va_P (dC, dI) vwCl [yO h hs q3 q4 0 0 0 0 0 0 (-1), sO hs q1 q2 q7 q5 q6 0 0 0, (q1, .inl (k1, 420, .inl (fun _ => 0))), (q2, .inl (k2, 420, .inl (fun _ => 0))), (q7, .inl (k7, 420, .inr (.inl (fun _ => 0)))), (q3, .inl (k3, 41, .inl (fun _ => 0))), (q4, .inl (k4, 18, .inl (fun _ => 0))), (q5, .inl (k5, 18, .inl (fun _ => 0))), (q6, .inl (k6, 18, .inl (fun _ => 0))), (hz, .inr (1, [.int 0, .null, .int 0, .int 0, .null, .null, .null, .int 0, .null, .int 0, .int 0, .null, .null]))] H := hP
  have hD : va_D (fun q : Nat => s.heap.size ≤ q) [yO h hs q3 q4 0 0 0 0 0 0 (-1), sO hs q1 q2 q7 q5 q6 0 0 0, (q1, .inl (k1, 420, .inl (fun _ => 0))), (q2, .inl (k2, 420, .inl (fun _ => 0))), (q7, .inl (k7, 420, .inr (.inl (fun _ => 0)))), (q3, .inl (k3, 41, .inl (fun _ => 0))), (q4, .inl (k4, 18, .inl (fun _ => 0))), (q5, .inl (k5, 18, .inl (fun _ => 0))), (q6, .inl (k6, 18, .inl (fun _ => 0))), (hz, .inr (1, [.int 0, .null, .int 0, .int 0, .null, .null, .null, .int 0, .null, .int 0, .int 0, .null, .null]))] := hD
  refine W.widen (k := 10) (n := 1386) (by omega) (by omega) ?_
  refine lv_dup hx hb dL_law_11 rfl ?_
  have hPc := hP.sub (ws' := [(hz, .inr (1, [.int 0, .null, .int 0, .int 0, .null, .null, .null, .int 0, .null, .int 0, .int 0, .null, .null]))]) [9] rfl
  have hDc := hD.sub (ws' := [(hz, .inr (1, [.int 0, .null, .int 0, .int 0, .null, .null, .null, .int 0, .null, .int 0, .int 0, .null, .null]))]) [9] (by decide) rfl
  have hKc := hK.sub (tys' := []) [] rfl
  have hFc := va_free (wc := [(hz, .inr (1, [.int 0, .null, .int 0, .int 0, .null, .null, .null, .int 0, .null, .int 0, .int 0, .null, .null]))]) hD hS hA [9] rfl
  refine va_callv (va_runI (As := []) (rest := [.ref hz]) ⟨hx, hb, hml, hown, htA⟩ (r_init l dC dI hz H.size) (cwI 0 htA gL_54 rfl rfl rfl (htA _ ini_ClauseYardModel) (htA _ lkL_54) (htA _ im_X1_init) rfl (by decide +kernel) ⟨Nat.le_of_ble_eq_true rfl, Nat.le_of_ble_eq_true rfl⟩) ⟨fun a U g mk q => by obtain ⟨q0, q1, qP, qK, qD⟩ := q; exact ⟨q0, q1, qP, va_K.moved (u := U) (U := U.calling g mk a) (Vm.Alike.refl U.vm) qK, qD⟩, fun U hU hW => ⟨rfl, by rw [hU], by rw [hU]; exact hPc, va_K.moved hW.alike hKc, hDc.weaken (fun _ _ _ _ => trivial)⟩⟩ rfl rfl hl.1 rfl (lv_room (Nat.le_of_ble_eq_true rfl)) dL_law_12 ⟨by show _ ≤ 1056; omega, by show _ ≤ 21801; omega⟩) hS (fun q _ h => hFc q h) hFc (fun u t9 H1 locs ht hvm hw hB hz1 hk1 hS => ?_)
  obtain ⟨r1, r2, r3, r4, r5, r6, r7, n1, n2, n3, n4, n5, n6, n7, g6, g7, h7, hg6, hP1, hK1, hD1⟩ := hB
  rw [ht] at hP1
  have hK1 := va_K.moved hvm.symm hK1
  obtain ⟨hP, hD⟩ := va_join (wr := [yO h hs q3 q4 0 0 0 0 0 0 (-1), sO hs q1 q2 q7 q5 q6 0 0 0, (q1, .inl (k1, 420, .inl (fun _ => 0))), (q2, .inl (k2, 420, .inl (fun _ => 0))), (q7, .inl (k7, 420, .inr (.inl (fun _ => 0)))), (q3, .inl (k3, 41, .inl (fun _ => 0))), (q4, .inl (k4, 18, .inl (fun _ => 0))), (q5, .inl (k5, 18, .inl (fun _ => 0))), (q6, .inl (k6, 18, .inl (fun _ => 0)))]) (w1 := [zO hz 0 r1 0 0 r2 r3 r4 0 r5 0 (-1) r6 r7, (r1, .inl (n1, 18, .inl (fun _ => 0))), (r2, .inl (n2, 7200, .inl (fun _ => 0))), (r3, .inl (n3, 400, .inl (fun _ => 0))), (r4, .inl (n4, 400, .inl (fun _ => 0))), (r5, .inl (n5, 18, .inl (fun _ => 0))), (r6, .inl (n6, 4096, .inr (.inl g6))), (r7, .inl (n7, 6, .inr (.inl g7)))]) hP hD [9] [0, 1, 2, 3, 4, 5, 6, 7, 8] rfl rfl (by decide) (by decide) hk1 hFc hP1 hD1
  have hK := hK.app hK1
  generalize H1 = H at hP hS ⊢
  have hK : va_K (dC, dI) vwCl [(k1, .int), (k2, .int), (k7, .long), (k3, .int), (k4, .int), (k5, .int), (k6, .int), (n1, .int), (n2, .int), (n3, .int), (n4, .int), (n5, .int), (n6, .long), (n7, .long)] s := hK
  have hP : va_P (dC, dI) vwCl [yO h hs q3 q4 0 0 0 0 0 0 (-1), sO hs q1 q2 q7 q5 q6 0 0 0, (q1, .inl (k1, 420, .inl (fun _ => 0))), (q2, .inl (k2, 420, .inl (fun _ => 0))), (q7, .inl (k7, 420, .inr (.inl (fun _ => 0)))), (q3, .inl (k3, 41, .inl (fun _ => 0))), (q4, .inl (k4, 18, .inl (fun _ => 0))), (q5, .inl (k5, 18, .inl (fun _ => 0))), (q6, .inl (k6, 18, .inl (fun _ => 0))), zO hz 0 r1 0 0 r2 r3 r4 0 r5 0 (-1) r6 r7, (r1, .inl (n1, 18, .inl (fun _ => 0))), (r2, .inl (n2, 7200, .inl (fun _ => 0))), (r3, .inl (n3, 400, .inl (fun _ => 0))), (r4, .inl (n4, 400, .inl (fun _ => 0))), (r5, .inl (n5, 18, .inl (fun _ => 0))), (r6, .inl (n6, 4096, .inr (.inl g6))), (r7, .inl (n7, 6, .inr (.inl g7)))] H := hP
  have hD : va_D (fun q : Nat => s.heap.size ≤ q) [yO h hs q3 q4 0 0 0 0 0 0 (-1), sO hs q1 q2 q7 q5 q6 0 0 0, (q1, .inl (k1, 420, .inl (fun _ => 0))), (q2, .inl (k2, 420, .inl (fun _ => 0))), (q7, .inl (k7, 420, .inr (.inl (fun _ => 0)))), (q3, .inl (k3, 41, .inl (fun _ => 0))), (q4, .inl (k4, 18, .inl (fun _ => 0))), (q5, .inl (k5, 18, .inl (fun _ => 0))), (q6, .inl (k6, 18, .inl (fun _ => 0))), zO hz 0 r1 0 0 r2 r3 r4 0 r5 0 (-1) r6 r7, (r1, .inl (n1, 18, .inl (fun _ => 0))), (r2, .inl (n2, 7200, .inl (fun _ => 0))), (r3, .inl (n3, 400, .inl (fun _ => 0))), (r4, .inl (n4, 400, .inl (fun _ => 0))), (r5, .inl (n5, 18, .inl (fun _ => 0))), (r6, .inl (n6, 4096, .inr (.inl g6))), (r7, .inl (n7, 6, .inr (.inl g7)))] := hD
  refine W.widen (k := 17) (n := 13524) (by omega) (by omega) ?_
  refine lv_astore_n (lv' := [(2, .ref hz), (1, .ref h), (0, .ref b)]) hx hb dL_law_15 rfl hl (by decide) rfl (fun ls hl => ?_)
  refine lv_iconst (v := 1) hx hb dL_law_16 (by decide) ?_
  have hkc : 17 + 1 ≤ 1056 := by decide
  have hks : 13524 + 1 ≤ 21801 := by decide
  refine va_newa (atype := .long) (ty := .long) (n := 1) (N' := 1) (a0 := (1, .inr (.inl (fun _ => 0)))) hx hb (htA _ ac_long) rfl hK hP hD hS hA (fun _ => rfl) (by decide) (by decide) (by decide) hkc hks dL_law_17 (fun qo ko H hK hP hD hS => ?_)
  refine W.widen (k := 18) (n := 13525) (by omega) (by omega) ?_
  have hK : va_K (dC, dI) vwCl [(k1, .int), (k2, .int), (k7, .long), (k3, .int), (k4, .int), (k5, .int), (k6, .int), (n1, .int), (n2, .int), (n3, .int), (n4, .int), (n5, .int), (n6, .long), (n7, .long), (ko, .long)] s := hK
  have hP : va_P (dC, dI) vwCl [yO h hs q3 q4 0 0 0 0 0 0 (-1), sO hs q1 q2 q7 q5 q6 0 0 0, (q1, .inl (k1, 420, .inl (fun _ => 0))), (q2, .inl (k2, 420, .inl (fun _ => 0))), (q7, .inl (k7, 420, .inr (.inl (fun _ => 0)))), (q3, .inl (k3, 41, .inl (fun _ => 0))), (q4, .inl (k4, 18, .inl (fun _ => 0))), (q5, .inl (k5, 18, .inl (fun _ => 0))), (q6, .inl (k6, 18, .inl (fun _ => 0))), zO hz 0 r1 0 0 r2 r3 r4 0 r5 0 (-1) r6 r7, (r1, .inl (n1, 18, .inl (fun _ => 0))), (r2, .inl (n2, 7200, .inl (fun _ => 0))), (r3, .inl (n3, 400, .inl (fun _ => 0))), (r4, .inl (n4, 400, .inl (fun _ => 0))), (r5, .inl (n5, 18, .inl (fun _ => 0))), (r6, .inl (n6, 4096, .inr (.inl g6))), (r7, .inl (n7, 6, .inr (.inl g7))), (qo, .inl (ko, 1, .inr (.inl (fun _ => 0))))] H := hP
  have hD : va_D (fun q : Nat => s.heap.size ≤ q) [yO h hs q3 q4 0 0 0 0 0 0 (-1), sO hs q1 q2 q7 q5 q6 0 0 0, (q1, .inl (k1, 420, .inl (fun _ => 0))), (q2, .inl (k2, 420, .inl (fun _ => 0))), (q7, .inl (k7, 420, .inr (.inl (fun _ => 0)))), (q3, .inl (k3, 41, .inl (fun _ => 0))), (q4, .inl (k4, 18, .inl (fun _ => 0))), (q5, .inl (k5, 18, .inl (fun _ => 0))), (q6, .inl (k6, 18, .inl (fun _ => 0))), zO hz 0 r1 0 0 r2 r3 r4 0 r5 0 (-1) r6 r7, (r1, .inl (n1, 18, .inl (fun _ => 0))), (r2, .inl (n2, 7200, .inl (fun _ => 0))), (r3, .inl (n3, 400, .inl (fun _ => 0))), (r4, .inl (n4, 400, .inl (fun _ => 0))), (r5, .inl (n5, 18, .inl (fun _ => 0))), (r6, .inl (n6, 4096, .inr (.inl g6))), (r7, .inl (n7, 6, .inr (.inl g7))), (qo, .inl (ko, 1, .inr (.inl (fun _ => 0))))] := hD
  refine lv_astore_n (lv' := [(3, .ref qo), (2, .ref hz), (1, .ref h), (0, .ref b)]) hx hb dL_law_19 rfl hl (by decide) rfl (fun ls hl => ?_)
  refine lv_iconst (v := 0) hx hb dL_law_20 (by decide) ?_
  refine lv_istore (lv' := [(4, .int 0), (3, .ref qo), (2, .ref hz), (1, .ref h), (0, .ref b)]) hx hb dL_law_21 hl (by decide) rfl (fun ls hl => ?_)
  have hP : va_P (dC, dI) vwCl [yO h hs q3 q4 (nI 0) (nI 0) (nI 0) (nI 0) 0 0 (-1), sO hs q1 q2 q7 q5 q6 0 0 0, (q1, .inl (k1, 420, .inl (fun _ => 0))), (q2, .inl (k2, 420, .inl (fun _ => 0))), (q7, .inl (k7, 420, .inr (.inl (fun _ => 0)))), (q3, .inl (k3, 41, .inl (fun _ => 0))), (q4, .inl (k4, 18, .inl (fun _ => 0))), (q5, .inl (k5, 18, .inl (fun _ => 0))), (q6, .inl (k6, 18, .inl (fun _ => 0))), zO hz 0 r1 (nI 0) (nI 0) r2 r3 r4 (nI 0) r5 (nI 0) (-1) r6 r7, (r1, .inl (n1, 18, .inl (fun _ => 0))), (r2, .inl (n2, 7200, .inl (fun _ => 0))), (r3, .inl (n3, 400, .inl (fun _ => 0))), (r4, .inl (n4, 400, .inl (fun _ => 0))), (r5, .inl (n5, 18, .inl (fun _ => 0))), (r6, .inl (n6, 4096, .inr (.inl g6))), (r7, .inl (n7, 6, .inr (.inl g7))), (qo, .inl (ko, 1, .inr (.inl (fun _ => 0))))] H := hP
  have hD : va_D (fun q : Nat => s.heap.size ≤ q) [yO h hs q3 q4 (nI 0) (nI 0) (nI 0) (nI 0) 0 0 (-1), sO hs q1 q2 q7 q5 q6 0 0 0, (q1, .inl (k1, 420, .inl (fun _ => 0))), (q2, .inl (k2, 420, .inl (fun _ => 0))), (q7, .inl (k7, 420, .inr (.inl (fun _ => 0)))), (q3, .inl (k3, 41, .inl (fun _ => 0))), (q4, .inl (k4, 18, .inl (fun _ => 0))), (q5, .inl (k5, 18, .inl (fun _ => 0))), (q6, .inl (k6, 18, .inl (fun _ => 0))), zO hz 0 r1 (nI 0) (nI 0) r2 r3 r4 (nI 0) r5 (nI 0) (-1) r6 r7, (r1, .inl (n1, 18, .inl (fun _ => 0))), (r2, .inl (n2, 7200, .inl (fun _ => 0))), (r3, .inl (n3, 400, .inl (fun _ => 0))), (r4, .inl (n4, 400, .inl (fun _ => 0))), (r5, .inl (n5, 18, .inl (fun _ => 0))), (r6, .inl (n6, 4096, .inr (.inl g6))), (r7, .inl (n7, 6, .inr (.inl g7))), (qo, .inl (ko, 1, .inr (.inl (fun _ => 0))))] := hD
  have hI : yzI (fun _ => 0) (fun _ => 0) (fun _ => 0) (fun _ => 0) (fun _ => 0) (fun _ => 0) (fun _ => 0) (fun _ => 0) (fun _ => 0) (fun _ => 0) g6 g7 0 0 0 0 0 0 (-1) :=
    ⟨⟨by omega, by omega, by omega, by omega⟩, ⟨ym_0, ym_0, fun j hj => absurd hj (Nat.not_lt_zero j), fun a => ⟨fun q => absurd q ycl_0, fun ⟨j, hj, _⟩ => absurd hj (Nat.not_lt_zero j)⟩⟩, fun j hj => absurd hj (Nat.not_lt_zero j), fun j hj => absurd hj (Nat.not_lt_zero j), Or.inl rfl, h7, (fun _ => 0), (fun _ => 0), (fun _ => 0), fun j hj => absurd hj (Nat.not_lt_zero j), fun j hj => absurd hj (Nat.not_lt_zero j), fun j hj => absurd hj (Nat.not_lt_zero j), fun w9 hw9 => zW_iff (fun k hk => ⟨fun _ i hi => absurd hi (Nat.not_lt_zero i), fun _ => trivial⟩) (hg6 w9 hw9), fun j hj => absurd hj (Nat.not_lt_zero j), fun i h1 h2 => absurd h1 (by omega)⟩
  exact law_loop hl9 C0 hEX hNC hK hL (L + 1) 0 _ _ _ _ _ _ _ 0 0 0 0 0 0 0 0 0 (-1) _ _ _ _ _ g6 g7 0 0 0 0 0 (-1) _ (by omega) (by omega) hI.J _ _ hP hD hS ls (lv_sub hl [0, 4, 3, 2, 1] rfl)
