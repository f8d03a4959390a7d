set_option maxHeartbeats 4000000 in
set_option maxRecDepth 100000 in
theorem c_leastFrom (l : Launch) (dC : Nat → ClassId) (dI : Nat → Nat → Nat) (hs : Nat) (q1 : Nat) (q2 : Nat) (q7 : Nat) (q5 : Nat) (q6 : Nat) (k1 : ClassId) (k2 : ClassId) (k7 : ClassId) (k5 : ClassId) (k6 : ClassId) (f1 : Nat → Int32) (f2 : Nat → Int32) (f7 : Nat → Int64) (f5 : Nat → Int32) (f6 : Nat → Int32) (bY : Int32) (bN : Int32) (fd : Int64) (st : Nat) (rows : Nat) (sz : Nat) (hst : st ≤ 262144) (hrows : rows < 420) (hm : ∀ j, j < rows → yh (f1 j) ∧ yh (f2 j)) : Met l yX2_leastFrom wsX2_leastFrom ({ frames := 2, cells := 0, slots := 0, locals := 55 }) (va_Pc [.ref hs, .int (nI st), .int (nI rows)] (fun U => U.heap.size = sz ∧ va_P (dC, dI) vwCl [sO hs q1 q2 q7 q5 q6 bY bN fd, (q1, .inl (k1, 420, .inl f1)), (q2, .inl (k2, 420, .inl f2)), (q7, .inl (k7, 420, .inr (.inl f7))), (q5, .inl (k5, 18, .inl f5)), (q6, .inl (k6, 18, .inl f6))] U.heap ∧ va_K (dC, dI) vwCl [(k1, .int), (k2, .int), (k7, .long), (k5, .int), (k6, .int)] U ∧ va_D (fun _ => True) [sO hs q1 q2 q7 q5 q6 bY bN fd, (q1, .inl (k1, 420, .inl f1)), (q2, .inl (k2, 420, .inl f2)), (q7, .inl (k7, 420, .inr (.inl f7))), (q5, .inl (k5, 18, .inl f5)), (q6, .inl (k6, 18, .inl f6))])) (va_Qi (fun (r : Int32) (u : (Nat → Int32) × (Nat → Int32) × (Nat → Int64) × (Nat → Int32) × (Nat → Int32) × Int32 × Int32 × Int64) => yL (fun a => ∀ j, j < rows → scl (f1 j) (f2 j) (f7 j) a) st r ∧ (∀ j, j < rows → u.1 j = f1 j ∧ u.2.1 j = f2 j ∧ u.2.2.1 j = f7 j) ∧ ∀ c9, r = nI c9 → c9 < 262144 → ∀ k, k < 64 → (zb u.2.2.2.2.2.2.2 k = true ↔ st ≤ 64 * (c9 / 64) + k ∧ ∀ j, j < rows → scl (f1 j) (f2 j) (f7 j) (64 * (c9 / 64) + k))) (fun (u : (Nat → Int32) × (Nat → Int32) × (Nat → Int64) × (Nat → Int32) × (Nat → Int32) × Int32 × Int32 × Int64) (t : State) => va_P (dC, dI) vwCl [sO hs q1 q2 q7 q5 q6 u.2.2.2.2.2.1 u.2.2.2.2.2.2.1 u.2.2.2.2.2.2.2, (q1, .inl (k1, 420, .inl u.1)), (q2, .inl (k2, 420, .inl u.2.1)), (q7, .inl (k7, 420, .inr (.inl u.2.2.1))), (q5, .inl (k5, 18, .inl u.2.2.2.1)), (q6, .inl (k6, 18, .inl u.2.2.2.2.1))] t.heap ∧ va_K (dC, dI) vwCl [(k1, .int), (k2, .int), (k7, .long), (k5, .int), (k6, .int)] t ∧ va_D (va_A [sO hs q1 q2 q7 q5 q6 bY bN fd, (q1, .inl (k1, 420, .inl f1)), (q2, .inl (k2, 420, .inl f2)), (q7, .inl (k7, 420, .inr (.inl f7))), (q5, .inl (k5, 18, .inl f5)), (q6, .inl (k6, 18, .inl f6))] sz) [sO hs q1 q2 q7 q5 q6 u.2.2.2.2.2.1 u.2.2.2.2.2.2.1 u.2.2.2.2.2.2.2, (q1, .inl (k1, 420, .inl u.1)), (q2, .inl (k2, 420, .inl u.2.1)), (q7, .inl (k7, 420, .inr (.inl u.2.2.1))), (q5, .inl (k5, 18, .inl u.2.2.2.1)), (q6, .inl (k6, 18, .inl u.2.2.2.2.1))]) (va_A [sO hs q1 q2 q7 q5 q6 bY bN fd, (q1, .inl (k1, 420, .inl f1)), (q2, .inl (k2, 420, .inl f2)), (q7, .inl (k7, 420, .inr (.inl f7))), (q5, .inl (k5, 18, .inl f5)), (q6, .inl (k6, 18, .inl f6))] sz)) 0 0 (va_A [sO hs q1 q2 q7 q5 q6 bY bN fd, (q1, .inl (k1, 420, .inl f1)), (q2, .inl (k2, 420, .inl f2)), (q7, .inl (k7, 420, .inr (.inl f7))), (q5, .inl (k5, 18, .inl f5)), (q6, .inl (k6, 18, .inl f6))] sz) := by
  refine Met.ofW (cc := cX2_leastFrom) (maxL := 7) (ret := (some .int)) (by decide) rfl ?_
  intro p e s m args below meth c s₁ B hml hv
  obtain ⟨rfl, hsz, hP, hK, hD0⟩ := hv
  have hx := B.exec
  have hb := B.bytes
  have hr := B.returns
  have hts := atoms_spec (ws := wsX2_leastFrom) B.pre
  have htA : ∀ w ∈ wsA, w.before _ s = true := fun w h => hts w (List.mem_cons_of_mem _ h)
  have hown : s.vm.findClass RX2 = some m.cls := findClass_of_methodNamed B.named
  have hlocks := B.notSynchronized
  subst hsz
  have hD := hD0.self (sz := s.heap.size)
  generalize hAe : va_A [sO hs q1 q2 q7 q5 q6 bY bN fd, (q1, .inl (k1, 420, .inl f1)), (q2, .inl (k2, 420, .inl f2)), (q7, .inl (k7, 420, .inr (.inl f7))), (q5, .inl (k5, 18, .inl f5)), (q6, .inl (k6, 18, .inl f6))] s.heap.size = A at hD ⊢
  have hA : ∀ q : Nat, s.heap.size ≤ q → A q := fun q h => by rw [← hAe]; exact Or.inr h
  have hS : va_S A s.heap s.heap [] := va_S.rf
  have hP : va_P (dC, dI) vwCl [sO hs q1 q2 q7 q5 q6 bY bN fd, (q1, .inl (k1, 420, .inl f1)), (q2, .inl (k2, 420, .inl f2)), (q7, .inl (k7, 420, .inr (.inl f7))), (q5, .inl (k5, 18, .inl f5)), (q6, .inl (k6, 18, .inl f6))] s.heap := hP
  have hl := lv_entry ([.ref hs, .int (nI st), .int (nI rows)]) (n := 7) (Nat.le_of_ble_eq_true rfl)
  rw [lg_entry_eq]
  generalize (lg_sl ([.ref hs, .int (nI st), .int (nI rows)]) ++ List.replicate (7 - (lg_sl ([.ref hs, .int (nI st), .int (nI rows)])).length) Slot.unset).toArray = ls at hl ⊢
  have hl : lv_has ls 7 [(0, .ref hs), (1, .int (nI st)), (2, .int (nI rows))] := hl
  refine lv_iload_n hx hb dX2_leastFrom_0 rfl (lv_at hl 1 rfl) ?_
  refine lv_ldc (own := RX2) (v := 262143) hx hb hown (htA _ lkX2_37) dX2_leastFrom_1 ?_
  refine lv_icmp_le (tgt := 8) hx hb dX2_leastFrom_3 (by decide) (fun cb_48 => ?_) (fun cb_48 => ?_)
  · have hst2 : st < 262144 := by
      rcases Nat.lt_or_ge st 262144 with q | q
      · exact q
      · exact absurd cb_48 (nI_ge (a := 262143) (show 262143 < st by omega) (by omega))
    refine lv_aload_n hx hb dX2_leastFrom_8 rfl (lv_at hl 0 rfl) ?_
    refine lv_iload_n hx hb dX2_leastFrom_9 rfl (lv_at hl 1 rfl) ?_
    have hPc := hP.sub (ws' := [sO hs q1 q2 q7 q5 q6 bY bN fd, (q5, .inl (k5, 18, .inl f5)), (q6, .inl (k6, 18, .inl f6))]) [0, 4, 5] rfl
    have hDc := hD.sub (ws' := [sO hs q1 q2 q7 q5 q6 bY bN fd, (q5, .inl (k5, 18, .inl f5)), (q6, .inl (k6, 18, .inl f6))]) [0, 4, 5] (by decide) rfl
    have hKc := hK.sub (tys' := [(k5, .int), (k6, .int)]) [3, 4] rfl
    have hFc := va_free (wc := [sO hs q1 q2 q7 q5 q6 bY bN fd, (q5, .inl (k5, 18, .inl f5)), (q6, .inl (k6, 18, .inl f6))]) hD hS hA [0, 4, 5] rfl
    refine va_callv (va_runV (As := [.int (nI st)]) (rest := []) ⟨hx, hb, hml, hown, htA⟩ (c_giveReasons l dC dI hs q1 q2 q7 q5 q6 k5 k6 f5 f6 bY bN fd st s.heap.size) (cwV 1 htA gX2_38 rfl rfl rfl (by decide +kernel) ⟨Nat.le_of_ble_eq_true rfl, Nat.le_of_ble_eq_true rfl⟩) ⟨fun a U g mk q => by obtain ⟨q0, q1, qP, qK, qD⟩ := q; exact ⟨q0, q1, qP, va_K.moved (u := U) (U := U.calling g mk a) (Vm.Alike.refl U.vm) qK, qD⟩, va_recv hKc hPc (ci := 2) (q0 := 0) rfl rfl, fun U hU hW => ⟨rfl, by rw [hU], by rw [hU]; exact hPc, va_K.moved hW.alike hKc, hDc.weaken (fun _ _ _ _ => trivial)⟩⟩ rfl rfl hl.1 rfl (lv_room (Nat.le_of_ble_eq_true rfl)) dX2_leastFrom_10 ⟨Nat.zero_le _, Nat.zero_le _⟩) hS (fun q _ h => hFc q h) hFc (fun u t H1 locs ht hvm hw hB hz1 hk1 hS => ?_)
    obtain ⟨g5, g6⟩ := u
    obtain ⟨hP1, hK1, hD1⟩ := hB
    rw [ht] at hP1
    try dsimp only at hw hP1 hD1
    obtain ⟨hP, hD⟩ := va_join (wr := [(q1, .inl (k1, 420, .inl f1)), (q2, .inl (k2, 420, .inl f2)), (q7, .inl (k7, 420, .inr (.inl f7)))]) (w1 := [sO hs q1 q2 q7 q5 q6 bY bN fd, (q5, .inl (k5, 18, .inl g5)), (q6, .inl (k6, 18, .inl g6))]) hP hD [0, 4, 5] [1, 2, 3] rfl rfl (by decide) (by decide) hk1 hFc hP1 hD1
    generalize H1 = H at hP hS ⊢
    have hP : va_P (dC, dI) vwCl [sO hs q1 q2 q7 q5 q6 bY bN fd, (q1, .inl (k1, 420, .inl f1)), (q2, .inl (k2, 420, .inl f2)), (q7, .inl (k7, 420, .inr (.inl f7))), (q5, .inl (k5, 18, .inl g5)), (q6, .inl (k6, 18, .inl g6))] H := hP.sub [3, 0, 1, 2, 4, 5] rfl
    have hD : va_D A [sO hs q1 q2 q7 q5 q6 bY bN fd, (q1, .inl (k1, 420, .inl f1)), (q2, .inl (k2, 420, .inl f2)), (q7, .inl (k7, 420, .inr (.inl f7))), (q5, .inl (k5, 18, .inl g5)), (q6, .inl (k6, 18, .inl g6))] := hD.sub [3, 0, 1, 2, 4, 5] (by decide) rfl
    have hG0 : yGR (fun a => st ≤ a ∧ a < 262144 ∧ ∀ j, j < rows → scl (f1 j) (f2 j) (f7 j) a) g5 g6 := yGR_start hst2 (fun a ha => ⟨ha.1, ha.2.1⟩) hw
    have hR0 : yRI (fun a => st ≤ a ∧ a < 262144 ∧ ∀ j, j < rows → scl (f1 j) (f2 j) (f7 j) a) (64 * (st / 64)) g5 g6 := yRI_block hst2 (fun a ha => ⟨ha.1, ha.2.1⟩) hw
    refine lv_aload_n hx hb dX2_leastFrom_13 rfl (lv_at hl 0 rfl) ?_
    refine lv_iload_n hx hb dX2_leastFrom_14 rfl (lv_at hl 2 rfl) ?_
    refine lv_ldc (own := RX2) (v := 262080) hx hb hown (htA _ lkX2_28) dX2_leastFrom_15 ?_
    refine lv_iload_n hx hb dX2_leastFrom_17 rfl (lv_at hl 1 rfl) ?_
    refine lv_iconst (v := (-1)) hx hb dX2_leastFrom_18 (by decide) ?_
    refine lv_ixor hx hb dX2_leastFrom_19 ?_
    refine lv_iand hx hb dX2_leastFrom_20 ?_
    refine lv_iconst (v := 0) hx hb dX2_leastFrom_21 (by decide) ?_
    refine lv_ldc2 (own := RX2) (v := (-1)) hx hb hown (htA _ lkX2_42) dX2_leastFrom_22 ?_
    refine lv_iload_n hx hb dX2_leastFrom_25 rfl (lv_at hl 1 rfl) ?_
    refine lv_bipush (v := 63) hx hb dX2_leastFrom_26 (by decide) ?_
    refine lv_iand hx hb dX2_leastFrom_28 ?_
    refine W.eq (g2 := F0 m 29 ls [.int (nI (st % 64)), .long (-1), .int 0, .int (262080 &&& ((nI st) ^^^ (-1))), .int (nI rows), .ref hs]) (by rw [pk_andN (n := st) (m := 63) (by omega) 6 (by decide)]) ?_
    refine lv_lshl (v := (-1 : Int64) <<< ((nI (st % 64)).toInt64 &&& 63)) hx hb dX2_leastFrom_29 rfl ?_
    have hPc := hP.sub (ws' := [sO hs q1 q2 q7 q5 q6 bY bN fd, (q1, .inl (k1, 420, .inl f1)), (q2, .inl (k2, 420, .inl f2)), (q7, .inl (k7, 420, .inr (.inl f7)))]) [0, 1, 2, 3] rfl
    have hDc := hD.sub (ws' := [sO hs q1 q2 q7 q5 q6 bY bN fd, (q1, .inl (k1, 420, .inl f1)), (q2, .inl (k2, 420, .inl f2)), (q7, .inl (k7, 420, .inr (.inl f7)))]) [0, 1, 2, 3] (by decide) rfl
    have hKc := hK.sub (tys' := [(k1, .int), (k2, .int), (k7, .long)]) [0, 1, 2] rfl
    have hFc := va_free (wc := [sO hs q1 q2 q7 q5 q6 bY bN fd, (q1, .inl (k1, 420, .inl f1)), (q2, .inl (k2, 420, .inl f2)), (q7, .inl (k7, 420, .inr (.inl f7)))]) hD hS hA [0, 1, 2, 3] rfl
    refine va_callv (va_runV (As := [.int (nI rows), .int (262080 &&& ((nI st) ^^^ (-1))), .int 0, .long ((-1 : Int64) <<< ((nI (st % 64)).toInt64 &&& 63))]) (rest := []) ⟨hx, hb, hml, hown, htA⟩ (c_writeParts l dC dI hs q1 q2 q7 q5 q6 k1 k2 k7 f1 f2 f7 bY bN fd rows (262080 &&& ((nI st) ^^^ (-1))) 0 ((-1 : Int64) <<< ((nI (st % 64)).toInt64 &&& 63)) H.size hrows) (cwV 4 htA gX2_33 rfl rfl rfl (by decide +kernel) ⟨Nat.le_of_ble_eq_true rfl, Nat.le_of_ble_eq_true rfl⟩) ⟨fun a U g mk q => by obtain ⟨q0, q1, qP, qK, qD⟩ := q; exact ⟨q0, q1, qP, va_K.moved (u := U) (U := U.calling g mk a) (Vm.Alike.refl U.vm) qK, qD⟩, va_recv hKc hPc (ci := 2) (q0 := 0) rfl rfl, fun U hU hW => ⟨rfl, by rw [hU], by rw [hU]; exact hPc, va_K.moved hW.alike hKc, hDc.weaken (fun _ _ _ _ => trivial)⟩⟩ rfl rfl hl.1 rfl (lv_room (Nat.le_of_ble_eq_true rfl)) dX2_leastFrom_30 ⟨Nat.zero_le _, Nat.zero_le _⟩) hS (fun q _ h => hFc q h) hFc (fun u t H1 locs ht hvm hw hB hz1 hk1 hS => ?_)
    obtain ⟨d1, d2, d7⟩ := u
    obtain ⟨hP1, hK1, hD1⟩ := hB
    rw [ht] at hP1
    try dsimp only at hw hP1 hD1
    obtain ⟨hP, hD⟩ := va_join (wr := [(q5, .inl (k5, 18, .inl g5)), (q6, .inl (k6, 18, .inl g6))]) (w1 := [sO hs q1 q2 q7 q5 q6 bY bN fd, (q1, .inl (k1, 420, .inl d1)), (q2, .inl (k2, 420, .inl d2)), (q7, .inl (k7, 420, .inr (.inl d7)))]) hP hD [0, 1, 2, 3] [4, 5] rfl rfl (by decide) (by decide) hk1 hFc hP1 hD1
    generalize H1 = H at hP hS ⊢
    have hP : va_P (dC, dI) vwCl [sO hs q1 q2 q7 q5 q6 bY bN fd, (q1, .inl (k1, 420, .inl d1)), (q2, .inl (k2, 420, .inl d2)), (q7, .inl (k7, 420, .inr (.inl d7))), (q5, .inl (k5, 18, .inl g5)), (q6, .inl (k6, 18, .inl g6))] H := hP.sub [2, 3, 4, 5, 0, 1] rfl
    have hD : va_D A [sO hs q1 q2 q7 q5 q6 bY bN fd, (q1, .inl (k1, 420, .inl d1)), (q2, .inl (k2, 420, .inl d2)), (q7, .inl (k7, 420, .inr (.inl d7))), (q5, .inl (k5, 18, .inl g5)), (q6, .inl (k6, 18, .inl g6))] := hD.sub [2, 3, 4, 5, 0, 1] (by decide) rfl
    obtain ⟨hd1, hd2, hd7⟩ := hw
    have hK9 : ∀ j, j < rows → d1 j = f1 j ∧ d2 j = f2 j ∧ d7 j = f7 j := fun j hj => by rw [hd1, hd2, hd7, pk_un (by omega), pk_un (by omega), pk_uLn (by omega)]; exact ⟨rfl, rfl, rfl⟩
    have hm2 : ∀ j, j < rows + 1 → yh (d1 j) ∧ yh (d2 j) := fun j hj => by
      by_cases e : j = rows
      · rw [hd1, hd2, e, pk_us, pk_us]; exact ⟨yh_andL _, yh_0⟩
      · rw [(hK9 j (by omega)).1, (hK9 j (by omega)).2.1]; exact hm j (by omega)
    have hP2 : ∀ a, a < 262144 → st / 64 ≤ a / 64 → ((∀ j, j < rows + 1 → scl (d1 j) (d2 j) (d7 j) a) ↔ st ≤ a ∧ (∀ j, j < rows → scl (f1 j) (f2 j) (f7 j) a)) := fun a h1 h2 => by
      rw [hd1, hd2, hd7, yRow, scl_start h1 h2, And.comm]
    have hGP : ∀ a, (fun a => st ≤ a ∧ a < 262144 ∧ ∀ j, j < rows → scl (f1 j) (f2 j) (f7 j) a) a → (∀ j, j < rows + 1 → scl (d1 j) (d2 j) (d7 j) a) := fun a ha => (hP2 a ha.2.1 (Nat.div_le_div_right ha.1)).mpr ⟨ha.1, ha.2.2⟩
    refine lv_aload_n hx hb dX2_leastFrom_33 rfl (lv_at hl 0 rfl) ?_
    refine lv_iload_n hx hb dX2_leastFrom_34 rfl (lv_at hl 2 rfl) ?_
    refine lv_iconst (v := 1) hx hb dX2_leastFrom_35 (by decide) ?_
    refine lv_iadd hx hb dX2_leastFrom_36 ?_
    refine W.eq (g2 := F0 m 37 ls [.int (nI (rows + 1)), .ref hs]) (by rw [nI_1]) ?_
    have hPc := hP.sub (ws' := [sO hs q1 q2 q7 q5 q6 bY bN fd, (q1, .inl (k1, 420, .inl d1)), (q2, .inl (k2, 420, .inl d2)), (q7, .inl (k7, 420, .inr (.inl d7)))]) [0, 1, 2, 3] rfl
    have hDc := hD.sub (ws' := [sO hs q1 q2 q7 q5 q6 bY bN fd, (q1, .inl (k1, 420, .inl d1)), (q2, .inl (k2, 420, .inl d2)), (q7, .inl (k7, 420, .inr (.inl d7)))]) [0, 1, 2, 3] (by decide) rfl
    have hKc := hK.sub (tys' := [(k1, .int), (k2, .int), (k7, .long)]) [0, 1, 2] rfl
    have hFc := va_free (wc := [sO hs q1 q2 q7 q5 q6 bY bN fd, (q1, .inl (k1, 420, .inl d1)), (q2, .inl (k2, 420, .inl d2)), (q7, .inl (k7, 420, .inr (.inl d7)))]) hD hS hA [0, 1, 2, 3] rfl
    refine va_calll (va_runV (As := [.int (nI (rows + 1))]) (rest := []) ⟨hx, hb, hml, hown, htA⟩ (c_goodByLow l dC dI hs q1 q2 q7 q5 q6 k1 k2 k7 d1 d2 d7 bY bN fd (rows + 1) H.size (by omega)) (cwV 1 htA gX2_44 rfl rfl rfl (by decide +kernel) ⟨Nat.le_of_ble_eq_true rfl, Nat.le_of_ble_eq_true rfl⟩) ⟨fun a U g mk q => by obtain ⟨q0, q1, qP, qK, qD⟩ := q; exact ⟨q0, q1, qP, va_K.moved (u := U) (U := U.calling g mk a) (Vm.Alike.refl U.vm) qK, qD⟩, va_recv hKc hPc (ci := 2) (q0 := 0) rfl rfl, fun U hU hW => ⟨rfl, by rw [hU], by rw [hU]; exact hPc, va_K.moved hW.alike hKc, hDc.weaken (fun _ _ _ _ => trivial)⟩⟩ rfl rfl hl.1 rfl (lv_room (Nat.le_of_ble_eq_true rfl)) dX2_leastFrom_37 ⟨Nat.zero_le _, Nat.zero_le _⟩) hS (fun q _ h => hFc q h) hFc (fun g0 u t H1 locs ht hvm hw hB hz1 hk1 hS => ?_)
    obtain ⟨hP1, hK1, hD1⟩ := hB
    rw [ht] at hP1
    try dsimp only at hw hP1 hD1
    obtain ⟨hP, hD⟩ := va_join (wr := [(q5, .inl (k5, 18, .inl g5)), (q6, .inl (k6, 18, .inl g6))]) (w1 := [sO hs q1 q2 q7 q5 q6 bY bN fd, (q1, .inl (k1, 420, .inl d1)), (q2, .inl (k2, 420, .inl d2)), (q7, .inl (k7, 420, .inr (.inl d7)))]) hP hD [0, 1, 2, 3] [4, 5] rfl rfl (by decide) (by decide) hk1 hFc hP1 hD1
    generalize H1 = H at hP hS ⊢
    have hP : va_P (dC, dI) vwCl [sO hs q1 q2 q7 q5 q6 bY bN fd, (q1, .inl (k1, 420, .inl d1)), (q2, .inl (k2, 420, .inl d2)), (q7, .inl (k7, 420, .inr (.inl d7))), (q5, .inl (k5, 18, .inl g5)), (q6, .inl (k6, 18, .inl g6))] H := hP.sub [2, 3, 4, 5, 0, 1] rfl
    have hD : va_D A [sO hs q1 q2 q7 q5 q6 bY bN fd, (q1, .inl (k1, 420, .inl d1)), (q2, .inl (k2, 420, .inl d2)), (q7, .inl (k7, 420, .inr (.inl d7))), (q5, .inl (k5, 18, .inl g5)), (q6, .inl (k6, 18, .inl g6))] := hD.sub [2, 3, 4, 5, 0, 1] (by decide) rfl
    have hg0 := hw
    refine lv_lstore_n (lv' := [(3, .long g0), (0, .ref hs), (1, .int (nI st)), (2, .int (nI rows))]) hx hb dX2_leastFrom_40 rfl hl (by decide) rfl (fun ls hl => ?_)
    refine lv_iload_n hx hb dX2_leastFrom_41 rfl (lv_at hl 2 rfl) ?_
    refine lv_ldc (own := RX2) (v := 262080) hx hb hown (htA _ lkX2_28) dX2_leastFrom_42 ?_
    refine lv_iand hx hb dX2_leastFrom_44 ?_
    refine W.eq (g2 := F0 m 45 ls [.int (nI (64 * (st / 64)))]) (by rw [y_stblk hst2]) ?_
    refine lv_istore (lv' := [(5, .int (nI (64 * (st / 64)))), (3, .long g0), (0, .ref hs), (1, .int (nI st)), (2, .int (nI rows))]) hx hb dX2_leastFrom_45 hl (by decide) rfl (fun ls hl => ?_)
    refine lv_iconst (v := 0) hx hb dX2_leastFrom_47 (by decide) ?_
    refine lv_istore (lv' := [(6, .int 0), (5, .int (nI (64 * (st / 64)))), (3, .long g0), (0, .ref hs), (1, .int (nI st)), (2, .int (nI rows))]) hx hb dX2_leastFrom_48 hl (by decide) rfl (fun ls hl => ?_)
    clear hw
    generalize hH0 : H = Hx at hP hS ⊢
    have loop : ∀ (fu k : Nat) (x5 : Int32) (g5 g6 : Nat → Int32) (y9 n9 : Int32) (fd9 : Int64), k ≤ 4096 → 4097 ≤ k + fu → yGR (fun a => st ≤ a ∧ a < 262144 ∧ ∀ j, j < rows → scl (f1 j) (f2 j) (f7 j) a) g5 g6 → ((x5 = -1 ∧ ∀ a, ¬ (fun a => st ≤ a ∧ a < 262144 ∧ ∀ j, j < rows → scl (f1 j) (f2 j) (f7 j) a) a) ∨ ∃ b, x5 = nI b ∧ b < 262144 ∧ b % 64 = 0 ∧ 64 * (st / 64) + 64 * k ≤ b ∧ yRI (fun a => st ≤ a ∧ a < 262144 ∧ ∀ j, j < rows → scl (f1 j) (f2 j) (f7 j) a) b g5 g6) → ∀ (H : Heap) (locs : List Loc), va_P (dC, dI) vwCl [sO hs q1 q2 q7 q5 q6 y9 n9 fd9, (q1, .inl (k1, 420, .inl d1)), (q2, .inl (k2, 420, .inl d2)), (q7, .inl (k7, 420, .inr (.inl d7))), (q5, .inl (k5, 18, .inl g5)), (q6, .inl (k6, 18, .inl g6))] H → va_D A [sO hs q1 q2 q7 q5 q6 y9 n9 fd9, (q1, .inl (k1, 420, .inl d1)), (q2, .inl (k2, 420, .inl d2)), (q7, .inl (k7, 420, .inr (.inl d7))), (q5, .inl (k5, 18, .inl g5)), (q6, .inl (k6, 18, .inl g6))] → va_S A s.heap H locs → ∀ (ls : Array Slot), lv_has ls 7 [(6, .int (nI k)), (5, .int x5), (3, .long g0), (0, .ref hs), (1, .int (nI st)), (2, .int (nI rows))] → W p l e (headSpec wsX2_leastFrom ({ frames := 2, cells := 0, slots := 0, locals := 55 })).room s m ([.ref hs, .int (nI st), .int (nI rows)] : List Value).toArray below meth c H locs 0 0 (MQ below (va_Qi (fun (r : Int32) (u : (Nat → Int32) × (Nat → Int32) × (Nat → Int64) × (Nat → Int32) × (Nat → Int32) × Int32 × Int32 × Int64) => yL (fun a => ∀ j, j < rows → scl (f1 j) (f2 j) (f7 j) a) st r ∧ (∀ j, j < rows → u.1 j = f1 j ∧ u.2.1 j = f2 j ∧ u.2.2.1 j = f7 j) ∧ ∀ c9, r = nI c9 → c9 < 262144 → ∀ k, k < 64 → (zb u.2.2.2.2.2.2.2 k = true ↔ st ≤ 64 * (c9 / 64) + k ∧ ∀ j, j < rows → scl (f1 j) (f2 j) (f7 j) (64 * (c9 / 64) + k))) (fun (u : (Nat → Int32) × (Nat → Int32) × (Nat → Int64) × (Nat → Int32) × (Nat → Int32) × Int32 × Int32 × Int64) (t : State) => va_P (dC, dI) vwCl [sO hs q1 q2 q7 q5 q6 u.2.2.2.2.2.1 u.2.2.2.2.2.2.1 u.2.2.2.2.2.2.2, (q1, .inl (k1, 420, .inl u.1)), (q2, .inl (k2, 420, .inl u.2.1)), (q7, .inl (k7, 420, .inr (.inl u.2.2.1))), (q5, .inl (k5, 18, .inl u.2.2.2.1)), (q6, .inl (k6, 18, .inl u.2.2.2.2.1))] t.heap ∧ va_K (dC, dI) vwCl [(k1, .int), (k2, .int), (k7, .long), (k5, .int), (k6, .int)] t ∧ va_D A [sO hs q1 q2 q7 q5 q6 u.2.2.2.2.2.1 u.2.2.2.2.2.2.1 u.2.2.2.2.2.2.2, (q1, .inl (k1, 420, .inl u.1)), (q2, .inl (k2, 420, .inl u.2.1)), (q7, .inl (k7, 420, .inr (.inl u.2.2.1))), (q5, .inl (k5, 18, .inl u.2.2.2.1)), (q6, .inl (k6, 18, .inl u.2.2.2.2.1))]) A) ([.ref hs, .int (nI st), .int (nI rows)] : List Value).toArray s 0 0 A) (F0 m 50 ls []) := by
      intro fu
      induction fu with
      | zero =>
        intro k x5 g5 g6 y9 n9 fd9 h1 h2
        exact absurd h2 (by omega)
      | succ fu ih =>
        intro k x5 g5 g6 y9 n9 fd9 hk hin hG hI H locs hP hD hS ls hl
        refine lv_iload hx hb dX2_leastFrom_50 (lv_at hl 0 rfl) ?_
        refine lv_sipush (v := 4096) hx hb dX2_leastFrom_52 (by decide) ?_
        refine lv_icmp_ge (tgt := 116) hx hb dX2_leastFrom_55 (by decide) (fun cb_51 => ?_) (fun cb_51 => ?_)
        · have hno : ∀ a, ¬ (fun a => st ≤ a ∧ a < 262144 ∧ ∀ j, j < rows → scl (f1 j) (f2 j) (f7 j) a) a := by
            rcases hI with ⟨h1, h2⟩ | ⟨b, h1, h2, h3, h4, h5⟩
            · exact h2
            · have : ¬ k < 4096 := fun q => absurd cb_51 (nI_ge (b := 4096) q (by omega))
              omega
          refine lv_iconst (v := (-1)) hx hb dX2_leastFrom_116 (by decide) ?_
          exact W.iret (v := (-1)) hx hb hr (fun t ht hW => ⟨⟨(-1), (d1, d2, d7, g5, g6, y9, n9, fd9), rfl, ⟨Or.inl ⟨rfl, fun a h1 h2 h3 => hno a ⟨h1, h2, h3⟩⟩, hK9, fun c9 hc9 hl9 => absurd hc9.symm (y_m1 (by omega))⟩, by rw [ht]; exact hP, va_K.moved hW.alike hK, hD⟩, hS.F ht⟩) hS.2.2 dX2_leastFrom_117
        · have hk2 : k < 4096 := by
            rcases Nat.lt_or_ge k 4096 with q | q
            · exact q
            · exact absurd (nI_le (a := 4096) q (by omega)) cb_51
          refine lv_iload hx hb dX2_leastFrom_58 (lv_at hl 1 rfl) ?_
          refine lv_iconst (v := (-1)) hx hb dX2_leastFrom_60 (by decide) ?_
          refine lv_icmp_eq (tgt := 116) hx hb dX2_leastFrom_61 (by decide) (fun cb_52 => ?_) (fun cb_52 => ?_)
          · have hno : ∀ a, ¬ (fun a => st ≤ a ∧ a < 262144 ∧ ∀ j, j < rows → scl (f1 j) (f2 j) (f7 j) a) a := by
              rcases hI with ⟨h1, h2⟩ | ⟨b, h1, h2, h3, h4, h5⟩
              · exact h2
              · exact absurd (h1.symm.trans cb_52) (y_m1 (by omega))
            refine lv_iconst (v := (-1)) hx hb dX2_leastFrom_116 (by decide) ?_
            exact W.iret (v := (-1)) hx hb hr (fun t ht hW => ⟨⟨(-1), (d1, d2, d7, g5, g6, y9, n9, fd9), rfl, ⟨Or.inl ⟨rfl, fun a h1 h2 h3 => hno a ⟨h1, h2, h3⟩⟩, hK9, fun c9 hc9 hl9 => absurd hc9.symm (y_m1 (by omega))⟩, by rw [ht]; exact hP, va_K.moved hW.alike hK, hD⟩, hS.F ht⟩) hS.2.2 dX2_leastFrom_117
          · obtain ⟨b, rfl, hbb, hb0, hbk, hR⟩ := hI.resolve_left (fun q => cb_52 q.1)
            refine lv_aload_n hx hb dX2_leastFrom_64 rfl (lv_at hl 3 rfl) ?_
            refine lv_aload_n hx hb dX2_leastFrom_65 rfl (lv_at hl 3 rfl) ?_
            refine lv_iload hx hb dX2_leastFrom_66 (lv_at hl 1 rfl) ?_
            refine lv_lload_n hx hb dX2_leastFrom_68 rfl (lv_at hl 2 rfl) ?_
            refine lv_iload_n hx hb dX2_leastFrom_69 rfl (lv_at hl 5 rfl) ?_
            refine lv_iconst (v := 1) hx hb dX2_leastFrom_70 (by decide) ?_
            refine lv_iadd hx hb dX2_leastFrom_71 ?_
            refine W.eq (g2 := F0 m 72 ls [.int (nI (rows + 1)), .long g0, .int (nI b), .ref hs, .ref hs]) (by rw [nI_1]) ?_
            have hPc := hP.sub (ws' := [sO hs q1 q2 q7 q5 q6 y9 n9 fd9, (q1, .inl (k1, 420, .inl d1)), (q2, .inl (k2, 420, .inl d2)), (q7, .inl (k7, 420, .inr (.inl d7)))]) [0, 1, 2, 3] rfl
            have hDc := hD.sub (ws' := [sO hs q1 q2 q7 q5 q6 y9 n9 fd9, (q1, .inl (k1, 420, .inl d1)), (q2, .inl (k2, 420, .inl d2)), (q7, .inl (k7, 420, .inr (.inl d7)))]) [0, 1, 2, 3] (by decide) rfl
            have hKc := hK.sub (tys' := [(k1, .int), (k2, .int), (k7, .long)]) [0, 1, 2] rfl
            have hFc := va_free (wc := [sO hs q1 q2 q7 q5 q6 y9 n9 fd9, (q1, .inl (k1, 420, .inl d1)), (q2, .inl (k2, 420, .inl d2)), (q7, .inl (k7, 420, .inr (.inl d7)))]) hD hS hA [0, 1, 2, 3] rfl
            refine va_calll (va_runV (As := [.int (nI b), .long g0, .int (nI (rows + 1))]) (rest := [.ref hs]) ⟨hx, hb, hml, hown, htA⟩ (c_goodInBlock l dC dI hs q1 q2 q7 q5 q6 k1 k2 k7 d1 d2 d7 y9 n9 fd9 b g0 (rows + 1) H.size (by omega) hb0 hm2 hg0) (cwV 3 htA gX2_48 rfl rfl rfl (by decide +kernel) ⟨Nat.le_of_ble_eq_true rfl, Nat.le_of_ble_eq_true rfl⟩) ⟨fun a U g mk q => by obtain ⟨q0, q1, qP, qK, qD⟩ := q; exact ⟨q0, q1, qP, va_K.moved (u := U) (U := U.calling g mk a) (Vm.Alike.refl U.vm) qK, qD⟩, va_recv hKc hPc (ci := 2) (q0 := 0) rfl rfl, fun U hU hW => ⟨rfl, by rw [hU], by rw [hU]; exact hPc, va_K.moved hW.alike hKc, hDc.weaken (fun _ _ _ _ => trivial)⟩⟩ rfl rfl hl.1 rfl (lv_room (Nat.le_of_ble_eq_true rfl)) dX2_leastFrom_72 ⟨Nat.zero_le _, Nat.zero_le _⟩) hS (fun q _ h => hFc q h) hFc (fun r8 u t H1 locs ht hvm hw hB hz1 hk1 hS => ?_)
            obtain ⟨y8, n8⟩ := u
            obtain ⟨hP1, hK1, hD1⟩ := hB
            rw [ht] at hP1
            try dsimp only at hw hP1 hD1
            obtain ⟨hP, hD⟩ := va_join (wr := [(q5, .inl (k5, 18, .inl g5)), (q6, .inl (k6, 18, .inl g6))]) (w1 := [sO hs q1 q2 q7 q5 q6 y8 n8 fd9, (q1, .inl (k1, 420, .inl d1)), (q2, .inl (k2, 420, .inl d2)), (q7, .inl (k7, 420, .inr (.inl d7)))]) hP hD [0, 1, 2, 3] [4, 5] rfl rfl (by decide) (by decide) hk1 hFc hP1 hD1
            generalize H1 = H at hP hS ⊢
            have hP : va_P (dC, dI) vwCl [sO hs q1 q2 q7 q5 q6 y8 n8 fd9, (q1, .inl (k1, 420, .inl d1)), (q2, .inl (k2, 420, .inl d2)), (q7, .inl (k7, 420, .inr (.inl d7))), (q5, .inl (k5, 18, .inl g5)), (q6, .inl (k6, 18, .inl g6))] H := hP.sub [2, 3, 4, 5, 0, 1] rfl
            have hD : va_D A [sO hs q1 q2 q7 q5 q6 y8 n8 fd9, (q1, .inl (k1, 420, .inl d1)), (q2, .inl (k2, 420, .inl d2)), (q7, .inl (k7, 420, .inr (.inl d7))), (q5, .inl (k5, 18, .inl g5)), (q6, .inl (k6, 18, .inl g6))] := hD.sub [2, 3, 4, 5, 0, 1] (by decide) rfl
            have hw8 := hw
            refine va_put (D := (dC, dI)) (ci := 2) (v := .long r8) (ty := .long) (C := RX2) (T := TX2) (N := 8) hx hb htA inX2 tyX2 tyX2_ok nX2 hown hK hP hD hS 0 rfl rfl 7 (by decide) (htA _ lkX2_52) (fun _ h9 => h9) rfl (by decide +kernel) rfl rfl (Nat.le_of_ble_eq_true rfl) dX2_leastFrom_75 (fun H locs hP hD hS => ?_)
            have hP : va_P (dC, dI) vwCl [sO hs q1 q2 q7 q5 q6 y8 n8 r8, (q1, .inl (k1, 420, .inl d1)), (q2, .inl (k2, 420, .inl d2)), (q7, .inl (k7, 420, .inr (.inl d7))), (q5, .inl (k5, 18, .inl g5)), (q6, .inl (k6, 18, .inl g6))] H := hP
            have hD : va_D A [sO hs q1 q2 q7 q5 q6 y8 n8 r8, (q1, .inl (k1, 420, .inl d1)), (q2, .inl (k2, 420, .inl d2)), (q7, .inl (k7, 420, .inr (.inl d7))), (q5, .inl (k5, 18, .inl g5)), (q6, .inl (k6, 18, .inl g6))] := hD
            refine lv_aload_n hx hb dX2_leastFrom_78 rfl (lv_at hl 3 rfl) ?_
            refine va_get (D := (dC, dI)) (ci := 2) (v := .long r8) (C := RX2) (T := TX2) (N := 8) hx hb htA inX2 hown hK hP 0 rfl rfl 7 (by decide) (htA _ lkX2_52) (fun _ h9 => h9) rfl dX2_leastFrom_79 ?_
            refine lv_lconst (v := 0) hx hb dX2_leastFrom_82 (by decide) ?_
            refine W.lcmp hx hb dX2_leastFrom_83 ?_
            refine lv_if_eq (tgt := 98) hx hb dX2_leastFrom_84 (by decide) (fun cb_53 => ?_) (fun cb_53 => ?_)
            · have hr0 : r8 = 0 := (lg_cmp_eq _ _).mp cb_53
              refine lv_aload_n hx hb dX2_leastFrom_98 rfl (lv_at hl 3 rfl) ?_
              refine lv_aload_n hx hb dX2_leastFrom_99 rfl (lv_at hl 3 rfl) ?_
              refine lv_iload hx hb dX2_leastFrom_100 (lv_at hl 1 rfl) ?_
              have hPc := hP.sub (ws' := [sO hs q1 q2 q7 q5 q6 y8 n8 r8, (q5, .inl (k5, 18, .inl g5)), (q6, .inl (k6, 18, .inl g6))]) [0, 4, 5] rfl
              have hDc := hD.sub (ws' := [sO hs q1 q2 q7 q5 q6 y8 n8 r8, (q5, .inl (k5, 18, .inl g5)), (q6, .inl (k6, 18, .inl g6))]) [0, 4, 5] (by decide) rfl
              have hKc := hK.sub (tys' := [(k5, .int), (k6, .int)]) [3, 4] rfl
              have hFc := va_free (wc := [sO hs q1 q2 q7 q5 q6 y8 n8 r8, (q5, .inl (k5, 18, .inl g5)), (q6, .inl (k6, 18, .inl g6))]) hD hS hA [0, 4, 5] rfl
              refine va_calli (va_runV (As := [.int (nI b)]) (rest := [.ref hs]) ⟨hx, hb, hml, hown, htA⟩ (c_leap l dC dI hs q1 q2 q7 q5 q6 k5 k6 g5 g6 y8 n8 r8 b (fun a => st ≤ a ∧ a < 262144 ∧ ∀ j, j < rows → scl (f1 j) (f2 j) (f7 j) a) H.size hbb hG hR (yLI_mono (hw8.1 hr0) hGP)) (cwV 1 htA gX2_62 rfl rfl rfl (by decide +kernel) ⟨Nat.le_of_ble_eq_true rfl, Nat.le_of_ble_eq_true rfl⟩) ⟨fun a U g mk q => by obtain ⟨q0, q1, qP, qK, qD⟩ := q; exact ⟨q0, q1, qP, va_K.moved (u := U) (U := U.calling g mk a) (Vm.Alike.refl U.vm) qK, qD⟩, va_recv hKc hPc (ci := 2) (q0 := 0) rfl rfl, fun U hU hW => ⟨rfl, by rw [hU], by rw [hU]; exact hPc, va_K.moved hW.alike hKc, hDc.weaken (fun _ _ _ _ => trivial)⟩⟩ rfl rfl hl.1 rfl (lv_room (Nat.le_of_ble_eq_true rfl)) dX2_leastFrom_102 ⟨Nat.zero_le _, Nat.zero_le _⟩) hS (fun q _ h => hFc q h) hFc (fun r7 u t H1 locs ht hvm hw hB hz1 hk1 hS => ?_)
              obtain ⟨j5, j6⟩ := u
              obtain ⟨hP1, hK1, hD1⟩ := hB
              rw [ht] at hP1
              try dsimp only at hw hP1 hD1
              obtain ⟨hP, hD⟩ := va_join (wr := [(q1, .inl (k1, 420, .inl d1)), (q2, .inl (k2, 420, .inl d2)), (q7, .inl (k7, 420, .inr (.inl d7)))]) (w1 := [sO hs q1 q2 q7 q5 q6 y8 n8 r8, (q5, .inl (k5, 18, .inl j5)), (q6, .inl (k6, 18, .inl j6))]) hP hD [0, 4, 5] [1, 2, 3] rfl rfl (by decide) (by decide) hk1 hFc hP1 hD1
              generalize H1 = H at hP hS ⊢
              have hP : va_P (dC, dI) vwCl [sO hs q1 q2 q7 q5 q6 y8 n8 r8, (q1, .inl (k1, 420, .inl d1)), (q2, .inl (k2, 420, .inl d2)), (q7, .inl (k7, 420, .inr (.inl d7))), (q5, .inl (k5, 18, .inl j5)), (q6, .inl (k6, 18, .inl j6))] H := hP.sub [3, 0, 1, 2, 4, 5] rfl
              have hD : va_D A [sO hs q1 q2 q7 q5 q6 y8 n8 r8, (q1, .inl (k1, 420, .inl d1)), (q2, .inl (k2, 420, .inl d2)), (q7, .inl (k7, 420, .inr (.inl d7))), (q5, .inl (k5, 18, .inl j5)), (q6, .inl (k6, 18, .inl j6))] := hD.sub [3, 0, 1, 2, 4, 5] (by decide) rfl
              obtain ⟨hG7, hI7⟩ := hw
              have hPc := hP.sub (ws' := [sO hs q1 q2 q7 q5 q6 y8 n8 r8, (q5, .inl (k5, 18, .inl j5)), (q6, .inl (k6, 18, .inl j6))]) [0, 4, 5] rfl
              have hDc := hD.sub (ws' := [sO hs q1 q2 q7 q5 q6 y8 n8 r8, (q5, .inl (k5, 18, .inl j5)), (q6, .inl (k6, 18, .inl j6))]) [0, 4, 5] (by decide) rfl
              have hKc := hK.sub (tys' := [(k5, .int), (k6, .int)]) [3, 4] rfl
              have hFc := va_free (wc := [sO hs q1 q2 q7 q5 q6 y8 n8 r8, (q5, .inl (k5, 18, .inl j5)), (q6, .inl (k6, 18, .inl j6))]) hD hS hA [0, 4, 5] rfl
              refine va_calli (va_runV (As := [.int r7]) (rest := []) ⟨hx, hb, hml, hown, htA⟩ (c_setBy l dC dI hs q1 q2 q7 q5 q6 k5 k6 j5 j6 y8 n8 r8 r7 b (fun a => st ≤ a ∧ a < 262144 ∧ ∀ j, j < rows → scl (f1 j) (f2 j) (f7 j) a) H.size hG7 hI7) (cwV 1 htA gX2_66 rfl rfl rfl (by decide +kernel) ⟨Nat.le_of_ble_eq_true rfl, Nat.le_of_ble_eq_true rfl⟩) ⟨fun a U g mk q => by obtain ⟨q0, q1, qP, qK, qD⟩ := q; exact ⟨q0, q1, qP, va_K.moved (u := U) (U := U.calling g mk a) (Vm.Alike.refl U.vm) qK, qD⟩, va_recv hKc hPc (ci := 2) (q0 := 0) rfl rfl, fun U hU hW => ⟨rfl, by rw [hU], by rw [hU]; exact hPc, va_K.moved hW.alike hKc, hDc.weaken (fun _ _ _ _ => trivial)⟩⟩ rfl rfl hl.1 rfl (lv_room (Nat.le_of_ble_eq_true rfl)) dX2_leastFrom_105 ⟨Nat.zero_le _, Nat.zero_le _⟩) hS (fun q _ h => hFc q h) hFc (fun r6 u t H1 locs ht hvm hw hB hz1 hk1 hS => ?_)
              obtain ⟨hP1, hK1, hD1⟩ := hB
              rw [ht] at hP1
              try dsimp only at hw hP1 hD1
              obtain ⟨hP, hD⟩ := va_join (wr := [(q1, .inl (k1, 420, .inl d1)), (q2, .inl (k2, 420, .inl d2)), (q7, .inl (k7, 420, .inr (.inl d7)))]) (w1 := [sO hs q1 q2 q7 q5 q6 y8 n8 r8, (q5, .inl (k5, 18, .inl j5)), (q6, .inl (k6, 18, .inl j6))]) hP hD [0, 4, 5] [1, 2, 3] rfl rfl (by decide) (by decide) hk1 hFc hP1 hD1
              generalize H1 = H at hP hS ⊢
              have hP : va_P (dC, dI) vwCl [sO hs q1 q2 q7 q5 q6 y8 n8 r8, (q1, .inl (k1, 420, .inl d1)), (q2, .inl (k2, 420, .inl d2)), (q7, .inl (k7, 420, .inr (.inl d7))), (q5, .inl (k5, 18, .inl j5)), (q6, .inl (k6, 18, .inl j6))] H := hP.sub [3, 0, 1, 2, 4, 5] rfl
              have hD : va_D A [sO hs q1 q2 q7 q5 q6 y8 n8 r8, (q1, .inl (k1, 420, .inl d1)), (q2, .inl (k2, 420, .inl d2)), (q7, .inl (k7, 420, .inr (.inl d7))), (q5, .inl (k5, 18, .inl j5)), (q6, .inl (k6, 18, .inl j6))] := hD.sub [3, 0, 1, 2, 4, 5] (by decide) rfl
              refine lv_istore (lv' := [(5, .int r6), (6, .int (nI k)), (3, .long g0), (0, .ref hs), (1, .int (nI st)), (2, .int (nI rows))]) hx hb dX2_leastFrom_108 hl (by decide) rfl (fun ls hl => ?_)
              refine lv_iinc (v := nI (k + 1)) (lv' := [(6, .int (nI (k + 1))), (5, .int r6), (3, .long g0), (0, .ref hs), (1, .int (nI st)), (2, .int (nI rows))]) hx hb dX2_leastFrom_110 hl (k := 1) rfl (nI_1 _) (by decide) rfl (fun ls hl => ?_)
              refine lv_goto (tgt := 50) hx hb dX2_leastFrom_113 (by decide) ?_
              refine ih (k + 1) r6 j5 j6 y8 n8 r8 (by omega) (by omega) hG7 ?_ _ _ hP hD hS ls (lv_sub hl [0, 1, 2, 3, 4, 5] rfl)
              rcases hw with h9 | ⟨c3, h1, h2, h3, h4, h5⟩
              · exact Or.inl h9
              · exact Or.inr ⟨c3, h1, h2, h4, by omega, h5⟩
            · have hne : ¬ r8 = 0 := fun q => cb_53 ((lg_cmp_eq _ _).mpr q)
              obtain ⟨t0, ht0, hy1, hy0⟩ := zb_lowest hne
              have hx8 : ∀ k, k < 64 → (zb r8 k = true ↔ st ≤ b + k ∧ (∀ j, j < rows → scl (f1 j) (f2 j) (f7 j) (b + k))) := fun k hk => (hw8.2 hne k hk).trans (hP2 (b + k) (by omega) (by omega))
              refine lv_iload hx hb dX2_leastFrom_87 (lv_at hl 1 rfl) ?_
              refine lv_aload_n hx hb dX2_leastFrom_89 rfl (lv_at hl 3 rfl) ?_
              refine va_get (D := (dC, dI)) (ci := 2) (v := .long r8) (C := RX2) (T := TX2) (N := 8) hx hb htA inX2 hown hK hP 0 rfl rfl 7 (by decide) (htA _ lkX2_52) (fun _ h9 => h9) rfl dX2_leastFrom_90 ?_
              have hPc := hP.sub (ws' := []) [] rfl
              have hDc := hD.sub (ws' := []) [] (by decide) rfl
              have hKc := hK.sub (tys' := []) [] rfl
              have hFc := va_free (wc := []) hD hS hA [] rfl
              refine va_calli (va_runS (As := [.long r8]) (rest := [.int (nI b)]) ⟨hx, hb, hml, hown, htA⟩ (c_ntz64 l dC dI r8 t0 H.size ht0 hy1 hy0) (va_cwS 1 htA gX2_56 rfl rfl rfl (by decide +kernel) ⟨Nat.le_of_ble_eq_true rfl, Nat.le_of_ble_eq_true rfl⟩) ⟨fun a U g mk q => by obtain ⟨q0, q1, qP, qK, qD⟩ := q; exact ⟨q0, q1, qP, va_K.moved (u := U) (U := U.calling g mk a) (Vm.Alike.refl U.vm) qK, qD⟩, fun U hU hW => ⟨rfl, by rw [hU], by rw [hU]; exact hPc, va_K.moved hW.alike hKc, hDc.weaken (fun _ _ _ _ => trivial)⟩⟩ rfl rfl hl.1 rfl (lv_room (Nat.le_of_ble_eq_true rfl)) dX2_leastFrom_93 ⟨Nat.zero_le _, Nat.zero_le _⟩) hS (fun q _ h => hFc q h) hFc (fun r7 u t H1 locs ht hvm hw hB hz1 hk1 hS => ?_)
              obtain ⟨hP1, hK1, hD1⟩ := hB
              rw [ht] at hP1
              try dsimp only at hw hP1 hD1
              obtain ⟨hP, hD⟩ := va_join (wr := [sO hs q1 q2 q7 q5 q6 y8 n8 r8, (q1, .inl (k1, 420, .inl d1)), (q2, .inl (k2, 420, .inl d2)), (q7, .inl (k7, 420, .inr (.inl d7))), (q5, .inl (k5, 18, .inl g5)), (q6, .inl (k6, 18, .inl g6))]) (w1 := []) hP hD [] [0, 1, 2, 3, 4, 5] rfl rfl (by decide) (by decide) hk1 hFc hP1 hD1
              generalize H1 = H at hP hS ⊢
              have hP : va_P (dC, dI) vwCl [sO hs q1 q2 q7 q5 q6 y8 n8 r8, (q1, .inl (k1, 420, .inl d1)), (q2, .inl (k2, 420, .inl d2)), (q7, .inl (k7, 420, .inr (.inl d7))), (q5, .inl (k5, 18, .inl g5)), (q6, .inl (k6, 18, .inl g6))] H := hP.sub [0, 1, 2, 3, 4, 5] rfl
              have hD : va_D A [sO hs q1 q2 q7 q5 q6 y8 n8 r8, (q1, .inl (k1, 420, .inl d1)), (q2, .inl (k2, 420, .inl d2)), (q7, .inl (k7, 420, .inr (.inl d7))), (q5, .inl (k5, 18, .inl g5)), (q6, .inl (k6, 18, .inl g6))] := hD.sub [0, 1, 2, 3, 4, 5] (by decide) rfl
              obtain rfl := hw
              refine lv_iadd hx hb dX2_leastFrom_96 ?_
              refine W.eq (g2 := F0 m 97 ls [.int (nI (b + t0))]) (by rw [nI_add]) ?_
              exact W.iret (v := nI (b + t0)) hx hb hr (fun t ht hW => ⟨⟨nI (b + t0), (d1, d2, d7, g5, g6, y8, n8, r8), rfl, ⟨yL_found hbb hb0 hR hx8 ht0 hy1 hy0, hK9, fun c9 hc9 hl9 k hk => by
                have e9 : b + t0 = c9 := (nI_eq (by omega) (by omega)).mp hc9
                rw [show 64 * (c9 / 64) = b by omega]
                exact hx8 k hk⟩, by rw [ht]; exact hP, va_K.moved hW.alike hK, hD⟩, hS.F ht⟩) hS.2.2 dX2_leastFrom_97
    exact loop 4097 0 (nI (64 * (st / 64))) g5 g6 bY bN fd (by omega) (by omega) hG0 (Or.inr ⟨64 * (st / 64), rfl, by omega, by omega, by omega, hR0⟩) _ _ hP hD hS ls (lv_sub hl [0, 1, 2, 3, 4, 5] rfl)
  · refine lv_iconst (v := (-1)) hx hb dX2_leastFrom_6 (by decide) ?_
    exact W.iret (v := (-1)) hx hb hr (fun t ht hW => ⟨⟨(-1), (f1, f2, f7, f5, f6, bY, bN, fd), rfl, ⟨Or.inl ⟨rfl, fun a h1 h2 => absurd (nI_le (b := 262143) (show st ≤ 262143 by omega) (by omega)) cb_48⟩, fun j _ => ⟨rfl, rfl, rfl⟩, fun c9 hc9 hl9 => absurd hc9.symm (y_m1 (by omega))⟩, by rw [ht]; exact hP, va_K.moved hW.alike hK, hD⟩, hS.F ht⟩) hS.2.2 dX2_leastFrom_7
set_option maxHeartbeats 4000000 in
set_option maxRecDepth 100000 in
theorem c_isSatisfied (l : Launch) (dC : Nat → ClassId) (dI : Nat → Nat → Nat) (h : Nat) (hs : Nat) (q1 : Nat) (q2 : Nat) (q7 : Nat) (q3 : Nat) (q4 : Nat) (q5 : Nat) (q6 : Nat) (k1 : ClassId) (k2 : ClassId) (k7 : ClassId) (k5 : ClassId) (k6 : ClassId) (f1 : Nat → Int32) (f2 : Nat → Int32) (f7 : Nat → Int64) (f5 : Nat → Int32) (f6 : Nat → Int32) (cc : Int32) (lv : Int32) (ac : Int32) (tc : Int32) (ty : Int32) (tn : Int32) (md : Int32) (bY : Int32) (bN : Int32) (fd : Int64) (rows : Nat) (sz : Nat) (hrows : rows < 420) (hm : ∀ j, j < rows → yh (f1 j) ∧ yh (f2 j)) : Met l yX0_isSatisfied wsX0_isSatisfied ({ frames := 3, cells := 0, slots := 0, locals := 85 }) (va_Pc [.ref h, .int (nI rows)] (fun U => U.heap.size = sz ∧ va_P (dC, dI) vwCl [yO h hs q3 q4 cc lv ac tc ty tn md, sO hs q1 q2 q7 q5 q6 bY bN fd, (q1, .inl (k1, 420, .inl f1)), (q2, .inl (k2, 420, .inl f2)), (q7, .inl (k7, 420, .inr (.inl f7))), (q5, .inl (k5, 18, .inl f5)), (q6, .inl (k6, 18, .inl f6))] U.heap ∧ va_K (dC, dI) vwCl [(k1, .int), (k2, .int), (k7, .long), (k5, .int), (k6, .int)] U ∧ va_D (fun _ => True) [yO h hs q3 q4 cc lv ac tc ty tn md, sO hs q1 q2 q7 q5 q6 bY bN fd, (q1, .inl (k1, 420, .inl f1)), (q2, .inl (k2, 420, .inl f2)), (q7, .inl (k7, 420, .inr (.inl f7))), (q5, .inl (k5, 18, .inl f5)), (q6, .inl (k6, 18, .inl f6))])) (va_Qi (fun (r : Int32) (u : (Nat → Int32) × (Nat → Int32) × (Nat → Int64) × (Nat → Int32) × (Nat → Int32) × Int32 × Int32 × Int64) => ((r = 1 ∧ ∃ a, a < 262144 ∧ ∀ j, j < rows → scl (f1 j) (f2 j) (f7 j) a) ∨ (r = 0 ∧ ¬ ∃ a, a < 262144 ∧ ∀ j, j < rows → scl (f1 j) (f2 j) (f7 j) a)) ∧ (∀ j, j < rows → u.1 j = f1 j ∧ u.2.1 j = f2 j ∧ u.2.2.1 j = f7 j)) (fun (u : (Nat → Int32) × (Nat → Int32) × (Nat → Int64) × (Nat → Int32) × (Nat → Int32) × Int32 × Int32 × Int64) (t : State) => va_P (dC, dI) vwCl [yO h hs q3 q4 cc lv ac tc ty tn md, sO hs q1 q2 q7 q5 q6 u.2.2.2.2.2.1 u.2.2.2.2.2.2.1 u.2.2.2.2.2.2.2, (q1, .inl (k1, 420, .inl u.1)), (q2, .inl (k2, 420, .inl u.2.1)), (q7, .inl (k7, 420, .inr (.inl u.2.2.1))), (q5, .inl (k5, 18, .inl u.2.2.2.1)), (q6, .inl (k6, 18, .inl u.2.2.2.2.1))] t.heap ∧ va_K (dC, dI) vwCl [(k1, .int), (k2, .int), (k7, .long), (k5, .int), (k6, .int)] t ∧ va_D (va_A [yO h hs q3 q4 cc lv ac tc ty tn md, sO hs q1 q2 q7 q5 q6 bY bN fd, (q1, .inl (k1, 420, .inl f1)), (q2, .inl (k2, 420, .inl f2)), (q7, .inl (k7, 420, .inr (.inl f7))), (q5, .inl (k5, 18, .inl f5)), (q6, .inl (k6, 18, .inl f6))] sz) [yO h hs q3 q4 cc lv ac tc ty tn md, sO hs q1 q2 q7 q5 q6 u.2.2.2.2.2.1 u.2.2.2.2.2.2.1 u.2.2.2.2.2.2.2, (q1, .inl (k1, 420, .inl u.1)), (q2, .inl (k2, 420, .inl u.2.1)), (q7, .inl (k7, 420, .inr (.inl u.2.2.1))), (q5, .inl (k5, 18, .inl u.2.2.2.1)), (q6, .inl (k6, 18, .inl u.2.2.2.2.1))]) (va_A [yO h hs q3 q4 cc lv ac tc ty tn md, sO hs q1 q2 q7 q5 q6 bY bN fd, (q1, .inl (k1, 420, .inl f1)), (q2, .inl (k2, 420, .inl f2)), (q7, .inl (k7, 420, .inr (.inl f7))), (q5, .inl (k5, 18, .inl f5)), (q6, .inl (k6, 18, .inl f6))] sz)) 0 0 (va_A [yO h hs q3 q4 cc lv ac tc ty tn md, sO hs q1 q2 q7 q5 q6 bY bN fd, (q1, .inl (k1, 420, .inl f1)), (q2, .inl (k2, 420, .inl f2)), (q7, .inl (k7, 420, .inr (.inl f7))), (q5, .inl (k5, 18, .inl f5)), (q6, .inl (k6, 18, .inl f6))] sz) := by
  refine Met.ofW (cc := cX0_isSatisfied) (maxL := 2) (ret := (some .boolean)) (by decide) rfl ?_
  intro p e s m args below meth c s₁ B hml hv
  obtain ⟨rfl, hsz, hP, hK, hD0⟩ := hv
  have hx := B.exec
  have hb := B.bytes
  have hr := B.returns
  have hts := atoms_spec (ws := wsX0_isSatisfied) B.pre
  have htA : ∀ w ∈ wsA, w.before _ s = true := fun w h => hts w (List.mem_cons_of_mem _ h)
  have hown : s.vm.findClass RX0 = some m.cls := findClass_of_methodNamed B.named
  have hlocks := B.notSynchronized
  subst hsz
  have hD := hD0.self (sz := s.heap.size)
  generalize hAe : va_A [yO h hs q3 q4 cc lv ac tc ty tn md, sO hs q1 q2 q7 q5 q6 bY bN fd, (q1, .inl (k1, 420, .inl f1)), (q2, .inl (k2, 420, .inl f2)), (q7, .inl (k7, 420, .inr (.inl f7))), (q5, .inl (k5, 18, .inl f5)), (q6, .inl (k6, 18, .inl f6))] s.heap.size = A at hD ⊢
  have hA : ∀ q : Nat, s.heap.size ≤ q → A q := fun q h => by rw [← hAe]; exact Or.inr h
  have hS : va_S A s.heap s.heap [] := va_S.rf
  have hP : va_P (dC, dI) vwCl [yO h hs q3 q4 cc lv ac tc ty tn md, sO hs q1 q2 q7 q5 q6 bY bN fd, (q1, .inl (k1, 420, .inl f1)), (q2, .inl (k2, 420, .inl f2)), (q7, .inl (k7, 420, .inr (.inl f7))), (q5, .inl (k5, 18, .inl f5)), (q6, .inl (k6, 18, .inl f6))] s.heap := hP
  have hl := lv_entry ([.ref h, .int (nI rows)]) (n := 2) (Nat.le_of_ble_eq_true rfl)
  rw [lg_entry_eq]
  generalize (lg_sl ([.ref h, .int (nI rows)]) ++ List.replicate (2 - (lg_sl ([.ref h, .int (nI rows)])).length) Slot.unset).toArray = ls at hl ⊢
  have hl : lv_has ls 2 [(0, .ref h), (1, .int (nI rows))] := hl
  refine lv_aload_n hx hb dX0_isSatisfied_0 rfl (lv_at hl 0 rfl) ?_
  refine va_get (D := (dC, dI)) (ci := 0) (v := .ref hs) (C := RX0) (T := TX0) (N := 10) hx hb htA inX0 hown hK hP 0 rfl rfl 0 (by decide) (htA _ lkX0_12) (fun _ h9 => h9) rfl dX0_isSatisfied_1 ?_
  refine lv_iconst (v := 0) hx hb dX0_isSatisfied_4 (by decide) ?_
  refine lv_iload_n hx hb dX0_isSatisfied_5 rfl (lv_at hl 1 rfl) ?_
  refine W.eq (g2 := F0 m 6 ls [.int (nI rows), .int (nI 0), .ref hs]) (by rw [nI_0]) ?_
  have hPc := hP.sub (ws' := [sO hs q1 q2 q7 q5 q6 bY bN fd, (q1, .inl (k1, 420, .inl f1)), (q2, .inl (k2, 420, .inl f2)), (q7, .inl (k7, 420, .inr (.inl f7))), (q5, .inl (k5, 18, .inl f5)), (q6, .inl (k6, 18, .inl f6))]) [1, 2, 3, 4, 5, 6] rfl
  have hDc := hD.sub (ws' := [sO hs q1 q2 q7 q5 q6 bY bN fd, (q1, .inl (k1, 420, .inl f1)), (q2, .inl (k2, 420, .inl f2)), (q7, .inl (k7, 420, .inr (.inl f7))), (q5, .inl (k5, 18, .inl f5)), (q6, .inl (k6, 18, .inl f6))]) [1, 2, 3, 4, 5, 6] (by decide) rfl
  have hKc := hK.sub (tys' := [(k1, .int), (k2, .int), (k7, .long), (k5, .int), (k6, .int)]) [0, 1, 2, 3, 4] rfl
  have hFc := va_free (wc := [sO hs q1 q2 q7 q5 q6 bY bN fd, (q1, .inl (k1, 420, .inl f1)), (q2, .inl (k2, 420, .inl f2)), (q7, .inl (k7, 420, .inr (.inl f7))), (q5, .inl (k5, 18, .inl f5)), (q6, .inl (k6, 18, .inl f6))]) hD hS hA [1, 2, 3, 4, 5, 6] rfl
  refine va_calli (va_runV (As := [.int (nI 0), .int (nI rows)]) (rest := []) ⟨hx, hb, hml, hown, htA⟩ (c_leastFrom l dC dI hs q1 q2 q7 q5 q6 k1 k2 k7 k5 k6 f1 f2 f7 f5 f6 bY bN fd 0 rows s.heap.size (by omega) hrows hm) (cwV 2 htA gX0_83 rfl rfl rfl (by decide +kernel) ⟨Nat.le_of_ble_eq_true rfl, Nat.le_of_ble_eq_true rfl⟩) ⟨fun a U g mk q => by obtain ⟨q0, q1, qP, qK, qD⟩ := q; exact ⟨q0, q1, qP, va_K.moved (u := U) (U := U.calling g mk a) (Vm.Alike.refl U.vm) qK, qD⟩, va_recv hKc hPc (ci := 2) (q0 := 0) rfl rfl, fun U hU hW => ⟨rfl, by rw [hU], by rw [hU]; exact hPc, va_K.moved hW.alike hKc, hDc.weaken (fun _ _ _ _ => trivial)⟩⟩ rfl rfl hl.1 rfl (lv_room (Nat.le_of_ble_eq_true rfl)) dX0_isSatisfied_6 ⟨Nat.zero_le _, Nat.zero_le _⟩) hS (fun q _ h => hFc q h) hFc (fun r9 u t H1 locs ht hvm hw hB hz1 hk1 hS => ?_)
  obtain ⟨d1, d2, d7, d5, d6, y8, n8, fd8⟩ := u
  obtain ⟨hP1, hK1, hD1⟩ := hB
  rw [ht] at hP1
  try dsimp only at hw hP1 hD1
  obtain ⟨hP, hD⟩ := va_join (wr := [yO h hs q3 q4 cc lv ac tc ty tn md]) (w1 := [sO hs q1 q2 q7 q5 q6 y8 n8 fd8, (q1, .inl (k1, 420, .inl d1)), (q2, .inl (k2, 420, .inl d2)), (q7, .inl (k7, 420, .inr (.inl d7))), (q5, .inl (k5, 18, .inl d5)), (q6, .inl (k6, 18, .inl d6))]) hP hD [1, 2, 3, 4, 5, 6] [0] rfl rfl (by decide) (by decide) hk1 hFc hP1 hD1
  generalize H1 = H at hP hS ⊢
  have hP : va_P (dC, dI) vwCl [yO h hs q3 q4 cc lv ac tc ty tn md, sO hs q1 q2 q7 q5 q6 y8 n8 fd8, (q1, .inl (k1, 420, .inl d1)), (q2, .inl (k2, 420, .inl d2)), (q7, .inl (k7, 420, .inr (.inl d7))), (q5, .inl (k5, 18, .inl d5)), (q6, .inl (k6, 18, .inl d6))] H := hP.sub [0, 1, 2, 3, 4, 5, 6] rfl
  have hD : va_D A [yO h hs q3 q4 cc lv ac tc ty tn md, sO hs q1 q2 q7 q5 q6 y8 n8 fd8, (q1, .inl (k1, 420, .inl d1)), (q2, .inl (k2, 420, .inl d2)), (q7, .inl (k7, 420, .inr (.inl d7))), (q5, .inl (k5, 18, .inl d5)), (q6, .inl (k6, 18, .inl d6))] := hD.sub [0, 1, 2, 3, 4, 5, 6] (by decide) rfl
  refine lv_iconst (v := (-1)) hx hb dX0_isSatisfied_9 (by decide) ?_
  refine lv_icmp_eq (tgt := 17) hx hb dX0_isSatisfied_10 (by decide) (fun cb_54 => ?_) (fun cb_54 => ?_)
  · refine lv_iconst (v := 0) hx hb dX0_isSatisfied_17 (by decide) ?_
    exact W.zret (v := 0) (ty := .boolean) hx hb hr (by decide) (fun t ht hW => ⟨⟨0, (d1, d2, d7, d5, d6, y8, n8, fd8), rfl, ⟨Or.inr ⟨rfl, fun ⟨a, h1, h2⟩ => (yL_ne hw.1).mpr ⟨a, Nat.zero_le _, h1, h2⟩ cb_54⟩, hw.2.1⟩, by rw [ht]; exact hP, va_K.moved hW.alike hK, hD⟩, hS.F ht⟩) hS.2.2 dX0_isSatisfied_18
  · refine lv_iconst (v := 1) hx hb dX0_isSatisfied_13 (by decide) ?_
    refine lv_goto (tgt := 18) hx hb dX0_isSatisfied_14 (by decide) ?_
    exact W.zret (v := 1) (ty := .boolean) hx hb hr (by decide) (fun t ht hW => ⟨⟨1, (d1, d2, d7, d5, d6, y8, n8, fd8), rfl, ⟨Or.inl ⟨rfl, let ⟨a, _, h1, h2⟩ := (yL_ne hw.1).mp cb_54; ⟨a, h1, h2⟩⟩, hw.2.1⟩, by rw [ht]; exact hP, va_K.moved hW.alike hK, hD⟩, hS.F ht⟩) hS.2.2 dX0_isSatisfied_18
