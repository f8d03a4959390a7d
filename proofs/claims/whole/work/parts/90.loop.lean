theorem y_end {L t : Nat} (hL : L ≤ 1024) (ht : 2 * t ≤ L) : (nI L - 2 < nI (2 * t)) ↔ L < 2 * t + 2 := by
  rw [Int32.lt_iff_toInt_lt, show nI L - 2 = nI L - nI 2 from rfl, pk_sub_toInt (by omega) (by omega), nI_toInt (by omega)]
  omega
set_option maxHeartbeats 4000000 in
set_option maxRecDepth 100000 in
/-- THE LAW'S LOOP: at its head, with t calls done, the yard and the reference agree -/
theorem law_loop {p : Program} {l : Launch} {e : Env} {s : State} {m : MethodId} {below : List Frame} {meth : Method} {c : Code} {dC : Nat → ClassId} {dI : Nat → Nat → Nat} {b L : Nat} {xs : Nat → Int32} {h hs q1 q2 q7 q3 q4 q5 q6 hz r1 r2 r3 r4 r5 r6 r7 qo : Nat} {k1 k2 k7 k3 k4 k5 k6 n1 n2 n3 n4 n5 n6 n7 ko : ClassId} (hl9 : l.stackTraces = false) (C0 : lw_At p s m meth c b L xs) (hEX : yEx (fun q : Nat => s.heap.size ≤ q) s s.heap) (hNC : va_Nc "java/lang/IllegalStateException" "java/lang/IllegalArgumentException" s) (hK : va_K (dC, dI) vwCl [(k1, .int), (k2, .int), (k7, .long), (k3, .int), (k4, .int), (k5, .int), (k6, .int), (n1, .int), (n2, .int), (n3, .int), (n4, .int), (n5, .int), (n6, .long), (n7, .long), (ko, .long)] s) (hL : L ≤ 1024) :
    ∀ (fu t : Nat) (f1 f2 : Nat → Int32) (f7 : Nat → Int64) (f3 f4 f5 f6 : Nat → Int32) (bY bN : Int32) (fd : Int64) (cc lv ac tc : Nat) (ty tn md : Int32) (g1 g2 g3 g4 g5 : Nat → Int32) (g6 g7 : Nat → Int64) (th : Int32) (ts cn lz an : Nat) (mz : Int32) (fo : Nat → Int64), 2 * t ≤ L → L + 1 ≤ 2 * t + 2 * fu → yzJ f1 f2 f7 f3 f4 g1 g2 g3 g4 g5 g6 g7 cc lv ac tc ty tn md ts cn lz an mz → ∀ (H : Heap) (locs : List Loc), va_P (dC, dI) vwCl [yO h hs q3 q4 (nI cc) (nI lv) (nI ac) (nI tc) ty tn md, sO hs q1 q2 q7 q5 q6 bY bN fd, (q1, .inl (k1, 420, .inl f1)), (q2, .inl (k2, 420, .inl f2)), (q7, .inl (k7, 420, .inr (.inl f7))), (q3, .inl (k3, 41, .inl f3)), (q4, .inl (k4, 18, .inl f4)), (q5, .inl (k5, 18, .inl f5)), (q6, .inl (k6, 18, .inl f6)), zO hz th r1 (nI ts) (nI cn) r2 r3 r4 (nI lz) r5 (nI an) mz r6 r7, (r1, .inl (n1, 18, .inl g1)), (r2, .inl (n2, 7200, .inl g2)), (r3, .inl (n3, 400, .inl g3)), (r4, .inl (n4, 400, .inl g4)), (r5, .inl (n5, 18, .inl g5)), (r6, .inl (n6, 4096, .inr (.inl g6))), (r7, .inl (n7, 6, .inr (.inl g7))), (qo, .inl (ko, 1, .inr (.inl fo)))] H → va_D (fun q : Nat => s.heap.size ≤ q) [yO h hs q3 q4 (nI cc) (nI lv) (nI ac) (nI tc) ty tn md, sO hs q1 q2 q7 q5 q6 bY bN fd, (q1, .inl (k1, 420, .inl f1)), (q2, .inl (k2, 420, .inl f2)), (q7, .inl (k7, 420, .inr (.inl f7))), (q3, .inl (k3, 41, .inl f3)), (q4, .inl (k4, 18, .inl f4)), (q5, .inl (k5, 18, .inl f5)), (q6, .inl (k6, 18, .inl f6)), zO hz th r1 (nI ts) (nI cn) r2 r3 r4 (nI lz) r5 (nI an) mz r6 r7, (r1, .inl (n1, 18, .inl g1)), (r2, .inl (n2, 7200, .inl g2)), (r3, .inl (n3, 400, .inl g3)), (r4, .inl (n4, 400, .inl g4)), (r5, .inl (n5, 18, .inl g5)), (r6, .inl (n6, 4096, .inr (.inl g6))), (r7, .inl (n7, 6, .inr (.inl g7))), (qo, .inl (ko, 1, .inr (.inl fo)))] → va_S (fun q : Nat => s.heap.size ≤ q) s.heap H locs → ∀ (ls : Array Slot), lv_has ls 7 [(4, .int (nI (2 * t))), (0, .ref b), (1, .ref h), (2, .ref hz), (3, .ref qo)] → W p l e room_1 s m #[Value.ref b] below meth c H locs (18 + t) (13525 + 6 * t) (lw_Z below #[Value.ref b] s) (F0 m 23 ls []) := by
  obtain ⟨hx, hb, hr, hml, hown, hts, hX, hbl, hlocks, hgv⟩ := id C0
  have htA : ∀ w ∈ wsA, w.before _ s = true := fun w h => hts w (List.mem_filter.mp h).1
  have hown : s.vm.findClass RL = some m.cls := hown
  have hA : ∀ q : Nat, s.heap.size ≤ q → (fun q : Nat => s.heap.size ≤ q) q := fun _ h => h
  have hbA : ¬ (fun q : Nat => s.heap.size ≤ q) b := Nat.not_le.mpr hbl
  intro fu
  induction fu with
  | zero =>
    intro t f1 f2 f7 f3 f4 f5 f6 bY bN fd cc lv ac tc ty tn md g1 g2 g3 g4 g5 g6 g7 th ts cn lz an mz fo h1 h2
    exact absurd h2 (by omega)
  | succ fu ih =>
    intro t f1 f2 f7 f3 f4 f5 f6 bY bN fd cc lv ac tc ty tn md g1 g2 g3 g4 g5 g6 g7 th ts cn lz an mz fo ht hin hJ H locs hP hD hS ls hl
    obtain ⟨e1, e2, e3, e4, e5, hI⟩ := hJ
    replace e1 := e1.symm
    replace e2 := e2.symm
    replace e3 := e3.symm
    replace e4 := e4.symm
    replace e5 := e5.symm
    subst e1
    subst e2
    subst e3
    subst e4
    subst e5
    refine lv_iload hx hb dL_law_23 (lv_at hl 0 rfl) ?_
    refine lv_aload_n hx hb dL_law_25 rfl (lv_at hl 1 rfl) ?_
    refine va_slen hx hb hX hbl hbA hS dL_law_26 ?_
    refine lv_iconst (v := 2) hx hb dL_law_27 (by decide) ?_
    refine lv_isub hx hb dL_law_28 ?_
    refine lv_icmp_gt (tgt := 735) hx hb dL_law_29 (by decide) (fun cb_1 => ?_) (fun cb_1 => ?_)
    · refine lv_iconst (v := 1) hx hb dL_law_735 (by decide) ?_
      refine va_forget (fun q hq => hS.2.2 q hq) ?_
      refine W.widen (k := 1056) (n := 21801) (by omega) (by omega) ?_
      exact lw_ret hx hb hr hlocks dL_law_736
    · have ht2 : 2 * t + 2 ≤ L := by
        rcases Nat.lt_or_ge L (2 * t + 2) with q | q
        · exact absurd ((y_end hL ht).mpr q) cb_1
        · exact q
      have next : ∀ (f1 f2 : Nat → Int32) (f7 : Nat → Int64) (f3 f4 f5 f6 : Nat → Int32) (bY bN : Int32) (fd : Int64) (cc lv ac tc : Nat) (ty tn md : Int32) (g1 g2 g3 g4 g5 : Nat → Int32) (g6 g7 : Nat → Int64) (th : Int32) (ts cn lz an : Nat) (mz : Int32) (fo : Nat → Int64), yzJ f1 f2 f7 f3 f4 g1 g2 g3 g4 g5 g6 g7 cc lv ac tc ty tn md ts cn lz an mz → ∀ (H : Heap) (locs : List Loc), va_P (dC, dI) vwCl [yO h hs q3 q4 (nI cc) (nI lv) (nI ac) (nI tc) ty tn md, sO hs q1 q2 q7 q5 q6 bY bN fd, (q1, .inl (k1, 420, .inl f1)), (q2, .inl (k2, 420, .inl f2)), (q7, .inl (k7, 420, .inr (.inl f7))), (q3, .inl (k3, 41, .inl f3)), (q4, .inl (k4, 18, .inl f4)), (q5, .inl (k5, 18, .inl f5)), (q6, .inl (k6, 18, .inl f6)), zO hz th r1 (nI ts) (nI cn) r2 r3 r4 (nI lz) r5 (nI an) mz r6 r7, (r1, .inl (n1, 18, .inl g1)), (r2, .inl (n2, 7200, .inl g2)), (r3, .inl (n3, 400, .inl g3)), (r4, .inl (n4, 400, .inl g4)), (r5, .inl (n5, 18, .inl g5)), (r6, .inl (n6, 4096, .inr (.inl g6))), (r7, .inl (n7, 6, .inr (.inl g7))), (qo, .inl (ko, 1, .inr (.inl fo)))] H → va_D (fun q : Nat => s.heap.size ≤ q) [yO h hs q3 q4 (nI cc) (nI lv) (nI ac) (nI tc) ty tn md, sO hs q1 q2 q7 q5 q6 bY bN fd, (q1, .inl (k1, 420, .inl f1)), (q2, .inl (k2, 420, .inl f2)), (q7, .inl (k7, 420, .inr (.inl f7))), (q3, .inl (k3, 41, .inl f3)), (q4, .inl (k4, 18, .inl f4)), (q5, .inl (k5, 18, .inl f5)), (q6, .inl (k6, 18, .inl f6)), zO hz th r1 (nI ts) (nI cn) r2 r3 r4 (nI lz) r5 (nI an) mz r6 r7, (r1, .inl (n1, 18, .inl g1)), (r2, .inl (n2, 7200, .inl g2)), (r3, .inl (n3, 400, .inl g3)), (r4, .inl (n4, 400, .inl g4)), (r5, .inl (n5, 18, .inl g5)), (r6, .inl (n6, 4096, .inr (.inl g6))), (r7, .inl (n7, 6, .inr (.inl g7))), (qo, .inl (ko, 1, .inr (.inl fo)))] → va_S (fun q : Nat => s.heap.size ≤ q) s.heap H locs → ∀ (ls : Array Slot), lv_has ls 7 [(4, .int (nI (2 * t))), (0, .ref b), (1, .ref h), (2, .ref hz), (3, .ref qo)] → W p l e room_1 s m #[Value.ref b] below meth c H locs (18 + t + 1) (13525 + 6 * t + 6) (lw_Z below #[Value.ref b] s) (F0 m 729 ls []) := by
        intro f1 f2 f7 f3 f4 f5 f6 bY bN fd cc lv ac tc ty tn md g1 g2 g3 g4 g5 g6 g7 th ts cn lz an mz fo hJ H locs hP hD hS ls hl
        refine lv_iinc (v := nI (2 * (t + 1))) (lv' := [(4, .int (nI (2 * (t + 1)))), (0, .ref b), (1, .ref h), (2, .ref hz), (3, .ref qo)]) hx hb dL_law_729 hl (k := 0) rfl (nI_add (2 * t) 2) (by decide) rfl (fun ls hl => ?_)
        refine lv_goto (tgt := 23) hx hb dL_law_732 (by decide) ?_
        refine W.widen (k := 18 + (t + 1)) (n := 13525 + 6 * (t + 1)) (by omega) (by omega) ?_
        exact ih (t + 1) f1 f2 f7 f3 f4 f5 f6 bY bN fd cc lv ac tc ty tn md g1 g2 g3 g4 g5 g6 g7 th ts cn lz an mz fo (by omega) (by omega) hJ H locs hP hD hS ls hl
      have hi0 : vp_in (nI (2 * t)) L := vp_in_nI (by omega) (by omega)
      refine lv_aload_n hx hb dL_law_32 rfl (lv_at hl 1 rfl) ?_
      refine lv_iload hx hb dL_law_33 (lv_at hl 0 rfl) ?_
      refine va_sld hx hb hX hbl hbA hS hi0 dL_law_35 ?_
      refine lv_bipush (v := 15) hx hb dL_law_36 (by decide) ?_
      refine lv_iand hx hb dL_law_38 ?_
      obtain ⟨j, hj, ej⟩ := pk_andE (xs (nI (2 * t)).toNatClampNeg) (m := 15) 4 (by decide)
      refine W.eq (g2 := F0 m 39 ls [.int (nI j)]) (by rw [ej]) ?_
      match j, hj with
      | 0, _ =>
        refine lv_tableIn (tgt := 108) hx hb dL_law_39 (by decide) (by decide) rfl (by decide) ?_
        exact law_case0 hl9 C0 hEX hNC hK hL ht2 next hI hP hD hS hl
      | 1, _ =>
        refine lv_tableIn (tgt := 164) hx hb dL_law_39 (by decide) (by decide) rfl (by decide) ?_
        exact law_case1 hl9 C0 hEX hNC hK hL ht2 next hI hP hD hS hl
      | 2, _ =>
        refine lv_tableIn (tgt := 208) hx hb dL_law_39 (by decide) (by decide) rfl (by decide) ?_
        exact law_case2 hl9 C0 hEX hNC hK hL ht2 next hI hP hD hS hl
      | 3, _ =>
        refine lv_tableIn (tgt := 252) hx hb dL_law_39 (by decide) (by decide) rfl (by decide) ?_
        exact law_case3 hl9 C0 hEX hNC hK hL ht2 next hI hP hD hS hl
      | 4, _ =>
        refine lv_tableIn (tgt := 296) hx hb dL_law_39 (by decide) (by decide) rfl (by decide) ?_
        exact law_case4 hl9 C0 hEX hNC hK hL ht2 next hI hP hD hS hl
      | 5, _ =>
        refine lv_tableIn (tgt := 352) hx hb dL_law_39 (by decide) (by decide) rfl (by decide) ?_
        exact law_case5 hl9 C0 hEX hNC hK hL ht2 next hI hP hD hS hl
      | 6, _ =>
        refine lv_tableIn (tgt := 365) hx hb dL_law_39 (by decide) (by decide) rfl (by decide) ?_
        exact law_case6 hl9 C0 hEX hNC hK hL ht2 next hI hP hD hS hl
      | 7, _ =>
        refine lv_tableIn (tgt := 378) hx hb dL_law_39 (by decide) (by decide) rfl (by decide) ?_
        exact law_case7 hl9 C0 hEX hNC hK hL ht2 next hI hP hD hS hl
      | 8, _ =>
        refine lv_tableIn (tgt := 422) hx hb dL_law_39 (by decide) (by decide) rfl (by decide) ?_
        exact law_case8 hl9 C0 hEX hNC hK hL ht2 next hI hP hD hS hl
      | 9, _ =>
        refine lv_tableIn (tgt := 435) hx hb dL_law_39 (by decide) (by decide) rfl (by decide) ?_
        exact law_case9 hl9 C0 hEX hNC hK hL ht2 next hI hP hD hS hl
      | 10, _ =>
        refine lv_tableIn (tgt := 498) hx hb dL_law_39 (by decide) (by decide) rfl (by decide) ?_
        exact law_case10 hl9 C0 hEX hNC hK hL ht2 next hI hP hD hS hl
      | 11, _ =>
        refine lv_tableIn (tgt := 561) hx hb dL_law_39 (by decide) (by decide) rfl (by decide) ?_
        exact law_case11 hl9 C0 hEX hNC hK hL ht2 next hI hP hD hS hl
      | 12, _ =>
        refine lv_tableIn (tgt := 617) hx hb dL_law_39 (by decide) (by decide) rfl (by decide) ?_
        exact law_case12 hl9 C0 hEX hNC hK hL ht2 next hI hP hD hS hl
      | 13, _ =>
        refine lv_tableIn (tgt := 673) hx hb dL_law_39 (by decide) (by decide) rfl (by decide) ?_
        exact law_case13 hl9 C0 hEX hNC hK hL ht2 next hI hP hD hS hl
      | 14, _ =>
        refine lv_tableOut (tgt := 729) hx hb dL_law_39 (Or.inr (by decide)) (by decide) ?_
        refine W.widen (k := 18 + t + 1) (n := 13525 + 6 * t + 6) (by omega) (by omega) ?_
        exact next _ _ _ _ _ _ _ _ _ _ _ _ _ _ _ _ _ _ _ _ _ _ _ _ _ _ _ _ _ _ _ hI.J _ _ hP hD hS ls hl
      | 15, _ =>
        refine lv_tableOut (tgt := 729) hx hb dL_law_39 (Or.inr (by decide)) (by decide) ?_
        refine W.widen (k := 18 + t + 1) (n := 13525 + 6 * t + 6) (by omega) (by omega) ?_
        exact next _ _ _ _ _ _ _ _ _ _ _ _ _ _ _ _ _ _ _ _ _ _ _ _ _ _ _ _ _ _ _ hI.J _ _ hP hD hS ls hl
      | j + 16, hj => exact absurd hj (by omega)
