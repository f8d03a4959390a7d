set_option maxHeartbeats 4000000 in
set_option maxRecDepth 100000 in
theorem r_count (l : Launch) (dC : Nat → ClassId) (dI : Nat → Nat → Nat) (h : Nat) (q1 : Nat) (q2 : Nat) (q3 : Nat) (q4 : Nat) (q5 : Nat) (q6 : Nat) (q7 : Nat) (k1 : ClassId) (k2 : ClassId) (k3 : ClassId) (k4 : ClassId) (k5 : ClassId) (k6 : ClassId) (k7 : ClassId) (f1 : Nat → Int32) (f2 : Nat → Int32) (f3 : Nat → Int32) (f4 : Nat → Int32) (f5 : Nat → Int32) (f6 : Nat → Int64) (f7 : Nat → Int64) (th : Int32) (ts : Nat) (cn : Nat) (lv : Nat) (an : Nat) (md : Int32) (p0 : Int32) (sz : Nat) (han : an ≤ 18) (hlit : ∀ j, j < an → yLit (f5 j)) (h7 : zIn f7) : Met l yX1_count wsX1_count ({ frames := 3, cells := 0, slots := 0, locals := 120 }) (va_Pc [.ref h, .int p0] (fun U => U.heap.size = sz ∧ va_P (dC, dI) vwCl [zO h th q1 (nI ts) (nI cn) q2 q3 q4 (nI lv) q5 (nI an) md q6 q7, (q1, .inl (k1, 18, .inl f1)), (q2, .inl (k2, 7200, .inl f2)), (q3, .inl (k3, 400, .inl f3)), (q4, .inl (k4, 400, .inl f4)), (q5, .inl (k5, 18, .inl f5)), (q6, .inl (k6, 4096, .inr (.inl f6))), (q7, .inl (k7, 6, .inr (.inl f7)))] U.heap ∧ va_K (dC, dI) vwCl [(k1, .int), (k2, .int), (k3, .int), (k4, .int), (k5, .int), (k6, .long), (k7, .long)] U ∧ va_D (fun _ => True) [zO h th q1 (nI ts) (nI cn) q2 q3 q4 (nI lv) q5 (nI an) md q6 q7, (q1, .inl (k1, 18, .inl f1)), (q2, .inl (k2, 7200, .inl f2)), (q3, .inl (k3, 400, .inl f3)), (q4, .inl (k4, 400, .inl f4)), (q5, .inl (k5, 18, .inl f5)), (q6, .inl (k6, 4096, .inr (.inl f6))), (q7, .inl (k7, 6, .inr (.inl f7)))])) (va_Qi (fun (r : Int32) (u : Int32) => ((p0 < 1 ∨ 64 < p0) ∧ u = 1) ∨ (∃ n1, 1 ≤ n1 ∧ n1 ≤ 64 ∧ p0 = nI n1 ∧ u = 0 ∧ r = nI (min n1 (yN (zP f5 f6 an (-1)) 262144)))) (fun (u : Int32) (t : State) => va_P (dC, dI) vwCl [zO h u q1 (nI ts) (nI cn) q2 q3 q4 (nI lv) q5 (nI an) md q6 q7, (q1, .inl (k1, 18, .inl f1)), (q2, .inl (k2, 7200, .inl f2)), (q3, .inl (k3, 400, .inl f3)), (q4, .inl (k4, 400, .inl f4)), (q5, .inl (k5, 18, .inl f5)), (q6, .inl (k6, 4096, .inr (.inl f6))), (q7, .inl (k7, 6, .inr (.inl f7)))] t.heap ∧ va_K (dC, dI) vwCl [(k1, .int), (k2, .int), (k3, .int), (k4, .int), (k5, .int), (k6, .long), (k7, .long)] t ∧ va_D (va_A [zO h th q1 (nI ts) (nI cn) q2 q3 q4 (nI lv) q5 (nI an) md q6 q7, (q1, .inl (k1, 18, .inl f1)), (q2, .inl (k2, 7200, .inl f2)), (q3, .inl (k3, 400, .inl f3)), (q4, .inl (k4, 400, .inl f4)), (q5, .inl (k5, 18, .inl f5)), (q6, .inl (k6, 4096, .inr (.inl f6))), (q7, .inl (k7, 6, .inr (.inl f7)))] sz) [zO h u q1 (nI ts) (nI cn) q2 q3 q4 (nI lv) q5 (nI an) md q6 q7, (q1, .inl (k1, 18, .inl f1)), (q2, .inl (k2, 7200, .inl f2)), (q3, .inl (k3, 400, .inl f3)), (q4, .inl (k4, 400, .inl f4)), (q5, .inl (k5, 18, .inl f5)), (q6, .inl (k6, 4096, .inr (.inl f6))), (q7, .inl (k7, 6, .inr (.inl f7)))]) (va_A [zO h th q1 (nI ts) (nI cn) q2 q3 q4 (nI lv) q5 (nI an) md q6 q7, (q1, .inl (k1, 18, .inl f1)), (q2, .inl (k2, 7200, .inl f2)), (q3, .inl (k3, 400, .inl f3)), (q4, .inl (k4, 400, .inl f4)), (q5, .inl (k5, 18, .inl f5)), (q6, .inl (k6, 4096, .inr (.inl f6))), (q7, .inl (k7, 6, .inr (.inl f7)))] sz)) 0 0 (va_A [zO h th q1 (nI ts) (nI cn) q2 q3 q4 (nI lv) q5 (nI an) md q6 q7, (q1, .inl (k1, 18, .inl f1)), (q2, .inl (k2, 7200, .inl f2)), (q3, .inl (k3, 400, .inl f3)), (q4, .inl (k4, 400, .inl f4)), (q5, .inl (k5, 18, .inl f5)), (q6, .inl (k6, 4096, .inr (.inl f6))), (q7, .inl (k7, 6, .inr (.inl f7)))] sz) := by
  refine Met.ofW (cc := cX1_count) (maxL := 7) (ret := (some .int)) (by decide) rfl ?_
  intro p e s m args below meth c s₁ B hml hv
  obtain ⟨rfl, hsz, hP, hK, hD0⟩ := hv
  have hx := B.exec
  have hb := B.bytes
  have hr := B.returns
  have hts := atoms_spec (ws := wsX1_count) B.pre
  have htA : ∀ w ∈ wsA, w.before _ s = true := fun w h => hts w (List.mem_cons_of_mem _ h)
  have hown : s.vm.findClass RX1 = some m.cls := findClass_of_methodNamed B.named
  have hlocks := B.notSynchronized
  subst hsz
  have hD := hD0.self (sz := s.heap.size)
  generalize hAe : va_A [zO h th q1 (nI ts) (nI cn) q2 q3 q4 (nI lv) q5 (nI an) md q6 q7, (q1, .inl (k1, 18, .inl f1)), (q2, .inl (k2, 7200, .inl f2)), (q3, .inl (k3, 400, .inl f3)), (q4, .inl (k4, 400, .inl f4)), (q5, .inl (k5, 18, .inl f5)), (q6, .inl (k6, 4096, .inr (.inl f6))), (q7, .inl (k7, 6, .inr (.inl f7)))] s.heap.size = A at hD ⊢
  have hA : ∀ q : Nat, s.heap.size ≤ q → A q := fun q h => by rw [← hAe]; exact Or.inr h
  have hS : va_S A s.heap s.heap [] := va_S.rf
  have hP : va_P (dC, dI) vwCl [zO h th q1 (nI ts) (nI cn) q2 q3 q4 (nI lv) q5 (nI an) md q6 q7, (q1, .inl (k1, 18, .inl f1)), (q2, .inl (k2, 7200, .inl f2)), (q3, .inl (k3, 400, .inl f3)), (q4, .inl (k4, 400, .inl f4)), (q5, .inl (k5, 18, .inl f5)), (q6, .inl (k6, 4096, .inr (.inl f6))), (q7, .inl (k7, 6, .inr (.inl f7)))] s.heap := hP
  have hl := lv_entry ([.ref h, .int p0]) (n := 7) (Nat.le_of_ble_eq_true rfl)
  rw [lg_entry_eq]
  generalize (lg_sl ([.ref h, .int p0]) ++ List.replicate (7 - (lg_sl ([.ref h, .int p0])).length) Slot.unset).toArray = ls at hl ⊢
  have hl : lv_has ls 7 [(0, .ref h), (1, .int p0)] := hl
  refine lv_aload_n hx hb dX1_count_0 rfl (lv_at hl 0 rfl) ?_
  refine lv_iload_n hx hb dX1_count_1 rfl (lv_at hl 1 rfl) ?_
  refine lv_iconst (v := 1) hx hb dX1_count_2 (by decide) ?_
  refine lv_icmp_lt (tgt := 12) hx hb dX1_count_3 (by decide) (fun cb_111 => ?_) (fun cb_111 => ?_)
  · refine lv_iconst (v := 1) hx hb dX1_count_12 (by decide) ?_
    refine lv_goto (tgt := 17) hx hb dX1_count_13 (by decide) ?_
    refine lv_iconst (v := 0) hx hb dX1_count_17 (by decide) ?_
    have hPc := hP.sub (ws' := [zO h th q1 (nI ts) (nI cn) q2 q3 q4 (nI lv) q5 (nI an) md q6 q7]) [0] rfl
    have hDc := hD.sub (ws' := [zO h th q1 (nI ts) (nI cn) q2 q3 q4 (nI lv) q5 (nI an) md q6 q7]) [0] (by decide) rfl
    have hKc := hK.sub (tys' := []) [] rfl
    have hFc := va_free (wc := [zO h th q1 (nI ts) (nI cn) q2 q3 q4 (nI lv) q5 (nI an) md q6 q7]) hD hS hA [0] rfl
    refine va_calli (va_runV (As := [.int 1, .int 0]) (rest := []) ⟨hx, hb, hml, hown, htA⟩ (r_throwing l dC dI h q1 q2 q3 q4 q5 q6 q7   th (nI ts) (nI cn) (nI lv) (nI an) md 1 0 s.heap.size) (cwV 2 htA gX1_80 rfl rfl rfl (by decide +kernel) ⟨Nat.le_of_ble_eq_true rfl, Nat.le_of_ble_eq_true rfl⟩) ⟨fun a U g mk q => by obtain ⟨q0, q1, qP, qK, qD⟩ := q; exact ⟨q0, q1, qP, va_K.moved (u := U) (U := U.calling g mk a) (Vm.Alike.refl U.vm) qK, qD⟩, va_recv hKc hPc (ci := 1) (q0 := 0) rfl rfl, fun U hU hW => ⟨rfl, by rw [hU], by rw [hU]; exact hPc, va_K.moved hW.alike hKc, hDc.weaken (fun _ _ _ _ => trivial)⟩⟩ rfl rfl hl.1 rfl (lv_room (Nat.le_of_ble_eq_true rfl)) dX1_count_18 ⟨Nat.zero_le _, Nat.zero_le _⟩) hS (fun q _ h => hFc q h) hFc (fun rth u t H1 locs ht hvm hw hB hz1 hk1 hS => ?_)
    obtain ⟨hP1, hK1, hD1⟩ := hB
    rw [ht] at hP1
    try dsimp only at hw hP1 hD1
    obtain ⟨hP, hD⟩ := va_join (wr := [(q1, .inl (k1, 18, .inl f1)), (q2, .inl (k2, 7200, .inl f2)), (q3, .inl (k3, 400, .inl f3)), (q4, .inl (k4, 400, .inl f4)), (q5, .inl (k5, 18, .inl f5)), (q6, .inl (k6, 4096, .inr (.inl f6))), (q7, .inl (k7, 6, .inr (.inl f7)))]) (w1 := [zO h u q1 (nI ts) (nI cn) q2 q3 q4 (nI lv) q5 (nI an) md q6 q7]) hP hD [0] [1, 2, 3, 4, 5, 6, 7] rfl rfl (by decide) (by decide) hk1 hFc hP1 hD1
    generalize H1 = H at hP hS ⊢
    have hP : va_P (dC, dI) vwCl [zO h u q1 (nI ts) (nI cn) q2 q3 q4 (nI lv) q5 (nI an) md q6 q7, (q1, .inl (k1, 18, .inl f1)), (q2, .inl (k2, 7200, .inl f2)), (q3, .inl (k3, 400, .inl f3)), (q4, .inl (k4, 400, .inl f4)), (q5, .inl (k5, 18, .inl f5)), (q6, .inl (k6, 4096, .inr (.inl f6))), (q7, .inl (k7, 6, .inr (.inl f7)))] H := hP.sub [7, 0, 1, 2, 3, 4, 5, 6] rfl
    have hD : va_D A [zO h u q1 (nI ts) (nI cn) q2 q3 q4 (nI lv) q5 (nI an) md q6 q7, (q1, .inl (k1, 18, .inl f1)), (q2, .inl (k2, 7200, .inl f2)), (q3, .inl (k3, 400, .inl f3)), (q4, .inl (k4, 400, .inl f4)), (q5, .inl (k5, 18, .inl f5)), (q6, .inl (k6, 4096, .inr (.inl f6))), (q7, .inl (k7, 6, .inr (.inl f7)))] := hD.sub [7, 0, 1, 2, 3, 4, 5, 6] (by decide) rfl
    obtain ⟨hu9, hr9⟩ : u = 1 ∧ rth = 1 := by
      rcases hw with h | h | h
      · exact h.2
      · exact absurd h.1 (by decide)
      · exact absurd h.1 (by decide)
    subst hu9
    subst hr9
    refine lv_if_eq (tgt := 26) hx hb dX1_count_21 (by decide) (fun cb_112 => ?_) (fun cb_112 => ?_)
    · exact absurd cb_112 (by decide)
    · refine lv_iconst (v := 0) hx hb dX1_count_24 (by decide) ?_
      exact W.iret (v := 0) hx hb hr (fun t ht hW => ⟨⟨0, 1, rfl, Or.inl ⟨Or.inl cb_111, rfl⟩, by rw [ht]; exact hP, va_K.moved hW.alike hK, hD⟩, hS.F ht⟩) hS.2.2 dX1_count_25
  · refine lv_iload_n hx hb dX1_count_6 rfl (lv_at hl 1 rfl) ?_
    refine lv_bipush (v := 64) hx hb dX1_count_7 (by decide) ?_
    refine lv_icmp_le (tgt := 16) hx hb dX1_count_9 (by decide) (fun cb_113 => ?_) (fun cb_113 => ?_)
    · obtain ⟨n0, hn1, hn2, ep0⟩ := y_rng (m := 64) (by decide) cb_111 cb_113
      refine lv_iconst (v := 0) hx hb dX1_count_16 (by decide) ?_
      refine lv_iconst (v := 0) hx hb dX1_count_17 (by decide) ?_
      have hPc := hP.sub (ws' := [zO h th q1 (nI ts) (nI cn) q2 q3 q4 (nI lv) q5 (nI an) md q6 q7]) [0] rfl
      have hDc := hD.sub (ws' := [zO h th q1 (nI ts) (nI cn) q2 q3 q4 (nI lv) q5 (nI an) md q6 q7]) [0] (by decide) rfl
      have hKc := hK.sub (tys' := []) [] rfl
      have hFc := va_free (wc := [zO h th q1 (nI ts) (nI cn) q2 q3 q4 (nI lv) q5 (nI an) md q6 q7]) hD hS hA [0] rfl
      refine va_calli (va_runV (As := [.int 0, .int 0]) (rest := []) ⟨hx, hb, hml, hown, htA⟩ (r_throwing l dC dI h q1 q2 q3 q4 q5 q6 q7   th (nI ts) (nI cn) (nI lv) (nI an) md 0 0 s.heap.size) (cwV 2 htA gX1_80 rfl rfl rfl (by decide +kernel) ⟨Nat.le_of_ble_eq_true rfl, Nat.le_of_ble_eq_true rfl⟩) ⟨fun a U g mk q => by obtain ⟨q0, q1, qP, qK, qD⟩ := q; exact ⟨q0, q1, qP, va_K.moved (u := U) (U := U.calling g mk a) (Vm.Alike.refl U.vm) qK, qD⟩, va_recv hKc hPc (ci := 1) (q0 := 0) rfl rfl, fun U hU hW => ⟨rfl, by rw [hU], by rw [hU]; exact hPc, va_K.moved hW.alike hKc, hDc.weaken (fun _ _ _ _ => trivial)⟩⟩ rfl rfl hl.1 rfl (lv_room (Nat.le_of_ble_eq_true rfl)) dX1_count_18 ⟨Nat.zero_le _, Nat.zero_le _⟩) hS (fun q _ h => hFc q h) hFc (fun rth u t H1 locs ht hvm hw hB hz1 hk1 hS => ?_)
      obtain ⟨hP1, hK1, hD1⟩ := hB
      rw [ht] at hP1
      try dsimp only at hw hP1 hD1
      obtain ⟨hP, hD⟩ := va_join (wr := [(q1, .inl (k1, 18, .inl f1)), (q2, .inl (k2, 7200, .inl f2)), (q3, .inl (k3, 400, .inl f3)), (q4, .inl (k4, 400, .inl f4)), (q5, .inl (k5, 18, .inl f5)), (q6, .inl (k6, 4096, .inr (.inl f6))), (q7, .inl (k7, 6, .inr (.inl f7)))]) (w1 := [zO h u q1 (nI ts) (nI cn) q2 q3 q4 (nI lv) q5 (nI an) md q6 q7]) hP hD [0] [1, 2, 3, 4, 5, 6, 7] rfl rfl (by decide) (by decide) hk1 hFc hP1 hD1
      generalize H1 = H at hP hS ⊢
      have hP : va_P (dC, dI) vwCl [zO h u q1 (nI ts) (nI cn) q2 q3 q4 (nI lv) q5 (nI an) md q6 q7, (q1, .inl (k1, 18, .inl f1)), (q2, .inl (k2, 7200, .inl f2)), (q3, .inl (k3, 400, .inl f3)), (q4, .inl (k4, 400, .inl f4)), (q5, .inl (k5, 18, .inl f5)), (q6, .inl (k6, 4096, .inr (.inl f6))), (q7, .inl (k7, 6, .inr (.inl f7)))] H := hP.sub [7, 0, 1, 2, 3, 4, 5, 6] rfl
      have hD : va_D A [zO h u q1 (nI ts) (nI cn) q2 q3 q4 (nI lv) q5 (nI an) md q6 q7, (q1, .inl (k1, 18, .inl f1)), (q2, .inl (k2, 7200, .inl f2)), (q3, .inl (k3, 400, .inl f3)), (q4, .inl (k4, 400, .inl f4)), (q5, .inl (k5, 18, .inl f5)), (q6, .inl (k6, 4096, .inr (.inl f6))), (q7, .inl (k7, 6, .inr (.inl f7)))] := hD.sub [7, 0, 1, 2, 3, 4, 5, 6] (by decide) rfl
      obtain ⟨hu9, hr9⟩ : u = 0 ∧ rth = 0 := by
        rcases hw with h | h | h
        · exact absurd rfl h.1
        · exact absurd rfl h.2.1
        · exact h.2.2
      subst hu9
      subst hr9
      refine lv_if_eq (tgt := 26) hx hb dX1_count_21 (by decide) (fun cb_115 => ?_) (fun cb_115 => ?_)
      · refine lv_iconst (v := 0) hx hb dX1_count_26 (by decide) ?_
        refine lv_istore_n (lv' := [(2, .int 0), (0, .ref h), (1, .int p0)]) hx hb dX1_count_27 rfl hl (by decide) rfl (fun ls hl => ?_)
        refine lv_iconst (v := 0) hx hb dX1_count_28 (by decide) ?_
        refine lv_istore_n (lv' := [(3, .int 0), (2, .int 0), (0, .ref h), (1, .int p0)]) hx hb dX1_count_29 rfl hl (by decide) rfl (fun ls hl => ?_)
        have loop : ∀ (fu w : Nat), w ≤ 4096 → 4097 ≤ w + fu → ∀ (H : Heap) (locs : List Loc), va_P (dC, dI) vwCl [zO h 0 q1 (nI ts) (nI cn) q2 q3 q4 (nI lv) q5 (nI an) md q6 q7, (q1, .inl (k1, 18, .inl f1)), (q2, .inl (k2, 7200, .inl f2)), (q3, .inl (k3, 400, .inl f3)), (q4, .inl (k4, 400, .inl f4)), (q5, .inl (k5, 18, .inl f5)), (q6, .inl (k6, 4096, .inr (.inl f6))), (q7, .inl (k7, 6, .inr (.inl f7)))] H → va_D A [zO h 0 q1 (nI ts) (nI cn) q2 q3 q4 (nI lv) q5 (nI an) md q6 q7, (q1, .inl (k1, 18, .inl f1)), (q2, .inl (k2, 7200, .inl f2)), (q3, .inl (k3, 400, .inl f3)), (q4, .inl (k4, 400, .inl f4)), (q5, .inl (k5, 18, .inl f5)), (q6, .inl (k6, 4096, .inr (.inl f6))), (q7, .inl (k7, 6, .inr (.inl f7)))] → va_S A s.heap H locs → ∀ (ls : Array Slot), lv_has ls 7 [(3, .int (nI w)), (2, .int (nI (yN (zP f5 f6 an (-1)) (64 * w)))), (0, .ref h), (1, .int p0)] → W p l e (headSpec wsX1_count ({ frames := 3, cells := 0, slots := 0, locals := 120 })).room s m ([.ref h, .int p0] : List Value).toArray below meth c H locs 0 0 (MQ below (va_Qi (fun (r : Int32) (u : Int32) => ((p0 < 1 ∨ 64 < p0) ∧ u = 1) ∨ (∃ n1, 1 ≤ n1 ∧ n1 ≤ 64 ∧ p0 = nI n1 ∧ u = 0 ∧ r = nI (min n1 (yN (zP f5 f6 an (-1)) 262144)))) (fun (u : Int32) (t : State) => va_P (dC, dI) vwCl [zO h u q1 (nI ts) (nI cn) q2 q3 q4 (nI lv) q5 (nI an) md q6 q7, (q1, .inl (k1, 18, .inl f1)), (q2, .inl (k2, 7200, .inl f2)), (q3, .inl (k3, 400, .inl f3)), (q4, .inl (k4, 400, .inl f4)), (q5, .inl (k5, 18, .inl f5)), (q6, .inl (k6, 4096, .inr (.inl f6))), (q7, .inl (k7, 6, .inr (.inl f7)))] t.heap ∧ va_K (dC, dI) vwCl [(k1, .int), (k2, .int), (k3, .int), (k4, .int), (k5, .int), (k6, .long), (k7, .long)] t ∧ va_D A [zO h u q1 (nI ts) (nI cn) q2 q3 q4 (nI lv) q5 (nI an) md q6 q7, (q1, .inl (k1, 18, .inl f1)), (q2, .inl (k2, 7200, .inl f2)), (q3, .inl (k3, 400, .inl f3)), (q4, .inl (k4, 400, .inl f4)), (q5, .inl (k5, 18, .inl f5)), (q6, .inl (k6, 4096, .inr (.inl f6))), (q7, .inl (k7, 6, .inr (.inl f7)))]) A) ([.ref h, .int p0] : List Value).toArray s 0 0 A) (F0 m 30 ls []) := by
          intro fu
          induction fu with
          | zero =>
            intro w h1 h2
            exact absurd h2 (by omega)
          | succ fu ih =>
            intro w hw hin H locs hP hD hS ls hl
            have hbd : yN (zP f5 f6 an (-1)) (64 * w) ≤ 64 * w := yN_bd
            have hmo : yN (zP f5 f6 an (-1)) (64 * w) ≤ yN (zP f5 f6 an (-1)) 262144 := yN_le (by omega)
            refine lv_iload_n hx hb dX1_count_30 rfl (lv_at hl 0 rfl) ?_
            refine lv_sipush (v := 4096) hx hb dX1_count_31 (by decide) ?_
            refine lv_icmp_ge (tgt := 83) hx hb dX1_count_34 (by decide) (fun cb_116 => ?_) (fun cb_116 => ?_)
            · have hwe : 64 * w = 262144 := by
                rcases Nat.lt_or_ge w 4096 with q | q
                · exact absurd cb_116 (nI_ge (b := 4096) q (by omega))
                · omega
              refine lv_iload_n hx hb dX1_count_83 rfl (lv_at hl 1 rfl) ?_
              refine lv_iload_n hx hb dX1_count_84 rfl (lv_at hl 3 rfl) ?_
              refine lv_icmp_ge (tgt := 92) hx hb dX1_count_85 (by decide) (fun cb_117 => ?_) (fun cb_117 => ?_)
              · have hge : n0 ≤ yN (zP f5 f6 an (-1)) (64 * w) := by
                  rw [ep0] at cb_117
                  exact (nI_leI (by omega) (by omega)).mp cb_117
                refine lv_iload_n hx hb dX1_count_92 rfl (lv_at hl 3 rfl) ?_
                exact W.iret (v := p0) hx hb hr (fun t ht hW => ⟨⟨p0, 0, rfl, Or.inr ⟨n0, hn1, hn2, ep0, rfl, by rw [ep0, Nat.min_eq_left (by omega)]⟩, by rw [ht]; exact hP, va_K.moved hW.alike hK, hD⟩, hS.F ht⟩) hS.2.2 dX1_count_93
              · have hge : yN (zP f5 f6 an (-1)) (64 * w) < n0 := by
                  rcases Nat.lt_or_ge (yN (zP f5 f6 an (-1)) (64 * w)) n0 with q | q
                  · exact q
                  · exact absurd (by rw [ep0]; exact nI_le q (by omega)) cb_117
                refine lv_iload_n hx hb dX1_count_88 rfl (lv_at hl 1 rfl) ?_
                refine lv_goto (tgt := 93) hx hb dX1_count_89 (by decide) ?_
                exact W.iret (v := nI (yN (zP f5 f6 an (-1)) (64 * w))) hx hb hr (fun t ht hW => ⟨⟨nI (yN (zP f5 f6 an (-1)) (64 * w)), 0, rfl, Or.inr ⟨n0, hn1, hn2, ep0, rfl, by rw [hwe] at hge ⊢; rw [Nat.min_eq_right (by omega)]⟩, by rw [ht]; exact hP, va_K.moved hW.alike hK, hD⟩, hS.F ht⟩) hS.2.2 dX1_count_93
            · have hlt : w < 4096 := by
                rcases Nat.lt_or_ge w 4096 with q | q
                · exact q
                · exact absurd (nI_le (a := 4096) q (by omega)) cb_116
              refine lv_iload_n hx hb dX1_count_37 rfl (lv_at hl 1 rfl) ?_
              refine lv_iload_n hx hb dX1_count_38 rfl (lv_at hl 3 rfl) ?_
              refine lv_icmp_ge (tgt := 83) hx hb dX1_count_39 (by decide) (fun cb_118 => ?_) (fun cb_118 => ?_)
              · refine lv_iload_n hx hb dX1_count_83 rfl (lv_at hl 1 rfl) ?_
                refine lv_iload_n hx hb dX1_count_84 rfl (lv_at hl 3 rfl) ?_
                refine lv_icmp_ge (tgt := 92) hx hb dX1_count_85 (by decide) (fun cb_119 => ?_) (fun cb_119 => ?_)
                · have hge : n0 ≤ yN (zP f5 f6 an (-1)) (64 * w) := by
                    rw [ep0] at cb_119
                    exact (nI_leI (by omega) (by omega)).mp cb_119
                  refine lv_iload_n hx hb dX1_count_92 rfl (lv_at hl 3 rfl) ?_
                  exact W.iret (v := p0) hx hb hr (fun t ht hW => ⟨⟨p0, 0, rfl, Or.inr ⟨n0, hn1, hn2, ep0, rfl, by rw [ep0, Nat.min_eq_left (by omega)]⟩, by rw [ht]; exact hP, va_K.moved hW.alike hK, hD⟩, hS.F ht⟩) hS.2.2 dX1_count_93
                · have hge : yN (zP f5 f6 an (-1)) (64 * w) < n0 := by
                    rcases Nat.lt_or_ge (yN (zP f5 f6 an (-1)) (64 * w)) n0 with q | q
                    · exact q
                    · exact absurd (by rw [ep0]; exact nI_le q (by omega)) cb_119
                  exact absurd (by rw [ep0] at cb_118; exact (nI_leI (by omega) (by omega)).mp cb_118) (Nat.not_le.mpr hge)
              · refine lv_aload_n hx hb dX1_count_42 rfl (lv_at hl 2 rfl) ?_
                refine lv_iload_n hx hb dX1_count_43 rfl (lv_at hl 0 rfl) ?_
                refine lv_iconst (v := (-1)) hx hb dX1_count_44 (by decide) ?_
                have hPc := hP.sub (ws' := [zO h 0 q1 (nI ts) (nI cn) q2 q3 q4 (nI lv) q5 (nI an) md q6 q7, (q5, .inl (k5, 18, .inl f5)), (q6, .inl (k6, 4096, .inr (.inl f6))), (q7, .inl (k7, 6, .inr (.inl f7)))]) [0, 5, 6, 7] rfl
                have hDc := hD.sub (ws' := [zO h 0 q1 (nI ts) (nI cn) q2 q3 q4 (nI lv) q5 (nI an) md q6 q7, (q5, .inl (k5, 18, .inl f5)), (q6, .inl (k6, 4096, .inr (.inl f6))), (q7, .inl (k7, 6, .inr (.inl f7)))]) [0, 5, 6, 7] (by decide) rfl
                have hKc := hK.sub (tys' := [(k5, .int), (k6, .long), (k7, .long)]) [4, 5, 6] rfl
                have hFc := va_free (wc := [zO h 0 q1 (nI ts) (nI cn) q2 q3 q4 (nI lv) q5 (nI an) md q6 q7, (q5, .inl (k5, 18, .inl f5)), (q6, .inl (k6, 4096, .inr (.inl f6))), (q7, .inl (k7, 6, .inr (.inl f7)))]) hD hS hA [0, 5, 6, 7] rfl
                refine va_calll (va_runV (As := [.int (nI w), .int (-1)]) (rest := []) ⟨hx, hb, hml, hown, htA⟩ (r_word l dC dI h q1 q2 q3 q4 q5 q6 q7 k5 k6 k7 f5 f6 f7 0 (nI ts) (nI cn) (nI lv) an md w (-1) H.size hlt han hlit h7) (cwV 2 htA gX1_70 rfl rfl rfl (by decide +kernel) ⟨Nat.le_of_ble_eq_true rfl, Nat.le_of_ble_eq_true rfl⟩) ⟨fun a U g mk q => by obtain ⟨q0, q1, qP, qK, qD⟩ := q; exact ⟨q0, q1, qP, va_K.moved (u := U) (U := U.calling g mk a) (Vm.Alike.refl U.vm) qK, qD⟩, va_recv hKc hPc (ci := 1) (q0 := 0) rfl rfl, fun U hU hW => ⟨rfl, by rw [hU], by rw [hU]; exact hPc, va_K.moved hW.alike hKc, hDc.weaken (fun _ _ _ _ => trivial)⟩⟩ rfl rfl hl.1 rfl (lv_room (Nat.le_of_ble_eq_true rfl)) dX1_count_45 ⟨Nat.zero_le _, Nat.zero_le _⟩) hS (fun q _ h => hFc q h) hFc (fun rw u t H1 locs ht hvm hw hB hz1 hk1 hS => ?_)
                obtain ⟨hP1, hK1, hD1⟩ := hB
                rw [ht] at hP1
                try dsimp only at hw hP1 hD1
                obtain ⟨hP, hD⟩ := va_join (wr := [(q1, .inl (k1, 18, .inl f1)), (q2, .inl (k2, 7200, .inl f2)), (q3, .inl (k3, 400, .inl f3)), (q4, .inl (k4, 400, .inl f4))]) (w1 := [zO h 0 q1 (nI ts) (nI cn) q2 q3 q4 (nI lv) q5 (nI an) md q6 q7, (q5, .inl (k5, 18, .inl f5)), (q6, .inl (k6, 4096, .inr (.inl f6))), (q7, .inl (k7, 6, .inr (.inl f7)))]) hP hD [0, 5, 6, 7] [1, 2, 3, 4] rfl rfl (by decide) (by decide) hk1 hFc hP1 hD1
                generalize H1 = H at hP hS ⊢
                have hP : va_P (dC, dI) vwCl [zO h 0 q1 (nI ts) (nI cn) q2 q3 q4 (nI lv) q5 (nI an) md q6 q7, (q1, .inl (k1, 18, .inl f1)), (q2, .inl (k2, 7200, .inl f2)), (q3, .inl (k3, 400, .inl f3)), (q4, .inl (k4, 400, .inl f4)), (q5, .inl (k5, 18, .inl f5)), (q6, .inl (k6, 4096, .inr (.inl f6))), (q7, .inl (k7, 6, .inr (.inl f7)))] H := hP.sub [4, 0, 1, 2, 3, 5, 6, 7] rfl
                have hD : va_D A [zO h 0 q1 (nI ts) (nI cn) q2 q3 q4 (nI lv) q5 (nI an) md q6 q7, (q1, .inl (k1, 18, .inl f1)), (q2, .inl (k2, 7200, .inl f2)), (q3, .inl (k3, 400, .inl f3)), (q4, .inl (k4, 400, .inl f4)), (q5, .inl (k5, 18, .inl f5)), (q6, .inl (k6, 4096, .inr (.inl f6))), (q7, .inl (k7, 6, .inr (.inl f7)))] := hD.sub [4, 0, 1, 2, 3, 5, 6, 7] (by decide) rfl
                refine lv_lstore (lv' := [(4, .long rw), (3, .int (nI w)), (2, .int (nI (yN (zP f5 f6 an (-1)) (64 * w)))), (0, .ref h), (1, .int p0)]) hx hb dX1_count_48 hl (by decide) rfl (fun ls hl => ?_)
                refine lv_iconst (v := 0) hx hb dX1_count_50 (by decide) ?_
                refine lv_istore (lv' := [(6, .int 0), (4, .long rw), (3, .int (nI w)), (2, .int (nI (yN (zP f5 f6 an (-1)) (64 * w)))), (0, .ref h), (1, .int p0)]) hx hb dX1_count_51 hl (by decide) rfl (fun ls hl => ?_)
                have inner : ∀ (fv k : Nat), k ≤ 64 → 65 ≤ k + fv → ∀ (ls : Array Slot), lv_has ls 7 [(6, .int (nI k)), (4, .long rw), (3, .int (nI w)), (2, .int (nI (yN (zP f5 f6 an (-1)) (64 * w + k)))), (0, .ref h), (1, .int p0)] → W p l e (headSpec wsX1_count ({ frames := 3, cells := 0, slots := 0, locals := 120 })).room s m ([.ref h, .int p0] : List Value).toArray below meth c H locs 0 0 (MQ below (va_Qi (fun (r : Int32) (u : Int32) => ((p0 < 1 ∨ 64 < p0) ∧ u = 1) ∨ (∃ n1, 1 ≤ n1 ∧ n1 ≤ 64 ∧ p0 = nI n1 ∧ u = 0 ∧ r = nI (min n1 (yN (zP f5 f6 an (-1)) 262144)))) (fun (u : Int32) (t : State) => va_P (dC, dI) vwCl [zO h u q1 (nI ts) (nI cn) q2 q3 q4 (nI lv) q5 (nI an) md q6 q7, (q1, .inl (k1, 18, .inl f1)), (q2, .inl (k2, 7200, .inl f2)), (q3, .inl (k3, 400, .inl f3)), (q4, .inl (k4, 400, .inl f4)), (q5, .inl (k5, 18, .inl f5)), (q6, .inl (k6, 4096, .inr (.inl f6))), (q7, .inl (k7, 6, .inr (.inl f7)))] t.heap ∧ va_K (dC, dI) vwCl [(k1, .int), (k2, .int), (k3, .int), (k4, .int), (k5, .int), (k6, .long), (k7, .long)] t ∧ va_D A [zO h u q1 (nI ts) (nI cn) q2 q3 q4 (nI lv) q5 (nI an) md q6 q7, (q1, .inl (k1, 18, .inl f1)), (q2, .inl (k2, 7200, .inl f2)), (q3, .inl (k3, 400, .inl f3)), (q4, .inl (k4, 400, .inl f4)), (q5, .inl (k5, 18, .inl f5)), (q6, .inl (k6, 4096, .inr (.inl f6))), (q7, .inl (k7, 6, .inr (.inl f7)))]) A) ([.ref h, .int p0] : List Value).toArray s 0 0 A) (F0 m 53 ls []) := by
                  intro fv
                  induction fv with
                  | zero =>
                    intro k h1 h2
                    exact absurd h2 (by omega)
                  | succ fv ih2 =>
                    intro k hk hkn ls hl
                    refine lv_iload hx hb dX1_count_53 (lv_at hl 0 rfl) ?_
                    refine lv_bipush (v := 64) hx hb dX1_count_55 (by decide) ?_
                    refine lv_icmp_ge (tgt := 77) hx hb dX1_count_57 (by decide) (fun cb_120 => ?_) (fun cb_120 => ?_)
                    · have hke : k = 64 := by
                        rcases Nat.lt_or_ge k 64 with q | q
                        · exact absurd cb_120 (nI_ge (b := 64) q (by omega))
                        · omega
                      refine lv_iinc (v := nI (w + 1)) (lv' := [(3, .int (nI (w + 1))), (6, .int (nI k)), (4, .long rw), (2, .int (nI (yN (zP f5 f6 an (-1)) (64 * w + k)))), (0, .ref h), (1, .int p0)]) hx hb dX1_count_77 hl (k := 2) rfl (nI_1 _) (by decide) rfl (fun ls hl => ?_)
                      refine lv_goto (tgt := 30) hx hb dX1_count_80 (by decide) ?_
                      refine ih (w + 1) hlt (by omega) _ _ hP hD hS ls ?_
                      rw [show 64 * (w + 1) = 64 * w + k by omega]
                      exact lv_sub hl [0, 3, 4, 5] rfl
                    · have hkl : k < 64 := by
                        rcases Nat.lt_or_ge k 64 with q | q
                        · exact q
                        · exact absurd (nI_le (a := 64) q (by omega)) cb_120
                      refine lv_iload_n hx hb dX1_count_60 rfl (lv_at hl 3 rfl) ?_
                      refine lv_lload hx hb dX1_count_61 (lv_at hl 1 rfl) ?_
                      refine lv_iload hx hb dX1_count_63 (lv_at hl 0 rfl) ?_
                      refine lv_lushr (v := (rw.toUInt64 >>> ((nI k).toInt64.toUInt64 &&& Int64.toUInt64 63)).toInt64) hx hb dX1_count_65 rfl ?_
                      refine lv_lconst (v := 1) hx hb dX1_count_66 (by decide) ?_
                      refine lv_land hx hb dX1_count_67 ?_
                      refine lv_l2i (v := (((rw.toUInt64 >>> ((nI k).toInt64.toUInt64 &&& Int64.toUInt64 63)).toInt64) &&& 1).toInt32) hx hb dX1_count_68 rfl ?_
                      refine lv_iadd hx hb dX1_count_69 ?_
                      refine W.eq (g2 := F0 m 70 ls [.int (nI (yN (zP f5 f6 an (-1)) (64 * w + (k + 1))))]) (by rw [z_cnt hw hkl]) ?_
                      refine lv_istore_n (lv' := [(2, .int (nI (yN (zP f5 f6 an (-1)) (64 * w + (k + 1))))), (6, .int (nI k)), (4, .long rw), (3, .int (nI w)), (0, .ref h), (1, .int p0)]) hx hb dX1_count_70 rfl hl (by decide) rfl (fun ls hl => ?_)
                      refine lv_iinc (v := nI (k + 1)) (lv' := [(6, .int (nI (k + 1))), (2, .int (nI (yN (zP f5 f6 an (-1)) (64 * w + (k + 1))))), (4, .long rw), (3, .int (nI w)), (0, .ref h), (1, .int p0)]) hx hb dX1_count_71 hl (k := 1) rfl (nI_1 _) (by decide) rfl (fun ls hl => ?_)
                      refine lv_goto (tgt := 53) hx hb dX1_count_74 (by decide) ?_
                      exact ih2 (k + 1) hkl (by omega) ls (lv_sub hl [0, 2, 3, 1, 4, 5] rfl)
                exact inner 65 0 (by omega) (by omega) ls (lv_sub hl [0, 1, 2, 3, 4, 5] rfl)
        exact loop 4097 0 (by omega) (by omega) _ _ hP hD hS ls (lv_sub hl [0, 1, 2, 3] rfl)
      · exact absurd rfl cb_115
    · refine lv_iconst (v := 1) hx hb dX1_count_12 (by decide) ?_
      refine lv_goto (tgt := 17) hx hb dX1_count_13 (by decide) ?_
      refine lv_iconst (v := 0) hx hb dX1_count_17 (by decide) ?_
      have hPc := hP.sub (ws' := [zO h th q1 (nI ts) (nI cn) q2 q3 q4 (nI lv) q5 (nI an) md q6 q7]) [0] rfl
      have hDc := hD.sub (ws' := [zO h th q1 (nI ts) (nI cn) q2 q3 q4 (nI lv) q5 (nI an) md q6 q7]) [0] (by decide) rfl
      have hKc := hK.sub (tys' := []) [] rfl
      have hFc := va_free (wc := [zO h th q1 (nI ts) (nI cn) q2 q3 q4 (nI lv) q5 (nI an) md q6 q7]) hD hS hA [0] rfl
      refine va_calli (va_runV (As := [.int 1, .int 0]) (rest := []) ⟨hx, hb, hml, hown, htA⟩ (r_throwing l dC dI h q1 q2 q3 q4 q5 q6 q7   th (nI ts) (nI cn) (nI lv) (nI an) md 1 0 s.heap.size) (cwV 2 htA gX1_80 rfl rfl rfl (by decide +kernel) ⟨Nat.le_of_ble_eq_true rfl, Nat.le_of_ble_eq_true rfl⟩) ⟨fun a U g mk q => by obtain ⟨q0, q1, qP, qK, qD⟩ := q; exact ⟨q0, q1, qP, va_K.moved (u := U) (U := U.calling g mk a) (Vm.Alike.refl U.vm) qK, qD⟩, va_recv hKc hPc (ci := 1) (q0 := 0) rfl rfl, fun U hU hW => ⟨rfl, by rw [hU], by rw [hU]; exact hPc, va_K.moved hW.alike hKc, hDc.weaken (fun _ _ _ _ => trivial)⟩⟩ rfl rfl hl.1 rfl (lv_room (Nat.le_of_ble_eq_true rfl)) dX1_count_18 ⟨Nat.zero_le _, Nat.zero_le _⟩) hS (fun q _ h => hFc q h) hFc (fun rth u t H1 locs ht hvm hw hB hz1 hk1 hS => ?_)
      obtain ⟨hP1, hK1, hD1⟩ := hB
      rw [ht] at hP1
      try dsimp only at hw hP1 hD1
      obtain ⟨hP, hD⟩ := va_join (wr := [(q1, .inl (k1, 18, .inl f1)), (q2, .inl (k2, 7200, .inl f2)), (q3, .inl (k3, 400, .inl f3)), (q4, .inl (k4, 400, .inl f4)), (q5, .inl (k5, 18, .inl f5)), (q6, .inl (k6, 4096, .inr (.inl f6))), (q7, .inl (k7, 6, .inr (.inl f7)))]) (w1 := [zO h u q1 (nI ts) (nI cn) q2 q3 q4 (nI lv) q5 (nI an) md q6 q7]) hP hD [0] [1, 2, 3, 4, 5, 6, 7] rfl rfl (by decide) (by decide) hk1 hFc hP1 hD1
      generalize H1 = H at hP hS ⊢
      have hP : va_P (dC, dI) vwCl [zO h u q1 (nI ts) (nI cn) q2 q3 q4 (nI lv) q5 (nI an) md q6 q7, (q1, .inl (k1, 18, .inl f1)), (q2, .inl (k2, 7200, .inl f2)), (q3, .inl (k3, 400, .inl f3)), (q4, .inl (k4, 400, .inl f4)), (q5, .inl (k5, 18, .inl f5)), (q6, .inl (k6, 4096, .inr (.inl f6))), (q7, .inl (k7, 6, .inr (.inl f7)))] H := hP.sub [7, 0, 1, 2, 3, 4, 5, 6] rfl
      have hD : va_D A [zO h u q1 (nI ts) (nI cn) q2 q3 q4 (nI lv) q5 (nI an) md q6 q7, (q1, .inl (k1, 18, .inl f1)), (q2, .inl (k2, 7200, .inl f2)), (q3, .inl (k3, 400, .inl f3)), (q4, .inl (k4, 400, .inl f4)), (q5, .inl (k5, 18, .inl f5)), (q6, .inl (k6, 4096, .inr (.inl f6))), (q7, .inl (k7, 6, .inr (.inl f7)))] := hD.sub [7, 0, 1, 2, 3, 4, 5, 6] (by decide) rfl
      obtain ⟨hu9, hr9⟩ : u = 1 ∧ rth = 1 := by
        rcases hw with h | h | h
        · exact h.2
        · exact absurd h.1 (by decide)
        · exact absurd h.1 (by decide)
      subst hu9
      subst hr9
      refine lv_if_eq (tgt := 26) hx hb dX1_count_21 (by decide) (fun cb_114 => ?_) (fun cb_114 => ?_)
      · exact absurd cb_114 (by decide)
      · refine lv_iconst (v := 0) hx hb dX1_count_24 (by decide) ?_
        exact W.iret (v := 0) hx hb hr (fun t ht hW => ⟨⟨0, 1, rfl, Or.inl ⟨Or.inr (Int32.not_le.mp cb_113), rfl⟩, by rw [ht]; exact hP, va_K.moved hW.alike hK, hD⟩, hS.F ht⟩) hS.2.2 dX1_count_25
