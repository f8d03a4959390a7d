set_option maxHeartbeats 4000000 in
set_option maxRecDepth 100000 in
theorem r_put (l : Launch) (dC : Nat → ClassId) (dI : Nat → Nat → Nat) (h : Nat) (q1 : Nat) (q2 : Nat) (q3 : Nat) (q4 : Nat) (q5 : Nat) (q6 : Nat) (q7 : Nat) (k1 : ClassId) (k2 : ClassId) (k3 : ClassId) (k4 : ClassId) (k5 : ClassId) (k6 : ClassId) (k7 : ClassId) (f1 : Nat → Int32) (f2 : Nat → Int32) (f3 : Nat → Int32) (f4 : Nat → Int32) (f5 : Nat → Int32) (f6 : Nat → Int64) (f7 : Nat → Int64) (th : Int32) (ts : Nat) (cn : Nat) (lv : Nat) (an : Nat) (md : Int32) (p0 : Int32) (sz : Nat) (hts : ts ≤ 18) : Met l yX1_put wsX1_put ({ frames := 1, cells := 0, slots := 0, locals := 40 }) (va_Pc [.ref h, .int p0] (fun U => U.heap.size = sz ∧ va_P (dC, dI) vwCl [zO h th q1 (nI ts) (nI cn) q2 q3 q4 (nI lv) q5 (nI an) md q6 q7, (q1, .inl (k1, 18, .inl f1)), (q2, .inl (k2, 7200, .inl f2)), (q3, .inl (k3, 400, .inl f3)), (q4, .inl (k4, 400, .inl f4)), (q5, .inl (k5, 18, .inl f5)), (q6, .inl (k6, 4096, .inr (.inl f6))), (q7, .inl (k7, 6, .inr (.inl f7)))] U.heap ∧ va_K (dC, dI) vwCl [(k1, .int), (k2, .int), (k3, .int), (k4, .int), (k5, .int), (k6, .long), (k7, .long)] U ∧ va_D (fun _ => True) [zO h th q1 (nI ts) (nI cn) q2 q3 q4 (nI lv) q5 (nI an) md q6 q7, (q1, .inl (k1, 18, .inl f1)), (q2, .inl (k2, 7200, .inl f2)), (q3, .inl (k3, 400, .inl f3)), (q4, .inl (k4, 400, .inl f4)), (q5, .inl (k5, 18, .inl f5)), (q6, .inl (k6, 4096, .inr (.inl f6))), (q7, .inl (k7, 6, .inr (.inl f7)))])) (va_Qi (fun (r : Int32) (u : Int32 × Nat × (Nat → Int32)) => (¬ yLit p0 ∧ u = (1, ts, f1)) ∨ (yLit p0 ∧ ts = 18 ∧ u = (2, ts, f1)) ∨ (yLit p0 ∧ ts < 18 ∧ r = nI (ts + 1) ∧ u = (0, ts + 1, upd f1 ts p0))) (fun (u : Int32 × Nat × (Nat → Int32)) (t : State) => va_P (dC, dI) vwCl [zO h u.1 q1 (nI u.2.1) (nI cn) q2 q3 q4 (nI lv) q5 (nI an) md q6 q7, (q1, .inl (k1, 18, .inl u.2.2)), (q2, .inl (k2, 7200, .inl f2)), (q3, .inl (k3, 400, .inl f3)), (q4, .inl (k4, 400, .inl f4)), (q5, .inl (k5, 18, .inl f5)), (q6, .inl (k6, 4096, .inr (.inl f6))), (q7, .inl (k7, 6, .inr (.inl f7)))] t.heap ∧ va_K (dC, dI) vwCl [(k1, .int), (k2, .int), (k3, .int), (k4, .int), (k5, .int), (k6, .long), (k7, .long)] t ∧ va_D (va_A [zO h th q1 (nI ts) (nI cn) q2 q3 q4 (nI lv) q5 (nI an) md q6 q7, (q1, .inl (k1, 18, .inl f1)), (q2, .inl (k2, 7200, .inl f2)), (q3, .inl (k3, 400, .inl f3)), (q4, .inl (k4, 400, .inl f4)), (q5, .inl (k5, 18, .inl f5)), (q6, .inl (k6, 4096, .inr (.inl f6))), (q7, .inl (k7, 6, .inr (.inl f7)))] sz) [zO h u.1 q1 (nI u.2.1) (nI cn) q2 q3 q4 (nI lv) q5 (nI an) md q6 q7, (q1, .inl (k1, 18, .inl u.2.2)), (q2, .inl (k2, 7200, .inl f2)), (q3, .inl (k3, 400, .inl f3)), (q4, .inl (k4, 400, .inl f4)), (q5, .inl (k5, 18, .inl f5)), (q6, .inl (k6, 4096, .inr (.inl f6))), (q7, .inl (k7, 6, .inr (.inl f7)))]) (va_A [zO h th q1 (nI ts) (nI cn) q2 q3 q4 (nI lv) q5 (nI an) md q6 q7, (q1, .inl (k1, 18, .inl f1)), (q2, .inl (k2, 7200, .inl f2)), (q3, .inl (k3, 400, .inl f3)), (q4, .inl (k4, 400, .inl f4)), (q5, .inl (k5, 18, .inl f5)), (q6, .inl (k6, 4096, .inr (.inl f6))), (q7, .inl (k7, 6, .inr (.inl f7)))] sz)) 0 0 (va_A [zO h th q1 (nI ts) (nI cn) q2 q3 q4 (nI lv) q5 (nI an) md q6 q7, (q1, .inl (k1, 18, .inl f1)), (q2, .inl (k2, 7200, .inl f2)), (q3, .inl (k3, 400, .inl f3)), (q4, .inl (k4, 400, .inl f4)), (q5, .inl (k5, 18, .inl f5)), (q6, .inl (k6, 4096, .inr (.inl f6))), (q7, .inl (k7, 6, .inr (.inl f7)))] sz) := by
  refine Met.ofW (cc := cX1_put) (maxL := 2) (ret := (some .int)) (by decide) rfl ?_
  intro p e s m args below meth c s₁ B hml hv
  obtain ⟨rfl, hsz, hP, hK, hD0⟩ := hv
  have hx := B.exec
  have hb := B.bytes
  have hr := B.returns
  have hts := atoms_spec (ws := wsX1_put) B.pre
  have htA : ∀ w ∈ wsA, w.before _ s = true := fun w h => hts w (List.mem_cons_of_mem _ h)
  have hown : s.vm.findClass RX1 = some m.cls := findClass_of_methodNamed B.named
  have hlocks := B.notSynchronized
  subst hsz
  have hD := hD0.self (sz := s.heap.size)
  generalize hAe : va_A [zO h th q1 (nI ts) (nI cn) q2 q3 q4 (nI lv) q5 (nI an) md q6 q7, (q1, .inl (k1, 18, .inl f1)), (q2, .inl (k2, 7200, .inl f2)), (q3, .inl (k3, 400, .inl f3)), (q4, .inl (k4, 400, .inl f4)), (q5, .inl (k5, 18, .inl f5)), (q6, .inl (k6, 4096, .inr (.inl f6))), (q7, .inl (k7, 6, .inr (.inl f7)))] s.heap.size = A at hD ⊢
  have hA : ∀ q : Nat, s.heap.size ≤ q → A q := fun q h => by rw [← hAe]; exact Or.inr h
  have hS : va_S A s.heap s.heap [] := va_S.rf
  have hP : va_P (dC, dI) vwCl [zO h th q1 (nI ts) (nI cn) q2 q3 q4 (nI lv) q5 (nI an) md q6 q7, (q1, .inl (k1, 18, .inl f1)), (q2, .inl (k2, 7200, .inl f2)), (q3, .inl (k3, 400, .inl f3)), (q4, .inl (k4, 400, .inl f4)), (q5, .inl (k5, 18, .inl f5)), (q6, .inl (k6, 4096, .inr (.inl f6))), (q7, .inl (k7, 6, .inr (.inl f7)))] s.heap := hP
  have hl := lv_entry ([.ref h, .int p0]) (n := 2) (Nat.le_of_ble_eq_true rfl)
  rw [lg_entry_eq]
  generalize (lg_sl ([.ref h, .int p0]) ++ List.replicate (2 - (lg_sl ([.ref h, .int p0])).length) Slot.unset).toArray = ls at hl ⊢
  have hl : lv_has ls 2 [(0, .ref h), (1, .int p0)] := hl
  refine lv_aload_n hx hb dX1_put_0 rfl (lv_at hl 0 rfl) ?_
  refine lv_iload_n hx hb dX1_put_1 rfl (lv_at hl 1 rfl) ?_
  have hPc := hP.sub (ws' := []) [] rfl
  have hDc := hD.sub (ws' := []) [] (by decide) rfl
  have hKc := hK.sub (tys' := []) [] rfl
  have hFc := va_free (wc := []) hD hS hA [] rfl
  refine va_calli (va_runS (As := [.int p0]) (rest := [.ref h]) ⟨hx, hb, hml, hown, htA⟩ (r_isLiteral l dC dI p0 s.heap.size) (va_cwS 1 htA gX1_73 rfl rfl rfl (by decide +kernel) ⟨Nat.le_of_ble_eq_true rfl, Nat.le_of_ble_eq_true rfl⟩) ⟨fun a U g mk q => by obtain ⟨q0, q1, qP, qK, qD⟩ := q; exact ⟨q0, q1, qP, va_K.moved (u := U) (U := U.calling g mk a) (Vm.Alike.refl U.vm) qK, qD⟩, fun U hU hW => ⟨rfl, by rw [hU], by rw [hU]; exact hPc, va_K.moved hW.alike hKc, hDc.weaken (fun _ _ _ _ => trivial)⟩⟩ rfl rfl hl.1 rfl (lv_room (Nat.le_of_ble_eq_true rfl)) dX1_put_2 ⟨Nat.zero_le _, Nat.zero_le _⟩) hS (fun q _ h => hFc q h) hFc (fun rl u t H1 locs ht hvm hw hB hz1 hk1 hS => ?_)
  obtain ⟨hP1, hK1, hD1⟩ := hB
  rw [ht] at hP1
  try dsimp only at hw hP1 hD1
  obtain ⟨hP, hD⟩ := va_join (wr := [zO h th q1 (nI ts) (nI cn) q2 q3 q4 (nI lv) q5 (nI an) md q6 q7, (q1, .inl (k1, 18, .inl f1)), (q2, .inl (k2, 7200, .inl f2)), (q3, .inl (k3, 400, .inl f3)), (q4, .inl (k4, 400, .inl f4)), (q5, .inl (k5, 18, .inl f5)), (q6, .inl (k6, 4096, .inr (.inl f6))), (q7, .inl (k7, 6, .inr (.inl f7)))]) (w1 := []) hP hD [] [0, 1, 2, 3, 4, 5, 6, 7] rfl rfl (by decide) (by decide) hk1 hFc hP1 hD1
  generalize H1 = H at hP hS ⊢
  have hP : va_P (dC, dI) vwCl [zO h th q1 (nI ts) (nI cn) q2 q3 q4 (nI lv) q5 (nI an) md q6 q7, (q1, .inl (k1, 18, .inl f1)), (q2, .inl (k2, 7200, .inl f2)), (q3, .inl (k3, 400, .inl f3)), (q4, .inl (k4, 400, .inl f4)), (q5, .inl (k5, 18, .inl f5)), (q6, .inl (k6, 4096, .inr (.inl f6))), (q7, .inl (k7, 6, .inr (.inl f7)))] H := hP.sub [0, 1, 2, 3, 4, 5, 6, 7] rfl
  have hD : va_D A [zO h th q1 (nI ts) (nI cn) q2 q3 q4 (nI lv) q5 (nI an) md q6 q7, (q1, .inl (k1, 18, .inl f1)), (q2, .inl (k2, 7200, .inl f2)), (q3, .inl (k3, 400, .inl f3)), (q4, .inl (k4, 400, .inl f4)), (q5, .inl (k5, 18, .inl f5)), (q6, .inl (k6, 4096, .inr (.inl f6))), (q7, .inl (k7, 6, .inr (.inl f7)))] := hD.sub [0, 1, 2, 3, 4, 5, 6, 7] (by decide) rfl
  rcases hw with ⟨rfl, hl1⟩ | ⟨rfl, hl1⟩
  · refine lv_if_ne (tgt := 12) hx hb dX1_put_5 (by decide) (fun cb_37 => ?_) (fun cb_37 => ?_)
    · refine lv_iconst (v := 0) hx hb dX1_put_12 (by decide) ?_
      refine lv_aload_n hx hb dX1_put_13 rfl (lv_at hl 0 rfl) ?_
      refine va_get (D := (dC, dI)) (ci := 1) (v := .int (nI ts)) (C := RX1) (T := TX1) (N := 13) hx hb htA inX1 hown hK hP 0 rfl rfl 2 (by decide) (htA _ lkX1_77) (fun _ h9 => h9) rfl dX1_put_14 ?_
      refine lv_bipush (v := 18) hx hb dX1_put_17 (by decide) ?_
      refine lv_icmp_ne (tgt := 26) hx hb dX1_put_19 (by decide) (fun cb_42 => ?_) (fun cb_42 => ?_)
      · have h18 : ts < 18 := by
          rcases Nat.lt_or_ge ts 18 with q | q
          · exact q
          · exact absurd (by rw [show ts = 18 by omega]; rfl) cb_42
        refine lv_iconst (v := 0) hx hb dX1_put_26 (by decide) ?_
        have hPc := hP.sub (ws' := [zO h th q1 (nI ts) (nI cn) q2 q3 q4 (nI lv) q5 (nI an) md q6 q7]) [0] rfl
        have hDc := hD.sub (ws' := [zO h th q1 (nI ts) (nI cn) q2 q3 q4 (nI lv) q5 (nI an) md q6 q7]) [0] (by decide) rfl
        have hKc := hK.sub (tys' := []) [] rfl
        have hFc := va_free (wc := [zO h th q1 (nI ts) (nI cn) q2 q3 q4 (nI lv) q5 (nI an) md q6 q7]) hD hS hA [0] rfl
        refine va_calli (va_runV (As := [.int 0, .int 0]) (rest := []) ⟨hx, hb, hml, hown, htA⟩ (r_throwing l dC dI h q1 q2 q3 q4 q5 q6 q7   th (nI ts) (nI cn) (nI lv) (nI an) md 0 0 H.size) (cwV 2 htA gX1_80 rfl rfl rfl (by decide +kernel) ⟨Nat.le_of_ble_eq_true rfl, Nat.le_of_ble_eq_true rfl⟩) ⟨fun a U g mk q => by obtain ⟨q0, q1, qP, qK, qD⟩ := q; exact ⟨q0, q1, qP, va_K.moved (u := U) (U := U.calling g mk a) (Vm.Alike.refl U.vm) qK, qD⟩, va_recv hKc hPc (ci := 1) (q0 := 0) rfl rfl, fun U hU hW => ⟨rfl, by rw [hU], by rw [hU]; exact hPc, va_K.moved hW.alike hKc, hDc.weaken (fun _ _ _ _ => trivial)⟩⟩ rfl rfl hl.1 rfl (lv_room (Nat.le_of_ble_eq_true rfl)) dX1_put_27 ⟨Nat.zero_le _, Nat.zero_le _⟩) hS (fun q _ h => hFc q h) hFc (fun rth u t H1 locs ht hvm hw hB hz1 hk1 hS => ?_)
        obtain ⟨hP1, hK1, hD1⟩ := hB
        rw [ht] at hP1
        try dsimp only at hw hP1 hD1
        obtain ⟨hP, hD⟩ := va_join (wr := [(q1, .inl (k1, 18, .inl f1)), (q2, .inl (k2, 7200, .inl f2)), (q3, .inl (k3, 400, .inl f3)), (q4, .inl (k4, 400, .inl f4)), (q5, .inl (k5, 18, .inl f5)), (q6, .inl (k6, 4096, .inr (.inl f6))), (q7, .inl (k7, 6, .inr (.inl f7)))]) (w1 := [zO h u q1 (nI ts) (nI cn) q2 q3 q4 (nI lv) q5 (nI an) md q6 q7]) hP hD [0] [1, 2, 3, 4, 5, 6, 7] rfl rfl (by decide) (by decide) hk1 hFc hP1 hD1
        generalize H1 = H at hP hS ⊢
        have hP : va_P (dC, dI) vwCl [zO h u q1 (nI ts) (nI cn) q2 q3 q4 (nI lv) q5 (nI an) md q6 q7, (q1, .inl (k1, 18, .inl f1)), (q2, .inl (k2, 7200, .inl f2)), (q3, .inl (k3, 400, .inl f3)), (q4, .inl (k4, 400, .inl f4)), (q5, .inl (k5, 18, .inl f5)), (q6, .inl (k6, 4096, .inr (.inl f6))), (q7, .inl (k7, 6, .inr (.inl f7)))] H := hP.sub [7, 0, 1, 2, 3, 4, 5, 6] rfl
        have hD : va_D A [zO h u q1 (nI ts) (nI cn) q2 q3 q4 (nI lv) q5 (nI an) md q6 q7, (q1, .inl (k1, 18, .inl f1)), (q2, .inl (k2, 7200, .inl f2)), (q3, .inl (k3, 400, .inl f3)), (q4, .inl (k4, 400, .inl f4)), (q5, .inl (k5, 18, .inl f5)), (q6, .inl (k6, 4096, .inr (.inl f6))), (q7, .inl (k7, 6, .inr (.inl f7)))] := hD.sub [7, 0, 1, 2, 3, 4, 5, 6] (by decide) rfl
        obtain ⟨hu9, hr9⟩ : u = 0 ∧ rth = 0 := by
          rcases hw with h | h | h
          · exact absurd rfl h.1
          · exact absurd rfl h.2.1
          · exact h.2.2
        subst hu9
        subst hr9
        refine lv_if_eq (tgt := 35) hx hb dX1_put_30 (by decide) (fun cb_44 => ?_) (fun cb_44 => ?_)
        · refine lv_aload_n hx hb dX1_put_35 rfl (lv_at hl 0 rfl) ?_
          refine va_get (D := (dC, dI)) (ci := 1) (v := .ref q1) (C := RX1) (T := TX1) (N := 13) hx hb htA inX1 hown hK hP 0 rfl rfl 1 (by decide) (htA _ lkX1_7) (fun _ h9 => h9) rfl dX1_put_36 ?_
          refine lv_aload_n hx hb dX1_put_39 rfl (lv_at hl 0 rfl) ?_
          refine va_get (D := (dC, dI)) (ci := 1) (v := .int (nI ts)) (C := RX1) (T := TX1) (N := 13) hx hb htA inX1 hown hK hP 0 rfl rfl 2 (by decide) (htA _ lkX1_77) (fun _ h9 => h9) rfl dX1_put_40 ?_
          refine lv_iload_n hx hb dX1_put_43 rfl (lv_at hl 1 rfl) ?_
          refine yv_iast hx hb hK hP hD hS 1 0 rfl rfl (k := ts) h18 (by decide) dX1_put_44 (fun H locs hP hD hS => ?_)
          have hP : va_P (dC, dI) vwCl [zO h 0 q1 (nI ts) (nI cn) q2 q3 q4 (nI lv) q5 (nI an) md q6 q7, (q1, .inl (k1, 18, .inl (upd f1 ts p0))), (q2, .inl (k2, 7200, .inl f2)), (q3, .inl (k3, 400, .inl f3)), (q4, .inl (k4, 400, .inl f4)), (q5, .inl (k5, 18, .inl f5)), (q6, .inl (k6, 4096, .inr (.inl f6))), (q7, .inl (k7, 6, .inr (.inl f7)))] H := hP
          have hD : va_D A [zO h 0 q1 (nI ts) (nI cn) q2 q3 q4 (nI lv) q5 (nI an) md q6 q7, (q1, .inl (k1, 18, .inl (upd f1 ts p0))), (q2, .inl (k2, 7200, .inl f2)), (q3, .inl (k3, 400, .inl f3)), (q4, .inl (k4, 400, .inl f4)), (q5, .inl (k5, 18, .inl f5)), (q6, .inl (k6, 4096, .inr (.inl f6))), (q7, .inl (k7, 6, .inr (.inl f7)))] := hD
          refine lv_aload_n hx hb dX1_put_45 rfl (lv_at hl 0 rfl) ?_
          refine lv_dup hx hb dX1_put_46 rfl ?_
          refine va_get (D := (dC, dI)) (ci := 1) (v := .int (nI ts)) (C := RX1) (T := TX1) (N := 13) hx hb htA inX1 hown hK hP 0 rfl rfl 2 (by decide) (htA _ lkX1_77) (fun _ h9 => h9) rfl dX1_put_47 ?_
          refine lv_iconst (v := 1) hx hb dX1_put_50 (by decide) ?_
          refine lv_iadd hx hb dX1_put_51 ?_
          refine W.eq (g2 := F0 m 52 ls [.int (nI (ts + 1)), .ref h]) (by rw [nI_1]) ?_
          refine va_put (D := (dC, dI)) (ci := 1) (v := .int (nI (ts + 1))) (ty := .int) (C := RX1) (T := TX1) (N := 13) hx hb htA inX1 tyX1 tyX1_ok nX1 hown hK hP hD hS 0 rfl rfl 2 (by decide) (htA _ lkX1_77) (fun _ h9 => h9) rfl (by decide +kernel) rfl rfl (Nat.le_of_ble_eq_true rfl) dX1_put_52 (fun H locs hP hD hS => ?_)
          have hP : va_P (dC, dI) vwCl [zO h 0 q1 (nI (ts + 1)) (nI cn) q2 q3 q4 (nI lv) q5 (nI an) md q6 q7, (q1, .inl (k1, 18, .inl (upd f1 ts p0))), (q2, .inl (k2, 7200, .inl f2)), (q3, .inl (k3, 400, .inl f3)), (q4, .inl (k4, 400, .inl f4)), (q5, .inl (k5, 18, .inl f5)), (q6, .inl (k6, 4096, .inr (.inl f6))), (q7, .inl (k7, 6, .inr (.inl f7)))] H := hP
          have hD : va_D A [zO h 0 q1 (nI (ts + 1)) (nI cn) q2 q3 q4 (nI lv) q5 (nI an) md q6 q7, (q1, .inl (k1, 18, .inl (upd f1 ts p0))), (q2, .inl (k2, 7200, .inl f2)), (q3, .inl (k3, 400, .inl f3)), (q4, .inl (k4, 400, .inl f4)), (q5, .inl (k5, 18, .inl f5)), (q6, .inl (k6, 4096, .inr (.inl f6))), (q7, .inl (k7, 6, .inr (.inl f7)))] := hD
          refine lv_aload_n hx hb dX1_put_55 rfl (lv_at hl 0 rfl) ?_
          refine va_get (D := (dC, dI)) (ci := 1) (v := .int (nI (ts + 1))) (C := RX1) (T := TX1) (N := 13) hx hb htA inX1 hown hK hP 0 rfl rfl 2 (by decide) (htA _ lkX1_77) (fun _ h9 => h9) rfl dX1_put_56 ?_
          exact W.iret (v := nI (ts + 1)) hx hb hr (fun t ht hW => ⟨⟨nI (ts + 1), (0, ts + 1, upd f1 ts p0), rfl, Or.inr (Or.inr ⟨hl1, h18, rfl, rfl⟩), by rw [ht]; exact hP, va_K.moved hW.alike hK, hD⟩, hS.F ht⟩) hS.2.2 dX1_put_59
        · exact absurd rfl cb_44
      · have h18 : ts = 18 := (nI_eq (a := ts) (b := 18) (by omega) (by omega)).mp cb_42
        refine lv_iconst (v := 1) hx hb dX1_put_22 (by decide) ?_
        refine lv_goto (tgt := 27) hx hb dX1_put_23 (by decide) ?_
        have hPc := hP.sub (ws' := [zO h th q1 (nI ts) (nI cn) q2 q3 q4 (nI lv) q5 (nI an) md q6 q7]) [0] rfl
        have hDc := hD.sub (ws' := [zO h th q1 (nI ts) (nI cn) q2 q3 q4 (nI lv) q5 (nI an) md q6 q7]) [0] (by decide) rfl
        have hKc := hK.sub (tys' := []) [] rfl
        have hFc := va_free (wc := [zO h th q1 (nI ts) (nI cn) q2 q3 q4 (nI lv) q5 (nI an) md q6 q7]) hD hS hA [0] rfl
        refine va_calli (va_runV (As := [.int 0, .int 1]) (rest := []) ⟨hx, hb, hml, hown, htA⟩ (r_throwing l dC dI h q1 q2 q3 q4 q5 q6 q7   th (nI ts) (nI cn) (nI lv) (nI an) md 0 1 H.size) (cwV 2 htA gX1_80 rfl rfl rfl (by decide +kernel) ⟨Nat.le_of_ble_eq_true rfl, Nat.le_of_ble_eq_true rfl⟩) ⟨fun a U g mk q => by obtain ⟨q0, q1, qP, qK, qD⟩ := q; exact ⟨q0, q1, qP, va_K.moved (u := U) (U := U.calling g mk a) (Vm.Alike.refl U.vm) qK, qD⟩, va_recv hKc hPc (ci := 1) (q0 := 0) rfl rfl, fun U hU hW => ⟨rfl, by rw [hU], by rw [hU]; exact hPc, va_K.moved hW.alike hKc, hDc.weaken (fun _ _ _ _ => trivial)⟩⟩ rfl rfl hl.1 rfl (lv_room (Nat.le_of_ble_eq_true rfl)) dX1_put_27 ⟨Nat.zero_le _, Nat.zero_le _⟩) hS (fun q _ h => hFc q h) hFc (fun rth u t H1 locs ht hvm hw hB hz1 hk1 hS => ?_)
        obtain ⟨hP1, hK1, hD1⟩ := hB
        rw [ht] at hP1
        try dsimp only at hw hP1 hD1
        obtain ⟨hP, hD⟩ := va_join (wr := [(q1, .inl (k1, 18, .inl f1)), (q2, .inl (k2, 7200, .inl f2)), (q3, .inl (k3, 400, .inl f3)), (q4, .inl (k4, 400, .inl f4)), (q5, .inl (k5, 18, .inl f5)), (q6, .inl (k6, 4096, .inr (.inl f6))), (q7, .inl (k7, 6, .inr (.inl f7)))]) (w1 := [zO h u q1 (nI ts) (nI cn) q2 q3 q4 (nI lv) q5 (nI an) md q6 q7]) hP hD [0] [1, 2, 3, 4, 5, 6, 7] rfl rfl (by decide) (by decide) hk1 hFc hP1 hD1
        generalize H1 = H at hP hS ⊢
        have hP : va_P (dC, dI) vwCl [zO h u q1 (nI ts) (nI cn) q2 q3 q4 (nI lv) q5 (nI an) md q6 q7, (q1, .inl (k1, 18, .inl f1)), (q2, .inl (k2, 7200, .inl f2)), (q3, .inl (k3, 400, .inl f3)), (q4, .inl (k4, 400, .inl f4)), (q5, .inl (k5, 18, .inl f5)), (q6, .inl (k6, 4096, .inr (.inl f6))), (q7, .inl (k7, 6, .inr (.inl f7)))] H := hP.sub [7, 0, 1, 2, 3, 4, 5, 6] rfl
        have hD : va_D A [zO h u q1 (nI ts) (nI cn) q2 q3 q4 (nI lv) q5 (nI an) md q6 q7, (q1, .inl (k1, 18, .inl f1)), (q2, .inl (k2, 7200, .inl f2)), (q3, .inl (k3, 400, .inl f3)), (q4, .inl (k4, 400, .inl f4)), (q5, .inl (k5, 18, .inl f5)), (q6, .inl (k6, 4096, .inr (.inl f6))), (q7, .inl (k7, 6, .inr (.inl f7)))] := hD.sub [7, 0, 1, 2, 3, 4, 5, 6] (by decide) rfl
        obtain ⟨hu9, hr9⟩ : u = 2 ∧ rth = 1 := by
          rcases hw with h | h | h
          · exact absurd rfl h.1
          · exact h.2.2
          · exact absurd h.2.1 (by decide)
        subst hu9
        subst hr9
        refine lv_if_eq (tgt := 35) hx hb dX1_put_30 (by decide) (fun cb_43 => ?_) (fun cb_43 => ?_)
        · exact absurd cb_43 (by decide)
        · refine lv_iconst (v := 0) hx hb dX1_put_33 (by decide) ?_
          exact W.iret (v := 0) hx hb hr (fun t ht hW => ⟨⟨0, (2, ts, f1), rfl, Or.inr (Or.inl ⟨hl1, h18, rfl⟩), by rw [ht]; exact hP, va_K.moved hW.alike hK, hD⟩, hS.F ht⟩) hS.2.2 dX1_put_34
    · exact absurd cb_37 (by decide)
  · refine lv_if_ne (tgt := 12) hx hb dX1_put_5 (by decide) (fun cb_38 => ?_) (fun cb_38 => ?_)
    · exact absurd rfl cb_38
    · refine lv_iconst (v := 1) hx hb dX1_put_8 (by decide) ?_
      refine lv_goto (tgt := 13) hx hb dX1_put_9 (by decide) ?_
      refine lv_aload_n hx hb dX1_put_13 rfl (lv_at hl 0 rfl) ?_
      refine va_get (D := (dC, dI)) (ci := 1) (v := .int (nI ts)) (C := RX1) (T := TX1) (N := 13) hx hb htA inX1 hown hK hP 0 rfl rfl 2 (by decide) (htA _ lkX1_77) (fun _ h9 => h9) rfl dX1_put_14 ?_
      refine lv_bipush (v := 18) hx hb dX1_put_17 (by decide) ?_
      refine lv_icmp_ne (tgt := 26) hx hb dX1_put_19 (by decide) (fun cb_39 => ?_) (fun cb_39 => ?_)
      · have h18 : ts < 18 := by
          rcases Nat.lt_or_ge ts 18 with q | q
          · exact q
          · exact absurd (by rw [show ts = 18 by omega]; rfl) cb_39
        refine lv_iconst (v := 0) hx hb dX1_put_26 (by decide) ?_
        have hPc := hP.sub (ws' := [zO h th q1 (nI ts) (nI cn) q2 q3 q4 (nI lv) q5 (nI an) md q6 q7]) [0] rfl
        have hDc := hD.sub (ws' := [zO h th q1 (nI ts) (nI cn) q2 q3 q4 (nI lv) q5 (nI an) md q6 q7]) [0] (by decide) rfl
        have hKc := hK.sub (tys' := []) [] rfl
        have hFc := va_free (wc := [zO h th q1 (nI ts) (nI cn) q2 q3 q4 (nI lv) q5 (nI an) md q6 q7]) hD hS hA [0] rfl
        refine va_calli (va_runV (As := [.int 1, .int 0]) (rest := []) ⟨hx, hb, hml, hown, htA⟩ (r_throwing l dC dI h q1 q2 q3 q4 q5 q6 q7   th (nI ts) (nI cn) (nI lv) (nI an) md 1 0 H.size) (cwV 2 htA gX1_80 rfl rfl rfl (by decide +kernel) ⟨Nat.le_of_ble_eq_true rfl, Nat.le_of_ble_eq_true rfl⟩) ⟨fun a U g mk q => by obtain ⟨q0, q1, qP, qK, qD⟩ := q; exact ⟨q0, q1, qP, va_K.moved (u := U) (U := U.calling g mk a) (Vm.Alike.refl U.vm) qK, qD⟩, va_recv hKc hPc (ci := 1) (q0 := 0) rfl rfl, fun U hU hW => ⟨rfl, by rw [hU], by rw [hU]; exact hPc, va_K.moved hW.alike hKc, hDc.weaken (fun _ _ _ _ => trivial)⟩⟩ rfl rfl hl.1 rfl (lv_room (Nat.le_of_ble_eq_true rfl)) dX1_put_27 ⟨Nat.zero_le _, Nat.zero_le _⟩) hS (fun q _ h => hFc q h) hFc (fun rth u t H1 locs ht hvm hw hB hz1 hk1 hS => ?_)
        obtain ⟨hP1, hK1, hD1⟩ := hB
        rw [ht] at hP1
        try dsimp only at hw hP1 hD1
        obtain ⟨hP, hD⟩ := va_join (wr := [(q1, .inl (k1, 18, .inl f1)), (q2, .inl (k2, 7200, .inl f2)), (q3, .inl (k3, 400, .inl f3)), (q4, .inl (k4, 400, .inl f4)), (q5, .inl (k5, 18, .inl f5)), (q6, .inl (k6, 4096, .inr (.inl f6))), (q7, .inl (k7, 6, .inr (.inl f7)))]) (w1 := [zO h u q1 (nI ts) (nI cn) q2 q3 q4 (nI lv) q5 (nI an) md q6 q7]) hP hD [0] [1, 2, 3, 4, 5, 6, 7] rfl rfl (by decide) (by decide) hk1 hFc hP1 hD1
        generalize H1 = H at hP hS ⊢
        have hP : va_P (dC, dI) vwCl [zO h u q1 (nI ts) (nI cn) q2 q3 q4 (nI lv) q5 (nI an) md q6 q7, (q1, .inl (k1, 18, .inl f1)), (q2, .inl (k2, 7200, .inl f2)), (q3, .inl (k3, 400, .inl f3)), (q4, .inl (k4, 400, .inl f4)), (q5, .inl (k5, 18, .inl f5)), (q6, .inl (k6, 4096, .inr (.inl f6))), (q7, .inl (k7, 6, .inr (.inl f7)))] H := hP.sub [7, 0, 1, 2, 3, 4, 5, 6] rfl
        have hD : va_D A [zO h u q1 (nI ts) (nI cn) q2 q3 q4 (nI lv) q5 (nI an) md q6 q7, (q1, .inl (k1, 18, .inl f1)), (q2, .inl (k2, 7200, .inl f2)), (q3, .inl (k3, 400, .inl f3)), (q4, .inl (k4, 400, .inl f4)), (q5, .inl (k5, 18, .inl f5)), (q6, .inl (k6, 4096, .inr (.inl f6))), (q7, .inl (k7, 6, .inr (.inl f7)))] := hD.sub [7, 0, 1, 2, 3, 4, 5, 6] (by decide) rfl
        obtain ⟨hu9, hr9⟩ : u = 1 ∧ rth = 1 := by
          rcases hw with h | h | h
          · exact h.2
          · exact absurd h.1 (by decide)
          · exact absurd h.1 (by decide)
        subst hu9
        subst hr9
        refine lv_if_eq (tgt := 35) hx hb dX1_put_30 (by decide) (fun cb_41 => ?_) (fun cb_41 => ?_)
        · exact absurd cb_41 (by decide)
        · refine lv_iconst (v := 0) hx hb dX1_put_33 (by decide) ?_
          exact W.iret (v := 0) hx hb hr (fun t ht hW => ⟨⟨0, (1, ts, f1), rfl, Or.inl ⟨hl1, rfl⟩, by rw [ht]; exact hP, va_K.moved hW.alike hK, hD⟩, hS.F ht⟩) hS.2.2 dX1_put_34
      · have h18 : ts = 18 := (nI_eq (a := ts) (b := 18) (by omega) (by omega)).mp cb_39
        refine lv_iconst (v := 1) hx hb dX1_put_22 (by decide) ?_
        refine lv_goto (tgt := 27) hx hb dX1_put_23 (by decide) ?_
        have hPc := hP.sub (ws' := [zO h th q1 (nI ts) (nI cn) q2 q3 q4 (nI lv) q5 (nI an) md q6 q7]) [0] rfl
        have hDc := hD.sub (ws' := [zO h th q1 (nI ts) (nI cn) q2 q3 q4 (nI lv) q5 (nI an) md q6 q7]) [0] (by decide) rfl
        have hKc := hK.sub (tys' := []) [] rfl
        have hFc := va_free (wc := [zO h th q1 (nI ts) (nI cn) q2 q3 q4 (nI lv) q5 (nI an) md q6 q7]) hD hS hA [0] rfl
        refine va_calli (va_runV (As := [.int 1, .int 1]) (rest := []) ⟨hx, hb, hml, hown, htA⟩ (r_throwing l dC dI h q1 q2 q3 q4 q5 q6 q7   th (nI ts) (nI cn) (nI lv) (nI an) md 1 1 H.size) (cwV 2 htA gX1_80 rfl rfl rfl (by decide +kernel) ⟨Nat.le_of_ble_eq_true rfl, Nat.le_of_ble_eq_true rfl⟩) ⟨fun a U g mk q => by obtain ⟨q0, q1, qP, qK, qD⟩ := q; exact ⟨q0, q1, qP, va_K.moved (u := U) (U := U.calling g mk a) (Vm.Alike.refl U.vm) qK, qD⟩, va_recv hKc hPc (ci := 1) (q0 := 0) rfl rfl, fun U hU hW => ⟨rfl, by rw [hU], by rw [hU]; exact hPc, va_K.moved hW.alike hKc, hDc.weaken (fun _ _ _ _ => trivial)⟩⟩ rfl rfl hl.1 rfl (lv_room (Nat.le_of_ble_eq_true rfl)) dX1_put_27 ⟨Nat.zero_le _, Nat.zero_le _⟩) hS (fun q _ h => hFc q h) hFc (fun rth u t H1 locs ht hvm hw hB hz1 hk1 hS => ?_)
        obtain ⟨hP1, hK1, hD1⟩ := hB
        rw [ht] at hP1
        try dsimp only at hw hP1 hD1
        obtain ⟨hP, hD⟩ := va_join (wr := [(q1, .inl (k1, 18, .inl f1)), (q2, .inl (k2, 7200, .inl f2)), (q3, .inl (k3, 400, .inl f3)), (q4, .inl (k4, 400, .inl f4)), (q5, .inl (k5, 18, .inl f5)), (q6, .inl (k6, 4096, .inr (.inl f6))), (q7, .inl (k7, 6, .inr (.inl f7)))]) (w1 := [zO h u q1 (nI ts) (nI cn) q2 q3 q4 (nI lv) q5 (nI an) md q6 q7]) hP hD [0] [1, 2, 3, 4, 5, 6, 7] rfl rfl (by decide) (by decide) hk1 hFc hP1 hD1
        generalize H1 = H at hP hS ⊢
        have hP : va_P (dC, dI) vwCl [zO h u q1 (nI ts) (nI cn) q2 q3 q4 (nI lv) q5 (nI an) md q6 q7, (q1, .inl (k1, 18, .inl f1)), (q2, .inl (k2, 7200, .inl f2)), (q3, .inl (k3, 400, .inl f3)), (q4, .inl (k4, 400, .inl f4)), (q5, .inl (k5, 18, .inl f5)), (q6, .inl (k6, 4096, .inr (.inl f6))), (q7, .inl (k7, 6, .inr (.inl f7)))] H := hP.sub [7, 0, 1, 2, 3, 4, 5, 6] rfl
        have hD : va_D A [zO h u q1 (nI ts) (nI cn) q2 q3 q4 (nI lv) q5 (nI an) md q6 q7, (q1, .inl (k1, 18, .inl f1)), (q2, .inl (k2, 7200, .inl f2)), (q3, .inl (k3, 400, .inl f3)), (q4, .inl (k4, 400, .inl f4)), (q5, .inl (k5, 18, .inl f5)), (q6, .inl (k6, 4096, .inr (.inl f6))), (q7, .inl (k7, 6, .inr (.inl f7)))] := hD.sub [7, 0, 1, 2, 3, 4, 5, 6] (by decide) rfl
        obtain ⟨hu9, hr9⟩ : u = 1 ∧ rth = 1 := by
          rcases hw with h | h | h
          · exact h.2
          · exact absurd h.1 (by decide)
          · exact absurd h.1 (by decide)
        subst hu9
        subst hr9
        refine lv_if_eq (tgt := 35) hx hb dX1_put_30 (by decide) (fun cb_40 => ?_) (fun cb_40 => ?_)
        · exact absurd cb_40 (by decide)
        · refine lv_iconst (v := 0) hx hb dX1_put_33 (by decide) ?_
          exact W.iret (v := 0) hx hb hr (fun t ht hW => ⟨⟨0, (1, ts, f1), rfl, Or.inl ⟨hl1, rfl⟩, by rw [ht]; exact hP, va_K.moved hW.alike hK, hD⟩, hS.F ht⟩) hS.2.2 dX1_put_34
set_option maxHeartbeats 4000000 in
set_option maxRecDepth 100000 in
theorem r_assume (l : Launch) (dC : Nat → ClassId) (dI : Nat → Nat → Nat) (h : Nat) (q1 : Nat) (q2 : Nat) (q3 : Nat) (q4 : Nat) (q5 : Nat) (q6 : Nat) (q7 : Nat) (k1 : ClassId) (k2 : ClassId) (k3 : ClassId) (k4 : ClassId) (k5 : ClassId) (k6 : ClassId) (k7 : ClassId) (f1 : Nat → Int32) (f2 : Nat → Int32) (f3 : Nat → Int32) (f4 : Nat → Int32) (f5 : Nat → Int32) (f6 : Nat → Int64) (f7 : Nat → Int64) (th : Int32) (ts : Nat) (cn : Nat) (lv : Nat) (an : Nat) (md : Int32) (p0 : Int32) (sz : Nat) (han : an ≤ 18) : Met l yX1_assume wsX1_assume ({ frames := 1, cells := 0, slots := 0, locals := 40 }) (va_Pc [.ref h, .int p0] (fun U => U.heap.size = sz ∧ va_P (dC, dI) vwCl [zO h th q1 (nI ts) (nI cn) q2 q3 q4 (nI lv) q5 (nI an) md q6 q7, (q1, .inl (k1, 18, .inl f1)), (q2, .inl (k2, 7200, .inl f2)), (q3, .inl (k3, 400, .inl f3)), (q4, .inl (k4, 400, .inl f4)), (q5, .inl (k5, 18, .inl f5)), (q6, .inl (k6, 4096, .inr (.inl f6))), (q7, .inl (k7, 6, .inr (.inl f7)))] U.heap ∧ va_K (dC, dI) vwCl [(k1, .int), (k2, .int), (k3, .int), (k4, .int), (k5, .int), (k6, .long), (k7, .long)] U ∧ va_D (fun _ => True) [zO h th q1 (nI ts) (nI cn) q2 q3 q4 (nI lv) q5 (nI an) md q6 q7, (q1, .inl (k1, 18, .inl f1)), (q2, .inl (k2, 7200, .inl f2)), (q3, .inl (k3, 400, .inl f3)), (q4, .inl (k4, 400, .inl f4)), (q5, .inl (k5, 18, .inl f5)), (q6, .inl (k6, 4096, .inr (.inl f6))), (q7, .inl (k7, 6, .inr (.inl f7)))])) (va_Qi (fun (r : Int32) (u : Int32 × Nat × (Nat → Int32) × Int32) => (¬ yLit p0 ∧ u = (1, an, f5, md)) ∨ (yLit p0 ∧ an = 18 ∧ u = (2, an, f5, md)) ∨ (yLit p0 ∧ an < 18 ∧ r = nI (an + 1) ∧ u = (0, an + 1, upd f5 an p0, -1))) (fun (u : Int32 × Nat × (Nat → Int32) × Int32) (t : State) => va_P (dC, dI) vwCl [zO h u.1 q1 (nI ts) (nI cn) q2 q3 q4 (nI lv) q5 (nI u.2.1) u.2.2.2 q6 q7, (q1, .inl (k1, 18, .inl f1)), (q2, .inl (k2, 7200, .inl f2)), (q3, .inl (k3, 400, .inl f3)), (q4, .inl (k4, 400, .inl f4)), (q5, .inl (k5, 18, .inl u.2.2.1)), (q6, .inl (k6, 4096, .inr (.inl f6))), (q7, .inl (k7, 6, .inr (.inl f7)))] t.heap ∧ va_K (dC, dI) vwCl [(k1, .int), (k2, .int), (k3, .int), (k4, .int), (k5, .int), (k6, .long), (k7, .long)] t ∧ va_D (va_A [zO h th q1 (nI ts) (nI cn) q2 q3 q4 (nI lv) q5 (nI an) md q6 q7, (q1, .inl (k1, 18, .inl f1)), (q2, .inl (k2, 7200, .inl f2)), (q3, .inl (k3, 400, .inl f3)), (q4, .inl (k4, 400, .inl f4)), (q5, .inl (k5, 18, .inl f5)), (q6, .inl (k6, 4096, .inr (.inl f6))), (q7, .inl (k7, 6, .inr (.inl f7)))] sz) [zO h u.1 q1 (nI ts) (nI cn) q2 q3 q4 (nI lv) q5 (nI u.2.1) u.2.2.2 q6 q7, (q1, .inl (k1, 18, .inl f1)), (q2, .inl (k2, 7200, .inl f2)), (q3, .inl (k3, 400, .inl f3)), (q4, .inl (k4, 400, .inl f4)), (q5, .inl (k5, 18, .inl u.2.2.1)), (q6, .inl (k6, 4096, .inr (.inl f6))), (q7, .inl (k7, 6, .inr (.inl f7)))]) (va_A [zO h th q1 (nI ts) (nI cn) q2 q3 q4 (nI lv) q5 (nI an) md q6 q7, (q1, .inl (k1, 18, .inl f1)), (q2, .inl (k2, 7200, .inl f2)), (q3, .inl (k3, 400, .inl f3)), (q4, .inl (k4, 400, .inl f4)), (q5, .inl (k5, 18, .inl f5)), (q6, .inl (k6, 4096, .inr (.inl f6))), (q7, .inl (k7, 6, .inr (.inl f7)))] sz)) 0 0 (va_A [zO h th q1 (nI ts) (nI cn) q2 q3 q4 (nI lv) q5 (nI an) md q6 q7, (q1, .inl (k1, 18, .inl f1)), (q2, .inl (k2, 7200, .inl f2)), (q3, .inl (k3, 400, .inl f3)), (q4, .inl (k4, 400, .inl f4)), (q5, .inl (k5, 18, .inl f5)), (q6, .inl (k6, 4096, .inr (.inl f6))), (q7, .inl (k7, 6, .inr (.inl f7)))] sz) := by
  refine Met.ofW (cc := cX1_assume) (maxL := 2) (ret := (some .int)) (by decide) rfl ?_
  intro p e s m args below meth c s₁ B hml hv
  obtain ⟨rfl, hsz, hP, hK, hD0⟩ := hv
  have hx := B.exec
  have hb := B.bytes
  have hr := B.returns
  have hts := atoms_spec (ws := wsX1_assume) B.pre
  have htA : ∀ w ∈ wsA, w.before _ s = true := fun w h => hts w (List.mem_cons_of_mem _ h)
  have hown : s.vm.findClass RX1 = some m.cls := findClass_of_methodNamed B.named
  have hlocks := B.notSynchronized
  subst hsz
  have hD := hD0.self (sz := s.heap.size)
  generalize hAe : va_A [zO h th q1 (nI ts) (nI cn) q2 q3 q4 (nI lv) q5 (nI an) md q6 q7, (q1, .inl (k1, 18, .inl f1)), (q2, .inl (k2, 7200, .inl f2)), (q3, .inl (k3, 400, .inl f3)), (q4, .inl (k4, 400, .inl f4)), (q5, .inl (k5, 18, .inl f5)), (q6, .inl (k6, 4096, .inr (.inl f6))), (q7, .inl (k7, 6, .inr (.inl f7)))] s.heap.size = A at hD ⊢
  have hA : ∀ q : Nat, s.heap.size ≤ q → A q := fun q h => by rw [← hAe]; exact Or.inr h
  have hS : va_S A s.heap s.heap [] := va_S.rf
  have hP : va_P (dC, dI) vwCl [zO h th q1 (nI ts) (nI cn) q2 q3 q4 (nI lv) q5 (nI an) md q6 q7, (q1, .inl (k1, 18, .inl f1)), (q2, .inl (k2, 7200, .inl f2)), (q3, .inl (k3, 400, .inl f3)), (q4, .inl (k4, 400, .inl f4)), (q5, .inl (k5, 18, .inl f5)), (q6, .inl (k6, 4096, .inr (.inl f6))), (q7, .inl (k7, 6, .inr (.inl f7)))] s.heap := hP
  have hl := lv_entry ([.ref h, .int p0]) (n := 2) (Nat.le_of_ble_eq_true rfl)
  rw [lg_entry_eq]
  generalize (lg_sl ([.ref h, .int p0]) ++ List.replicate (2 - (lg_sl ([.ref h, .int p0])).length) Slot.unset).toArray = ls at hl ⊢
  have hl : lv_has ls 2 [(0, .ref h), (1, .int p0)] := hl
  refine lv_aload_n hx hb dX1_assume_0 rfl (lv_at hl 0 rfl) ?_
  refine lv_iload_n hx hb dX1_assume_1 rfl (lv_at hl 1 rfl) ?_
  have hPc := hP.sub (ws' := []) [] rfl
  have hDc := hD.sub (ws' := []) [] (by decide) rfl
  have hKc := hK.sub (tys' := []) [] rfl
  have hFc := va_free (wc := []) hD hS hA [] rfl
  refine va_calli (va_runS (As := [.int p0]) (rest := [.ref h]) ⟨hx, hb, hml, hown, htA⟩ (r_isLiteral l dC dI p0 s.heap.size) (va_cwS 1 htA gX1_73 rfl rfl rfl (by decide +kernel) ⟨Nat.le_of_ble_eq_true rfl, Nat.le_of_ble_eq_true rfl⟩) ⟨fun a U g mk q => by obtain ⟨q0, q1, qP, qK, qD⟩ := q; exact ⟨q0, q1, qP, va_K.moved (u := U) (U := U.calling g mk a) (Vm.Alike.refl U.vm) qK, qD⟩, fun U hU hW => ⟨rfl, by rw [hU], by rw [hU]; exact hPc, va_K.moved hW.alike hKc, hDc.weaken (fun _ _ _ _ => trivial)⟩⟩ rfl rfl hl.1 rfl (lv_room (Nat.le_of_ble_eq_true rfl)) dX1_assume_2 ⟨Nat.zero_le _, Nat.zero_le _⟩) hS (fun q _ h => hFc q h) hFc (fun rl u t H1 locs ht hvm hw hB hz1 hk1 hS => ?_)
  obtain ⟨hP1, hK1, hD1⟩ := hB
  rw [ht] at hP1
  try dsimp only at hw hP1 hD1
  obtain ⟨hP, hD⟩ := va_join (wr := [zO h th q1 (nI ts) (nI cn) q2 q3 q4 (nI lv) q5 (nI an) md q6 q7, (q1, .inl (k1, 18, .inl f1)), (q2, .inl (k2, 7200, .inl f2)), (q3, .inl (k3, 400, .inl f3)), (q4, .inl (k4, 400, .inl f4)), (q5, .inl (k5, 18, .inl f5)), (q6, .inl (k6, 4096, .inr (.inl f6))), (q7, .inl (k7, 6, .inr (.inl f7)))]) (w1 := []) hP hD [] [0, 1, 2, 3, 4, 5, 6, 7] rfl rfl (by decide) (by decide) hk1 hFc hP1 hD1
  generalize H1 = H at hP hS ⊢
  have hP : va_P (dC, dI) vwCl [zO h th q1 (nI ts) (nI cn) q2 q3 q4 (nI lv) q5 (nI an) md q6 q7, (q1, .inl (k1, 18, .inl f1)), (q2, .inl (k2, 7200, .inl f2)), (q3, .inl (k3, 400, .inl f3)), (q4, .inl (k4, 400, .inl f4)), (q5, .inl (k5, 18, .inl f5)), (q6, .inl (k6, 4096, .inr (.inl f6))), (q7, .inl (k7, 6, .inr (.inl f7)))] H := hP.sub [0, 1, 2, 3, 4, 5, 6, 7] rfl
  have hD : va_D A [zO h th q1 (nI ts) (nI cn) q2 q3 q4 (nI lv) q5 (nI an) md q6 q7, (q1, .inl (k1, 18, .inl f1)), (q2, .inl (k2, 7200, .inl f2)), (q3, .inl (k3, 400, .inl f3)), (q4, .inl (k4, 400, .inl f4)), (q5, .inl (k5, 18, .inl f5)), (q6, .inl (k6, 4096, .inr (.inl f6))), (q7, .inl (k7, 6, .inr (.inl f7)))] := hD.sub [0, 1, 2, 3, 4, 5, 6, 7] (by decide) rfl
  rcases hw with ⟨rfl, hl1⟩ | ⟨rfl, hl1⟩
  · refine lv_if_ne (tgt := 12) hx hb dX1_assume_5 (by decide) (fun cb_45 => ?_) (fun cb_45 => ?_)
    · refine lv_iconst (v := 0) hx hb dX1_assume_12 (by decide) ?_
      refine lv_aload_n hx hb dX1_assume_13 rfl (lv_at hl 0 rfl) ?_
      refine va_get (D := (dC, dI)) (ci := 1) (v := .int (nI an)) (C := RX1) (T := TX1) (N := 13) hx hb htA inX1 hown hK hP 0 rfl rfl 9 (by decide) (htA _ lkX1_67) (fun _ h9 => h9) rfl dX1_assume_14 ?_
      refine lv_bipush (v := 18) hx hb dX1_assume_17 (by decide) ?_
      refine lv_icmp_ne (tgt := 26) hx hb dX1_assume_19 (by decide) (fun cb_50 => ?_) (fun cb_50 => ?_)
      · have h18 : an < 18 := by
          rcases Nat.lt_or_ge an 18 with q | q
          · exact q
          · exact absurd (by rw [show an = 18 by omega]; rfl) cb_50
        refine lv_iconst (v := 0) hx hb dX1_assume_26 (by decide) ?_
        have hPc := hP.sub (ws' := [zO h th q1 (nI ts) (nI cn) q2 q3 q4 (nI lv) q5 (nI an) md q6 q7]) [0] rfl
        have hDc := hD.sub (ws' := [zO h th q1 (nI ts) (nI cn) q2 q3 q4 (nI lv) q5 (nI an) md q6 q7]) [0] (by decide) rfl
        have hKc := hK.sub (tys' := []) [] rfl
        have hFc := va_free (wc := [zO h th q1 (nI ts) (nI cn) q2 q3 q4 (nI lv) q5 (nI an) md q6 q7]) hD hS hA [0] rfl
        refine va_calli (va_runV (As := [.int 0, .int 0]) (rest := []) ⟨hx, hb, hml, hown, htA⟩ (r_throwing l dC dI h q1 q2 q3 q4 q5 q6 q7   th (nI ts) (nI cn) (nI lv) (nI an) md 0 0 H.size) (cwV 2 htA gX1_80 rfl rfl rfl (by decide +kernel) ⟨Nat.le_of_ble_eq_true rfl, Nat.le_of_ble_eq_true rfl⟩) ⟨fun a U g mk q => by obtain ⟨q0, q1, qP, qK, qD⟩ := q; exact ⟨q0, q1, qP, va_K.moved (u := U) (U := U.calling g mk a) (Vm.Alike.refl U.vm) qK, qD⟩, va_recv hKc hPc (ci := 1) (q0 := 0) rfl rfl, fun U hU hW => ⟨rfl, by rw [hU], by rw [hU]; exact hPc, va_K.moved hW.alike hKc, hDc.weaken (fun _ _ _ _ => trivial)⟩⟩ rfl rfl hl.1 rfl (lv_room (Nat.le_of_ble_eq_true rfl)) dX1_assume_27 ⟨Nat.zero_le _, Nat.zero_le _⟩) hS (fun q _ h => hFc q h) hFc (fun rth u t H1 locs ht hvm hw hB hz1 hk1 hS => ?_)
        obtain ⟨hP1, hK1, hD1⟩ := hB
        rw [ht] at hP1
        try dsimp only at hw hP1 hD1
        obtain ⟨hP, hD⟩ := va_join (wr := [(q1, .inl (k1, 18, .inl f1)), (q2, .inl (k2, 7200, .inl f2)), (q3, .inl (k3, 400, .inl f3)), (q4, .inl (k4, 400, .inl f4)), (q5, .inl (k5, 18, .inl f5)), (q6, .inl (k6, 4096, .inr (.inl f6))), (q7, .inl (k7, 6, .inr (.inl f7)))]) (w1 := [zO h u q1 (nI ts) (nI cn) q2 q3 q4 (nI lv) q5 (nI an) md q6 q7]) hP hD [0] [1, 2, 3, 4, 5, 6, 7] rfl rfl (by decide) (by decide) hk1 hFc hP1 hD1
        generalize H1 = H at hP hS ⊢
        have hP : va_P (dC, dI) vwCl [zO h u q1 (nI ts) (nI cn) q2 q3 q4 (nI lv) q5 (nI an) md q6 q7, (q1, .inl (k1, 18, .inl f1)), (q2, .inl (k2, 7200, .inl f2)), (q3, .inl (k3, 400, .inl f3)), (q4, .inl (k4, 400, .inl f4)), (q5, .inl (k5, 18, .inl f5)), (q6, .inl (k6, 4096, .inr (.inl f6))), (q7, .inl (k7, 6, .inr (.inl f7)))] H := hP.sub [7, 0, 1, 2, 3, 4, 5, 6] rfl
        have hD : va_D A [zO h u q1 (nI ts) (nI cn) q2 q3 q4 (nI lv) q5 (nI an) md q6 q7, (q1, .inl (k1, 18, .inl f1)), (q2, .inl (k2, 7200, .inl f2)), (q3, .inl (k3, 400, .inl f3)), (q4, .inl (k4, 400, .inl f4)), (q5, .inl (k5, 18, .inl f5)), (q6, .inl (k6, 4096, .inr (.inl f6))), (q7, .inl (k7, 6, .inr (.inl f7)))] := hD.sub [7, 0, 1, 2, 3, 4, 5, 6] (by decide) rfl
        obtain ⟨hu9, hr9⟩ : u = 0 ∧ rth = 0 := by
          rcases hw with h | h | h
          · exact absurd rfl h.1
          · exact absurd rfl h.2.1
          · exact h.2.2
        subst hu9
        subst hr9
        refine lv_if_eq (tgt := 35) hx hb dX1_assume_30 (by decide) (fun cb_52 => ?_) (fun cb_52 => ?_)
        · refine lv_aload_n hx hb dX1_assume_35 rfl (lv_at hl 0 rfl) ?_
          refine va_get (D := (dC, dI)) (ci := 1) (v := .ref q5) (C := RX1) (T := TX1) (N := 13) hx hb htA inX1 hown hK hP 0 rfl rfl 8 (by decide) (htA _ lkX1_22) (fun _ h9 => h9) rfl dX1_assume_36 ?_
          refine lv_aload_n hx hb dX1_assume_39 rfl (lv_at hl 0 rfl) ?_
          refine va_get (D := (dC, dI)) (ci := 1) (v := .int (nI an)) (C := RX1) (T := TX1) (N := 13) hx hb htA inX1 hown hK hP 0 rfl rfl 9 (by decide) (htA _ lkX1_67) (fun _ h9 => h9) rfl dX1_assume_40 ?_
          refine lv_iload_n hx hb dX1_assume_43 rfl (lv_at hl 1 rfl) ?_
          refine yv_iast hx hb hK hP hD hS 5 4 rfl rfl (k := an) h18 (by decide) dX1_assume_44 (fun H locs hP hD hS => ?_)
          have hP : va_P (dC, dI) vwCl [zO h 0 q1 (nI ts) (nI cn) q2 q3 q4 (nI lv) q5 (nI an) md q6 q7, (q1, .inl (k1, 18, .inl f1)), (q2, .inl (k2, 7200, .inl f2)), (q3, .inl (k3, 400, .inl f3)), (q4, .inl (k4, 400, .inl f4)), (q5, .inl (k5, 18, .inl (upd f5 an p0))), (q6, .inl (k6, 4096, .inr (.inl f6))), (q7, .inl (k7, 6, .inr (.inl f7)))] H := hP
          have hD : va_D A [zO h 0 q1 (nI ts) (nI cn) q2 q3 q4 (nI lv) q5 (nI an) md q6 q7, (q1, .inl (k1, 18, .inl f1)), (q2, .inl (k2, 7200, .inl f2)), (q3, .inl (k3, 400, .inl f3)), (q4, .inl (k4, 400, .inl f4)), (q5, .inl (k5, 18, .inl (upd f5 an p0))), (q6, .inl (k6, 4096, .inr (.inl f6))), (q7, .inl (k7, 6, .inr (.inl f7)))] := hD
          refine lv_aload_n hx hb dX1_assume_45 rfl (lv_at hl 0 rfl) ?_
          refine lv_dup hx hb dX1_assume_46 rfl ?_
          refine va_get (D := (dC, dI)) (ci := 1) (v := .int (nI an)) (C := RX1) (T := TX1) (N := 13) hx hb htA inX1 hown hK hP 0 rfl rfl 9 (by decide) (htA _ lkX1_67) (fun _ h9 => h9) rfl dX1_assume_47 ?_
          refine lv_iconst (v := 1) hx hb dX1_assume_50 (by decide) ?_
          refine lv_iadd hx hb dX1_assume_51 ?_
          refine W.eq (g2 := F0 m 52 ls [.int (nI (an + 1)), .ref h]) (by rw [nI_1]) ?_
          refine va_put (D := (dC, dI)) (ci := 1) (v := .int (nI (an + 1))) (ty := .int) (C := RX1) (T := TX1) (N := 13) hx hb htA inX1 tyX1 tyX1_ok nX1 hown hK hP hD hS 0 rfl rfl 9 (by decide) (htA _ lkX1_67) (fun _ h9 => h9) rfl (by decide +kernel) rfl rfl (Nat.le_of_ble_eq_true rfl) dX1_assume_52 (fun H locs hP hD hS => ?_)
          have hP : va_P (dC, dI) vwCl [zO h 0 q1 (nI ts) (nI cn) q2 q3 q4 (nI lv) q5 (nI (an + 1)) md q6 q7, (q1, .inl (k1, 18, .inl f1)), (q2, .inl (k2, 7200, .inl f2)), (q3, .inl (k3, 400, .inl f3)), (q4, .inl (k4, 400, .inl f4)), (q5, .inl (k5, 18, .inl (upd f5 an p0))), (q6, .inl (k6, 4096, .inr (.inl f6))), (q7, .inl (k7, 6, .inr (.inl f7)))] H := hP
          have hD : va_D A [zO h 0 q1 (nI ts) (nI cn) q2 q3 q4 (nI lv) q5 (nI (an + 1)) md q6 q7, (q1, .inl (k1, 18, .inl f1)), (q2, .inl (k2, 7200, .inl f2)), (q3, .inl (k3, 400, .inl f3)), (q4, .inl (k4, 400, .inl f4)), (q5, .inl (k5, 18, .inl (upd f5 an p0))), (q6, .inl (k6, 4096, .inr (.inl f6))), (q7, .inl (k7, 6, .inr (.inl f7)))] := hD
          refine lv_aload_n hx hb dX1_assume_55 rfl (lv_at hl 0 rfl) ?_
          refine lv_iconst (v := (-1)) hx hb dX1_assume_56 (by decide) ?_
          refine va_put (D := (dC, dI)) (ci := 1) (v := .int (-1)) (ty := .int) (C := RX1) (T := TX1) (N := 13) hx hb htA inX1 tyX1 tyX1_ok nX1 hown hK hP hD hS 0 rfl rfl 10 (by decide) (htA _ lkX1_25) (fun _ h9 => h9) rfl (by decide +kernel) rfl rfl (Nat.le_of_ble_eq_true rfl) dX1_assume_57 (fun H locs hP hD hS => ?_)
          have hP : va_P (dC, dI) vwCl [zO h 0 q1 (nI ts) (nI cn) q2 q3 q4 (nI lv) q5 (nI (an + 1)) (-1) q6 q7, (q1, .inl (k1, 18, .inl f1)), (q2, .inl (k2, 7200, .inl f2)), (q3, .inl (k3, 400, .inl f3)), (q4, .inl (k4, 400, .inl f4)), (q5, .inl (k5, 18, .inl (upd f5 an p0))), (q6, .inl (k6, 4096, .inr (.inl f6))), (q7, .inl (k7, 6, .inr (.inl f7)))] H := hP
          have hD : va_D A [zO h 0 q1 (nI ts) (nI cn) q2 q3 q4 (nI lv) q5 (nI (an + 1)) (-1) q6 q7, (q1, .inl (k1, 18, .inl f1)), (q2, .inl (k2, 7200, .inl f2)), (q3, .inl (k3, 400, .inl f3)), (q4, .inl (k4, 400, .inl f4)), (q5, .inl (k5, 18, .inl (upd f5 an p0))), (q6, .inl (k6, 4096, .inr (.inl f6))), (q7, .inl (k7, 6, .inr (.inl f7)))] := hD
          refine lv_aload_n hx hb dX1_assume_60 rfl (lv_at hl 0 rfl) ?_
          refine va_get (D := (dC, dI)) (ci := 1) (v := .int (nI (an + 1))) (C := RX1) (T := TX1) (N := 13) hx hb htA inX1 hown hK hP 0 rfl rfl 9 (by decide) (htA _ lkX1_67) (fun _ h9 => h9) rfl dX1_assume_61 ?_
          exact W.iret (v := nI (an + 1)) hx hb hr (fun t ht hW => ⟨⟨nI (an + 1), (0, an + 1, upd f5 an p0, -1), rfl, Or.inr (Or.inr ⟨hl1, h18, rfl, rfl⟩), by rw [ht]; exact hP, va_K.moved hW.alike hK, hD⟩, hS.F ht⟩) hS.2.2 dX1_assume_64
        · exact absurd rfl cb_52
      · have h18 : an = 18 := (nI_eq (a := an) (b := 18) (by omega) (by omega)).mp cb_50
        refine lv_iconst (v := 1) hx hb dX1_assume_22 (by decide) ?_
        refine lv_goto (tgt := 27) hx hb dX1_assume_23 (by decide) ?_
        have hPc := hP.sub (ws' := [zO h th q1 (nI ts) (nI cn) q2 q3 q4 (nI lv) q5 (nI an) md q6 q7]) [0] rfl
        have hDc := hD.sub (ws' := [zO h th q1 (nI ts) (nI cn) q2 q3 q4 (nI lv) q5 (nI an) md q6 q7]) [0] (by decide) rfl
        have hKc := hK.sub (tys' := []) [] rfl
        have hFc := va_free (wc := [zO h th q1 (nI ts) (nI cn) q2 q3 q4 (nI lv) q5 (nI an) md q6 q7]) hD hS hA [0] rfl
        refine va_calli (va_runV (As := [.int 0, .int 1]) (rest := []) ⟨hx, hb, hml, hown, htA⟩ (r_throwing l dC dI h q1 q2 q3 q4 q5 q6 q7   th (nI ts) (nI cn) (nI lv) (nI an) md 0 1 H.size) (cwV 2 htA gX1_80 rfl rfl rfl (by decide +kernel) ⟨Nat.le_of_ble_eq_true rfl, Nat.le_of_ble_eq_true rfl⟩) ⟨fun a U g mk q => by obtain ⟨q0, q1, qP, qK, qD⟩ := q; exact ⟨q0, q1, qP, va_K.moved (u := U) (U := U.calling g mk a) (Vm.Alike.refl U.vm) qK, qD⟩, va_recv hKc hPc (ci := 1) (q0 := 0) rfl rfl, fun U hU hW => ⟨rfl, by rw [hU], by rw [hU]; exact hPc, va_K.moved hW.alike hKc, hDc.weaken (fun _ _ _ _ => trivial)⟩⟩ rfl rfl hl.1 rfl (lv_room (Nat.le_of_ble_eq_true rfl)) dX1_assume_27 ⟨Nat.zero_le _, Nat.zero_le _⟩) hS (fun q _ h => hFc q h) hFc (fun rth u t H1 locs ht hvm hw hB hz1 hk1 hS => ?_)
        obtain ⟨hP1, hK1, hD1⟩ := hB
        rw [ht] at hP1
        try dsimp only at hw hP1 hD1
        obtain ⟨hP, hD⟩ := va_join (wr := [(q1, .inl (k1, 18, .inl f1)), (q2, .inl (k2, 7200, .inl f2)), (q3, .inl (k3, 400, .inl f3)), (q4, .inl (k4, 400, .inl f4)), (q5, .inl (k5, 18, .inl f5)), (q6, .inl (k6, 4096, .inr (.inl f6))), (q7, .inl (k7, 6, .inr (.inl f7)))]) (w1 := [zO h u q1 (nI ts) (nI cn) q2 q3 q4 (nI lv) q5 (nI an) md q6 q7]) hP hD [0] [1, 2, 3, 4, 5, 6, 7] rfl rfl (by decide) (by decide) hk1 hFc hP1 hD1
        generalize H1 = H at hP hS ⊢
        have hP : va_P (dC, dI) vwCl [zO h u q1 (nI ts) (nI cn) q2 q3 q4 (nI lv) q5 (nI an) md q6 q7, (q1, .inl (k1, 18, .inl f1)), (q2, .inl (k2, 7200, .inl f2)), (q3, .inl (k3, 400, .inl f3)), (q4, .inl (k4, 400, .inl f4)), (q5, .inl (k5, 18, .inl f5)), (q6, .inl (k6, 4096, .inr (.inl f6))), (q7, .inl (k7, 6, .inr (.inl f7)))] H := hP.sub [7, 0, 1, 2, 3, 4, 5, 6] rfl
        have hD : va_D A [zO h u q1 (nI ts) (nI cn) q2 q3 q4 (nI lv) q5 (nI an) md q6 q7, (q1, .inl (k1, 18, .inl f1)), (q2, .inl (k2, 7200, .inl f2)), (q3, .inl (k3, 400, .inl f3)), (q4, .inl (k4, 400, .inl f4)), (q5, .inl (k5, 18, .inl f5)), (q6, .inl (k6, 4096, .inr (.inl f6))), (q7, .inl (k7, 6, .inr (.inl f7)))] := hD.sub [7, 0, 1, 2, 3, 4, 5, 6] (by decide) rfl
        obtain ⟨hu9, hr9⟩ : u = 2 ∧ rth = 1 := by
          rcases hw with h | h | h
          · exact absurd rfl h.1
          · exact h.2.2
          · exact absurd h.2.1 (by decide)
        subst hu9
        subst hr9
        refine lv_if_eq (tgt := 35) hx hb dX1_assume_30 (by decide) (fun cb_51 => ?_) (fun cb_51 => ?_)
        · exact absurd cb_51 (by decide)
        · refine lv_iconst (v := 0) hx hb dX1_assume_33 (by decide) ?_
          exact W.iret (v := 0) hx hb hr (fun t ht hW => ⟨⟨0, (2, an, f5, md), rfl, Or.inr (Or.inl ⟨hl1, h18, rfl⟩), by rw [ht]; exact hP, va_K.moved hW.alike hK, hD⟩, hS.F ht⟩) hS.2.2 dX1_assume_34
    · exact absurd cb_45 (by decide)
  · refine lv_if_ne (tgt := 12) hx hb dX1_assume_5 (by decide) (fun cb_46 => ?_) (fun cb_46 => ?_)
    · exact absurd rfl cb_46
    · refine lv_iconst (v := 1) hx hb dX1_assume_8 (by decide) ?_
      refine lv_goto (tgt := 13) hx hb dX1_assume_9 (by decide) ?_
      refine lv_aload_n hx hb dX1_assume_13 rfl (lv_at hl 0 rfl) ?_
      refine va_get (D := (dC, dI)) (ci := 1) (v := .int (nI an)) (C := RX1) (T := TX1) (N := 13) hx hb htA inX1 hown hK hP 0 rfl rfl 9 (by decide) (htA _ lkX1_67) (fun _ h9 => h9) rfl dX1_assume_14 ?_
      refine lv_bipush (v := 18) hx hb dX1_assume_17 (by decide) ?_
      refine lv_icmp_ne (tgt := 26) hx hb dX1_assume_19 (by decide) (fun cb_47 => ?_) (fun cb_47 => ?_)
      · have h18 : an < 18 := by
          rcases Nat.lt_or_ge an 18 with q | q
          · exact q
          · exact absurd (by rw [show an = 18 by omega]; rfl) cb_47
        refine lv_iconst (v := 0) hx hb dX1_assume_26 (by decide) ?_
        have hPc := hP.sub (ws' := [zO h th q1 (nI ts) (nI cn) q2 q3 q4 (nI lv) q5 (nI an) md q6 q7]) [0] rfl
        have hDc := hD.sub (ws' := [zO h th q1 (nI ts) (nI cn) q2 q3 q4 (nI lv) q5 (nI an) md q6 q7]) [0] (by decide) rfl
        have hKc := hK.sub (tys' := []) [] rfl
        have hFc := va_free (wc := [zO h th q1 (nI ts) (nI cn) q2 q3 q4 (nI lv) q5 (nI an) md q6 q7]) hD hS hA [0] rfl
        refine va_calli (va_runV (As := [.int 1, .int 0]) (rest := []) ⟨hx, hb, hml, hown, htA⟩ (r_throwing l dC dI h q1 q2 q3 q4 q5 q6 q7   th (nI ts) (nI cn) (nI lv) (nI an) md 1 0 H.size) (cwV 2 htA gX1_80 rfl rfl rfl (by decide +kernel) ⟨Nat.le_of_ble_eq_true rfl, Nat.le_of_ble_eq_true rfl⟩) ⟨fun a U g mk q => by obtain ⟨q0, q1, qP, qK, qD⟩ := q; exact ⟨q0, q1, qP, va_K.moved (u := U) (U := U.calling g mk a) (Vm.Alike.refl U.vm) qK, qD⟩, va_recv hKc hPc (ci := 1) (q0 := 0) rfl rfl, fun U hU hW => ⟨rfl, by rw [hU], by rw [hU]; exact hPc, va_K.moved hW.alike hKc, hDc.weaken (fun _ _ _ _ => trivial)⟩⟩ rfl rfl hl.1 rfl (lv_room (Nat.le_of_ble_eq_true rfl)) dX1_assume_27 ⟨Nat.zero_le _, Nat.zero_le _⟩) hS (fun q _ h => hFc q h) hFc (fun rth u t H1 locs ht hvm hw hB hz1 hk1 hS => ?_)
        obtain ⟨hP1, hK1, hD1⟩ := hB
        rw [ht] at hP1
        try dsimp only at hw hP1 hD1
        obtain ⟨hP, hD⟩ := va_join (wr := [(q1, .inl (k1, 18, .inl f1)), (q2, .inl (k2, 7200, .inl f2)), (q3, .inl (k3, 400, .inl f3)), (q4, .inl (k4, 400, .inl f4)), (q5, .inl (k5, 18, .inl f5)), (q6, .inl (k6, 4096, .inr (.inl f6))), (q7, .inl (k7, 6, .inr (.inl f7)))]) (w1 := [zO h u q1 (nI ts) (nI cn) q2 q3 q4 (nI lv) q5 (nI an) md q6 q7]) hP hD [0] [1, 2, 3, 4, 5, 6, 7] rfl rfl (by decide) (by decide) hk1 hFc hP1 hD1
        generalize H1 = H at hP hS ⊢
        have hP : va_P (dC, dI) vwCl [zO h u q1 (nI ts) (nI cn) q2 q3 q4 (nI lv) q5 (nI an) md q6 q7, (q1, .inl (k1, 18, .inl f1)), (q2, .inl (k2, 7200, .inl f2)), (q3, .inl (k3, 400, .inl f3)), (q4, .inl (k4, 400, .inl f4)), (q5, .inl (k5, 18, .inl f5)), (q6, .inl (k6, 4096, .inr (.inl f6))), (q7, .inl (k7, 6, .inr (.inl f7)))] H := hP.sub [7, 0, 1, 2, 3, 4, 5, 6] rfl
        have hD : va_D A [zO h u q1 (nI ts) (nI cn) q2 q3 q4 (nI lv) q5 (nI an) md q6 q7, (q1, .inl (k1, 18, .inl f1)), (q2, .inl (k2, 7200, .inl f2)), (q3, .inl (k3, 400, .inl f3)), (q4, .inl (k4, 400, .inl f4)), (q5, .inl (k5, 18, .inl f5)), (q6, .inl (k6, 4096, .inr (.inl f6))), (q7, .inl (k7, 6, .inr (.inl f7)))] := hD.sub [7, 0, 1, 2, 3, 4, 5, 6] (by decide) rfl
        obtain ⟨hu9, hr9⟩ : u = 1 ∧ rth = 1 := by
          rcases hw with h | h | h
          · exact h.2
          · exact absurd h.1 (by decide)
          · exact absurd h.1 (by decide)
        subst hu9
        subst hr9
        refine lv_if_eq (tgt := 35) hx hb dX1_assume_30 (by decide) (fun cb_49 => ?_) (fun cb_49 => ?_)
        · exact absurd cb_49 (by decide)
        · refine lv_iconst (v := 0) hx hb dX1_assume_33 (by decide) ?_
          exact W.iret (v := 0) hx hb hr (fun t ht hW => ⟨⟨0, (1, an, f5, md), rfl, Or.inl ⟨hl1, rfl⟩, by rw [ht]; exact hP, va_K.moved hW.alike hK, hD⟩, hS.F ht⟩) hS.2.2 dX1_assume_34
      · have h18 : an = 18 := (nI_eq (a := an) (b := 18) (by omega) (by omega)).mp cb_47
        refine lv_iconst (v := 1) hx hb dX1_assume_22 (by decide) ?_
        refine lv_goto (tgt := 27) hx hb dX1_assume_23 (by decide) ?_
        have hPc := hP.sub (ws' := [zO h th q1 (nI ts) (nI cn) q2 q3 q4 (nI lv) q5 (nI an) md q6 q7]) [0] rfl
        have hDc := hD.sub (ws' := [zO h th q1 (nI ts) (nI cn) q2 q3 q4 (nI lv) q5 (nI an) md q6 q7]) [0] (by decide) rfl
        have hKc := hK.sub (tys' := []) [] rfl
        have hFc := va_free (wc := [zO h th q1 (nI ts) (nI cn) q2 q3 q4 (nI lv) q5 (nI an) md q6 q7]) hD hS hA [0] rfl
        refine va_calli (va_runV (As := [.int 1, .int 1]) (rest := []) ⟨hx, hb, hml, hown, htA⟩ (r_throwing l dC dI h q1 q2 q3 q4 q5 q6 q7   th (nI ts) (nI cn) (nI lv) (nI an) md 1 1 H.size) (cwV 2 htA gX1_80 rfl rfl rfl (by decide +kernel) ⟨Nat.le_of_ble_eq_true rfl, Nat.le_of_ble_eq_true rfl⟩) ⟨fun a U g mk q => by obtain ⟨q0, q1, qP, qK, qD⟩ := q; exact ⟨q0, q1, qP, va_K.moved (u := U) (U := U.calling g mk a) (Vm.Alike.refl U.vm) qK, qD⟩, va_recv hKc hPc (ci := 1) (q0 := 0) rfl rfl, fun U hU hW => ⟨rfl, by rw [hU], by rw [hU]; exact hPc, va_K.moved hW.alike hKc, hDc.weaken (fun _ _ _ _ => trivial)⟩⟩ rfl rfl hl.1 rfl (lv_room (Nat.le_of_ble_eq_true rfl)) dX1_assume_27 ⟨Nat.zero_le _, Nat.zero_le _⟩) hS (fun q _ h => hFc q h) hFc (fun rth u t H1 locs ht hvm hw hB hz1 hk1 hS => ?_)
        obtain ⟨hP1, hK1, hD1⟩ := hB
        rw [ht] at hP1
        try dsimp only at hw hP1 hD1
        obtain ⟨hP, hD⟩ := va_join (wr := [(q1, .inl (k1, 18, .inl f1)), (q2, .inl (k2, 7200, .inl f2)), (q3, .inl (k3, 400, .inl f3)), (q4, .inl (k4, 400, .inl f4)), (q5, .inl (k5, 18, .inl f5)), (q6, .inl (k6, 4096, .inr (.inl f6))), (q7, .inl (k7, 6, .inr (.inl f7)))]) (w1 := [zO h u q1 (nI ts) (nI cn) q2 q3 q4 (nI lv) q5 (nI an) md q6 q7]) hP hD [0] [1, 2, 3, 4, 5, 6, 7] rfl rfl (by decide) (by decide) hk1 hFc hP1 hD1
        generalize H1 = H at hP hS ⊢
        have hP : va_P (dC, dI) vwCl [zO h u q1 (nI ts) (nI cn) q2 q3 q4 (nI lv) q5 (nI an) md q6 q7, (q1, .inl (k1, 18, .inl f1)), (q2, .inl (k2, 7200, .inl f2)), (q3, .inl (k3, 400, .inl f3)), (q4, .inl (k4, 400, .inl f4)), (q5, .inl (k5, 18, .inl f5)), (q6, .inl (k6, 4096, .inr (.inl f6))), (q7, .inl (k7, 6, .inr (.inl f7)))] H := hP.sub [7, 0, 1, 2, 3, 4, 5, 6] rfl
        have hD : va_D A [zO h u q1 (nI ts) (nI cn) q2 q3 q4 (nI lv) q5 (nI an) md q6 q7, (q1, .inl (k1, 18, .inl f1)), (q2, .inl (k2, 7200, .inl f2)), (q3, .inl (k3, 400, .inl f3)), (q4, .inl (k4, 400, .inl f4)), (q5, .inl (k5, 18, .inl f5)), (q6, .inl (k6, 4096, .inr (.inl f6))), (q7, .inl (k7, 6, .inr (.inl f7)))] := hD.sub [7, 0, 1, 2, 3, 4, 5, 6] (by decide) rfl
        obtain ⟨hu9, hr9⟩ : u = 1 ∧ rth = 1 := by
          rcases hw with h | h | h
          · exact h.2
          · exact absurd h.1 (by decide)
          · exact absurd h.1 (by decide)
        subst hu9
        subst hr9
        refine lv_if_eq (tgt := 35) hx hb dX1_assume_30 (by decide) (fun cb_48 => ?_) (fun cb_48 => ?_)
        · exact absurd cb_48 (by decide)
        · refine lv_iconst (v := 0) hx hb dX1_assume_33 (by decide) ?_
          exact W.iret (v := 0) hx hb hr (fun t ht hW => ⟨⟨0, (1, an, f5, md), rfl, Or.inl ⟨hl1, rfl⟩, by rw [ht]; exact hP, va_K.moved hW.alike hK, hD⟩, hS.F ht⟩) hS.2.2 dX1_assume_34
set_option maxHeartbeats 4000000 in
set_option maxRecDepth 100000 in
theorem r_open (l : Launch) (dC : Nat → ClassId) (dI : Nat → Nat → Nat) (h : Nat) (q1 : Nat) (q2 : Nat) (q3 : Nat) (q4 : Nat) (q5 : Nat) (q6 : Nat) (q7 : Nat) (k1 : ClassId) (k2 : ClassId) (k3 : ClassId) (k4 : ClassId) (k5 : ClassId) (k6 : ClassId) (k7 : ClassId) (f1 : Nat → Int32) (f2 : Nat → Int32) (f3 : Nat → Int32) (f4 : Nat → Int32) (f5 : Nat → Int32) (f6 : Nat → Int64) (f7 : Nat → Int64) (th : Int32) (ts : Nat) (cn : Nat) (lv : Nat) (an : Nat) (md : Int32) (sz : Nat) (hlv : lv ≤ 40) : Met l yX1_open wsX1_open ({ frames := 1, cells := 0, slots := 0, locals := 40 }) (va_Pc [.ref h] (fun U => U.heap.size = sz ∧ va_P (dC, dI) vwCl [zO h th q1 (nI ts) (nI cn) q2 q3 q4 (nI lv) q5 (nI an) md q6 q7, (q1, .inl (k1, 18, .inl f1)), (q2, .inl (k2, 7200, .inl f2)), (q3, .inl (k3, 400, .inl f3)), (q4, .inl (k4, 400, .inl f4)), (q5, .inl (k5, 18, .inl f5)), (q6, .inl (k6, 4096, .inr (.inl f6))), (q7, .inl (k7, 6, .inr (.inl f7)))] U.heap ∧ va_K (dC, dI) vwCl [(k1, .int), (k2, .int), (k3, .int), (k4, .int), (k5, .int), (k6, .long), (k7, .long)] U ∧ va_D (fun _ => True) [zO h th q1 (nI ts) (nI cn) q2 q3 q4 (nI lv) q5 (nI an) md q6 q7, (q1, .inl (k1, 18, .inl f1)), (q2, .inl (k2, 7200, .inl f2)), (q3, .inl (k3, 400, .inl f3)), (q4, .inl (k4, 400, .inl f4)), (q5, .inl (k5, 18, .inl f5)), (q6, .inl (k6, 4096, .inr (.inl f6))), (q7, .inl (k7, 6, .inr (.inl f7)))])) (va_Qi (fun (r : Int32) (u : Int32 × Nat × Int32) => (lv = 40 ∧ u = (1, lv, md)) ∨ (lv < 40 ∧ r = nI (lv + 1) ∧ u = (0, lv + 1, -1))) (fun (u : Int32 × Nat × Int32) (t : State) => va_P (dC, dI) vwCl [zO h u.1 q1 (nI ts) (nI cn) q2 q3 q4 (nI u.2.1) q5 (nI an) u.2.2 q6 q7, (q1, .inl (k1, 18, .inl f1)), (q2, .inl (k2, 7200, .inl f2)), (q3, .inl (k3, 400, .inl f3)), (q4, .inl (k4, 400, .inl f4)), (q5, .inl (k5, 18, .inl f5)), (q6, .inl (k6, 4096, .inr (.inl f6))), (q7, .inl (k7, 6, .inr (.inl f7)))] t.heap ∧ va_K (dC, dI) vwCl [(k1, .int), (k2, .int), (k3, .int), (k4, .int), (k5, .int), (k6, .long), (k7, .long)] t ∧ va_D (va_A [zO h th q1 (nI ts) (nI cn) q2 q3 q4 (nI lv) q5 (nI an) md q6 q7, (q1, .inl (k1, 18, .inl f1)), (q2, .inl (k2, 7200, .inl f2)), (q3, .inl (k3, 400, .inl f3)), (q4, .inl (k4, 400, .inl f4)), (q5, .inl (k5, 18, .inl f5)), (q6, .inl (k6, 4096, .inr (.inl f6))), (q7, .inl (k7, 6, .inr (.inl f7)))] sz) [zO h u.1 q1 (nI ts) (nI cn) q2 q3 q4 (nI u.2.1) q5 (nI an) u.2.2 q6 q7, (q1, .inl (k1, 18, .inl f1)), (q2, .inl (k2, 7200, .inl f2)), (q3, .inl (k3, 400, .inl f3)), (q4, .inl (k4, 400, .inl f4)), (q5, .inl (k5, 18, .inl f5)), (q6, .inl (k6, 4096, .inr (.inl f6))), (q7, .inl (k7, 6, .inr (.inl f7)))]) (va_A [zO h th q1 (nI ts) (nI cn) q2 q3 q4 (nI lv) q5 (nI an) md q6 q7, (q1, .inl (k1, 18, .inl f1)), (q2, .inl (k2, 7200, .inl f2)), (q3, .inl (k3, 400, .inl f3)), (q4, .inl (k4, 400, .inl f4)), (q5, .inl (k5, 18, .inl f5)), (q6, .inl (k6, 4096, .inr (.inl f6))), (q7, .inl (k7, 6, .inr (.inl f7)))] sz)) 0 0 (va_A [zO h th q1 (nI ts) (nI cn) q2 q3 q4 (nI lv) q5 (nI an) md q6 q7, (q1, .inl (k1, 18, .inl f1)), (q2, .inl (k2, 7200, .inl f2)), (q3, .inl (k3, 400, .inl f3)), (q4, .inl (k4, 400, .inl f4)), (q5, .inl (k5, 18, .inl f5)), (q6, .inl (k6, 4096, .inr (.inl f6))), (q7, .inl (k7, 6, .inr (.inl f7)))] sz) := by
  refine Met.ofW (cc := cX1_open) (maxL := 1) (ret := (some .int)) (by decide) rfl ?_
  intro p e s m args below meth c s₁ B hml hv
  obtain ⟨rfl, hsz, hP, hK, hD0⟩ := hv
  have hx := B.exec
  have hb := B.bytes
  have hr := B.returns
  have hts := atoms_spec (ws := wsX1_open) B.pre
  have htA : ∀ w ∈ wsA, w.before _ s = true := fun w h => hts w (List.mem_cons_of_mem _ h)
  have hown : s.vm.findClass RX1 = some m.cls := findClass_of_methodNamed B.named
  have hlocks := B.notSynchronized
  subst hsz
  have hD := hD0.self (sz := s.heap.size)
  generalize hAe : va_A [zO h th q1 (nI ts) (nI cn) q2 q3 q4 (nI lv) q5 (nI an) md q6 q7, (q1, .inl (k1, 18, .inl f1)), (q2, .inl (k2, 7200, .inl f2)), (q3, .inl (k3, 400, .inl f3)), (q4, .inl (k4, 400, .inl f4)), (q5, .inl (k5, 18, .inl f5)), (q6, .inl (k6, 4096, .inr (.inl f6))), (q7, .inl (k7, 6, .inr (.inl f7)))] s.heap.size = A at hD ⊢
  have hA : ∀ q : Nat, s.heap.size ≤ q → A q := fun q h => by rw [← hAe]; exact Or.inr h
  have hS : va_S A s.heap s.heap [] := va_S.rf
  have hP : va_P (dC, dI) vwCl [zO h th q1 (nI ts) (nI cn) q2 q3 q4 (nI lv) q5 (nI an) md q6 q7, (q1, .inl (k1, 18, .inl f1)), (q2, .inl (k2, 7200, .inl f2)), (q3, .inl (k3, 400, .inl f3)), (q4, .inl (k4, 400, .inl f4)), (q5, .inl (k5, 18, .inl f5)), (q6, .inl (k6, 4096, .inr (.inl f6))), (q7, .inl (k7, 6, .inr (.inl f7)))] s.heap := hP
  have hl := lv_entry ([.ref h]) (n := 1) (Nat.le_of_ble_eq_true rfl)
  rw [lg_entry_eq]
  generalize (lg_sl ([.ref h]) ++ List.replicate (1 - (lg_sl ([.ref h])).length) Slot.unset).toArray = ls at hl ⊢
  have hl : lv_has ls 1 [(0, .ref h)] := hl
  refine lv_aload_n hx hb dX1_open_0 rfl (lv_at hl 0 rfl) ?_
  refine lv_aload_n hx hb dX1_open_1 rfl (lv_at hl 0 rfl) ?_
  refine va_get (D := (dC, dI)) (ci := 1) (v := .int (nI lv)) (C := RX1) (T := TX1) (N := 13) hx hb htA inX1 hown hK hP 0 rfl rfl 7 (by decide) (htA _ lkX1_84) (fun _ h9 => h9) rfl dX1_open_2 ?_
  refine lv_bipush (v := 40) hx hb dX1_open_5 (by decide) ?_
  refine lv_icmp_ne (tgt := 14) hx hb dX1_open_7 (by decide) (fun cb_53 => ?_) (fun cb_53 => ?_)
  · have h40 : lv < 40 := by
      rcases Nat.lt_or_ge lv 40 with q | q
      · exact q
      · exact absurd (by rw [show lv = 40 by omega]; rfl) cb_53
    refine lv_iconst (v := 0) hx hb dX1_open_14 (by decide) ?_
    refine lv_iconst (v := 0) hx hb dX1_open_15 (by decide) ?_
    have hPc := hP.sub (ws' := [zO h th q1 (nI ts) (nI cn) q2 q3 q4 (nI lv) q5 (nI an) md q6 q7]) [0] rfl
    have hDc := hD.sub (ws' := [zO h th q1 (nI ts) (nI cn) q2 q3 q4 (nI lv) q5 (nI an) md q6 q7]) [0] (by decide) rfl
    have hKc := hK.sub (tys' := []) [] rfl
    have hFc := va_free (wc := [zO h th q1 (nI ts) (nI cn) q2 q3 q4 (nI lv) q5 (nI an) md q6 q7]) hD hS hA [0] rfl
    refine va_calli (va_runV (As := [.int 0, .int 0]) (rest := []) ⟨hx, hb, hml, hown, htA⟩ (r_throwing l dC dI h q1 q2 q3 q4 q5 q6 q7   th (nI ts) (nI cn) (nI lv) (nI an) md 0 0 s.heap.size) (cwV 2 htA gX1_80 rfl rfl rfl (by decide +kernel) ⟨Nat.le_of_ble_eq_true rfl, Nat.le_of_ble_eq_true rfl⟩) ⟨fun a U g mk q => by obtain ⟨q0, q1, qP, qK, qD⟩ := q; exact ⟨q0, q1, qP, va_K.moved (u := U) (U := U.calling g mk a) (Vm.Alike.refl U.vm) qK, qD⟩, va_recv hKc hPc (ci := 1) (q0 := 0) rfl rfl, fun U hU hW => ⟨rfl, by rw [hU], by rw [hU]; exact hPc, va_K.moved hW.alike hKc, hDc.weaken (fun _ _ _ _ => trivial)⟩⟩ rfl rfl hl.1 rfl (lv_room (Nat.le_of_ble_eq_true rfl)) dX1_open_16 ⟨Nat.zero_le _, Nat.zero_le _⟩) hS (fun q _ h => hFc q h) hFc (fun rth u t H1 locs ht hvm hw hB hz1 hk1 hS => ?_)
    obtain ⟨hP1, hK1, hD1⟩ := hB
    rw [ht] at hP1
    try dsimp only at hw hP1 hD1
    obtain ⟨hP, hD⟩ := va_join (wr := [(q1, .inl (k1, 18, .inl f1)), (q2, .inl (k2, 7200, .inl f2)), (q3, .inl (k3, 400, .inl f3)), (q4, .inl (k4, 400, .inl f4)), (q5, .inl (k5, 18, .inl f5)), (q6, .inl (k6, 4096, .inr (.inl f6))), (q7, .inl (k7, 6, .inr (.inl f7)))]) (w1 := [zO h u q1 (nI ts) (nI cn) q2 q3 q4 (nI lv) q5 (nI an) md q6 q7]) hP hD [0] [1, 2, 3, 4, 5, 6, 7] rfl rfl (by decide) (by decide) hk1 hFc hP1 hD1
    generalize H1 = H at hP hS ⊢
    have hP : va_P (dC, dI) vwCl [zO h u q1 (nI ts) (nI cn) q2 q3 q4 (nI lv) q5 (nI an) md q6 q7, (q1, .inl (k1, 18, .inl f1)), (q2, .inl (k2, 7200, .inl f2)), (q3, .inl (k3, 400, .inl f3)), (q4, .inl (k4, 400, .inl f4)), (q5, .inl (k5, 18, .inl f5)), (q6, .inl (k6, 4096, .inr (.inl f6))), (q7, .inl (k7, 6, .inr (.inl f7)))] H := hP.sub [7, 0, 1, 2, 3, 4, 5, 6] rfl
    have hD : va_D A [zO h u q1 (nI ts) (nI cn) q2 q3 q4 (nI lv) q5 (nI an) md q6 q7, (q1, .inl (k1, 18, .inl f1)), (q2, .inl (k2, 7200, .inl f2)), (q3, .inl (k3, 400, .inl f3)), (q4, .inl (k4, 400, .inl f4)), (q5, .inl (k5, 18, .inl f5)), (q6, .inl (k6, 4096, .inr (.inl f6))), (q7, .inl (k7, 6, .inr (.inl f7)))] := hD.sub [7, 0, 1, 2, 3, 4, 5, 6] (by decide) rfl
    obtain ⟨hu9, hr9⟩ : u = 0 ∧ rth = 0 := by
      rcases hw with h | h | h
      · exact absurd rfl h.1
      · exact absurd rfl h.2.1
      · exact h.2.2
    subst hu9
    subst hr9
    refine lv_if_eq (tgt := 24) hx hb dX1_open_19 (by decide) (fun cb_55 => ?_) (fun cb_55 => ?_)
    · refine lv_aload_n hx hb dX1_open_24 rfl (lv_at hl 0 rfl) ?_
      refine lv_dup hx hb dX1_open_25 rfl ?_
      refine va_get (D := (dC, dI)) (ci := 1) (v := .int (nI lv)) (C := RX1) (T := TX1) (N := 13) hx hb htA inX1 hown hK hP 0 rfl rfl 7 (by decide) (htA _ lkX1_84) (fun _ h9 => h9) rfl dX1_open_26 ?_
      refine lv_iconst (v := 1) hx hb dX1_open_29 (by decide) ?_
      refine lv_iadd hx hb dX1_open_30 ?_
      refine W.eq (g2 := F0 m 31 ls [.int (nI (lv + 1)), .ref h]) (by rw [nI_1]) ?_
      refine va_put (D := (dC, dI)) (ci := 1) (v := .int (nI (lv + 1))) (ty := .int) (C := RX1) (T := TX1) (N := 13) hx hb htA inX1 tyX1 tyX1_ok nX1 hown hK hP hD hS 0 rfl rfl 7 (by decide) (htA _ lkX1_84) (fun _ h9 => h9) rfl (by decide +kernel) rfl rfl (Nat.le_of_ble_eq_true rfl) dX1_open_31 (fun H locs hP hD hS => ?_)
      have hP : va_P (dC, dI) vwCl [zO h 0 q1 (nI ts) (nI cn) q2 q3 q4 (nI (lv + 1)) q5 (nI an) md q6 q7, (q1, .inl (k1, 18, .inl f1)), (q2, .inl (k2, 7200, .inl f2)), (q3, .inl (k3, 400, .inl f3)), (q4, .inl (k4, 400, .inl f4)), (q5, .inl (k5, 18, .inl f5)), (q6, .inl (k6, 4096, .inr (.inl f6))), (q7, .inl (k7, 6, .inr (.inl f7)))] H := hP
      have hD : va_D A [zO h 0 q1 (nI ts) (nI cn) q2 q3 q4 (nI (lv + 1)) q5 (nI an) md q6 q7, (q1, .inl (k1, 18, .inl f1)), (q2, .inl (k2, 7200, .inl f2)), (q3, .inl (k3, 400, .inl f3)), (q4, .inl (k4, 400, .inl f4)), (q5, .inl (k5, 18, .inl f5)), (q6, .inl (k6, 4096, .inr (.inl f6))), (q7, .inl (k7, 6, .inr (.inl f7)))] := hD
      refine lv_aload_n hx hb dX1_open_34 rfl (lv_at hl 0 rfl) ?_
      refine lv_iconst (v := (-1)) hx hb dX1_open_35 (by decide) ?_
      refine va_put (D := (dC, dI)) (ci := 1) (v := .int (-1)) (ty := .int) (C := RX1) (T := TX1) (N := 13) hx hb htA inX1 tyX1 tyX1_ok nX1 hown hK hP hD hS 0 rfl rfl 10 (by decide) (htA _ lkX1_25) (fun _ h9 => h9) rfl (by decide +kernel) rfl rfl (Nat.le_of_ble_eq_true rfl) dX1_open_36 (fun H locs hP hD hS => ?_)
      have hP : va_P (dC, dI) vwCl [zO h 0 q1 (nI ts) (nI cn) q2 q3 q4 (nI (lv + 1)) q5 (nI an) (-1) q6 q7, (q1, .inl (k1, 18, .inl f1)), (q2, .inl (k2, 7200, .inl f2)), (q3, .inl (k3, 400, .inl f3)), (q4, .inl (k4, 400, .inl f4)), (q5, .inl (k5, 18, .inl f5)), (q6, .inl (k6, 4096, .inr (.inl f6))), (q7, .inl (k7, 6, .inr (.inl f7)))] H := hP
      have hD : va_D A [zO h 0 q1 (nI ts) (nI cn) q2 q3 q4 (nI (lv + 1)) q5 (nI an) (-1) q6 q7, (q1, .inl (k1, 18, .inl f1)), (q2, .inl (k2, 7200, .inl f2)), (q3, .inl (k3, 400, .inl f3)), (q4, .inl (k4, 400, .inl f4)), (q5, .inl (k5, 18, .inl f5)), (q6, .inl (k6, 4096, .inr (.inl f6))), (q7, .inl (k7, 6, .inr (.inl f7)))] := hD
      refine lv_aload_n hx hb dX1_open_39 rfl (lv_at hl 0 rfl) ?_
      refine va_get (D := (dC, dI)) (ci := 1) (v := .int (nI (lv + 1))) (C := RX1) (T := TX1) (N := 13) hx hb htA inX1 hown hK hP 0 rfl rfl 7 (by decide) (htA _ lkX1_84) (fun _ h9 => h9) rfl dX1_open_40 ?_
      exact W.iret (v := nI (lv + 1)) hx hb hr (fun t ht hW => ⟨⟨nI (lv + 1), (0, lv + 1, -1), rfl, Or.inr ⟨h40, rfl, rfl⟩, by rw [ht]; exact hP, va_K.moved hW.alike hK, hD⟩, hS.F ht⟩) hS.2.2 dX1_open_43
    · exact absurd rfl cb_55
  · have h40 : lv = 40 := (nI_eq (a := lv) (b := 40) (by omega) (by omega)).mp cb_53
    refine lv_iconst (v := 1) hx hb dX1_open_10 (by decide) ?_
    refine lv_goto (tgt := 15) hx hb dX1_open_11 (by decide) ?_
    refine lv_iconst (v := 0) hx hb dX1_open_15 (by decide) ?_
    have hPc := hP.sub (ws' := [zO h th q1 (nI ts) (nI cn) q2 q3 q4 (nI lv) q5 (nI an) md q6 q7]) [0] rfl
    have hDc := hD.sub (ws' := [zO h th q1 (nI ts) (nI cn) q2 q3 q4 (nI lv) q5 (nI an) md q6 q7]) [0] (by decide) rfl
    have hKc := hK.sub (tys' := []) [] rfl
    have hFc := va_free (wc := [zO h th q1 (nI ts) (nI cn) q2 q3 q4 (nI lv) q5 (nI an) md q6 q7]) hD hS hA [0] rfl
    refine va_calli (va_runV (As := [.int 1, .int 0]) (rest := []) ⟨hx, hb, hml, hown, htA⟩ (r_throwing l dC dI h q1 q2 q3 q4 q5 q6 q7   th (nI ts) (nI cn) (nI lv) (nI an) md 1 0 s.heap.size) (cwV 2 htA gX1_80 rfl rfl rfl (by decide +kernel) ⟨Nat.le_of_ble_eq_true rfl, Nat.le_of_ble_eq_true rfl⟩) ⟨fun a U g mk q => by obtain ⟨q0, q1, qP, qK, qD⟩ := q; exact ⟨q0, q1, qP, va_K.moved (u := U) (U := U.calling g mk a) (Vm.Alike.refl U.vm) qK, qD⟩, va_recv hKc hPc (ci := 1) (q0 := 0) rfl rfl, fun U hU hW => ⟨rfl, by rw [hU], by rw [hU]; exact hPc, va_K.moved hW.alike hKc, hDc.weaken (fun _ _ _ _ => trivial)⟩⟩ rfl rfl hl.1 rfl (lv_room (Nat.le_of_ble_eq_true rfl)) dX1_open_16 ⟨Nat.zero_le _, Nat.zero_le _⟩) hS (fun q _ h => hFc q h) hFc (fun rth u t H1 locs ht hvm hw hB hz1 hk1 hS => ?_)
    obtain ⟨hP1, hK1, hD1⟩ := hB
    rw [ht] at hP1
    try dsimp only at hw hP1 hD1
    obtain ⟨hP, hD⟩ := va_join (wr := [(q1, .inl (k1, 18, .inl f1)), (q2, .inl (k2, 7200, .inl f2)), (q3, .inl (k3, 400, .inl f3)), (q4, .inl (k4, 400, .inl f4)), (q5, .inl (k5, 18, .inl f5)), (q6, .inl (k6, 4096, .inr (.inl f6))), (q7, .inl (k7, 6, .inr (.inl f7)))]) (w1 := [zO h u q1 (nI ts) (nI cn) q2 q3 q4 (nI lv) q5 (nI an) md q6 q7]) hP hD [0] [1, 2, 3, 4, 5, 6, 7] rfl rfl (by decide) (by decide) hk1 hFc hP1 hD1
    generalize H1 = H at hP hS ⊢
    have hP : va_P (dC, dI) vwCl [zO h u q1 (nI ts) (nI cn) q2 q3 q4 (nI lv) q5 (nI an) md q6 q7, (q1, .inl (k1, 18, .inl f1)), (q2, .inl (k2, 7200, .inl f2)), (q3, .inl (k3, 400, .inl f3)), (q4, .inl (k4, 400, .inl f4)), (q5, .inl (k5, 18, .inl f5)), (q6, .inl (k6, 4096, .inr (.inl f6))), (q7, .inl (k7, 6, .inr (.inl f7)))] H := hP.sub [7, 0, 1, 2, 3, 4, 5, 6] rfl
    have hD : va_D A [zO h u q1 (nI ts) (nI cn) q2 q3 q4 (nI lv) q5 (nI an) md q6 q7, (q1, .inl (k1, 18, .inl f1)), (q2, .inl (k2, 7200, .inl f2)), (q3, .inl (k3, 400, .inl f3)), (q4, .inl (k4, 400, .inl f4)), (q5, .inl (k5, 18, .inl f5)), (q6, .inl (k6, 4096, .inr (.inl f6))), (q7, .inl (k7, 6, .inr (.inl f7)))] := hD.sub [7, 0, 1, 2, 3, 4, 5, 6] (by decide) rfl
    obtain ⟨hu9, hr9⟩ : u = 1 ∧ rth = 1 := by
      rcases hw with h | h | h
      · exact h.2
      · exact absurd h.1 (by decide)
      · exact absurd h.1 (by decide)
    subst hu9
    subst hr9
    refine lv_if_eq (tgt := 24) hx hb dX1_open_19 (by decide) (fun cb_54 => ?_) (fun cb_54 => ?_)
    · exact absurd cb_54 (by decide)
    · refine lv_iconst (v := 0) hx hb dX1_open_22 (by decide) ?_
      exact W.iret (v := 0) hx hb hr (fun t ht hW => ⟨⟨0, (1, lv, md), rfl, Or.inl ⟨h40, rfl⟩, by rw [ht]; exact hP, va_K.moved hW.alike hK, hD⟩, hS.F ht⟩) hS.2.2 dX1_open_23
set_option maxHeartbeats 4000000 in
set_option maxRecDepth 100000 in
theorem r_free (l : Launch) (dC : Nat → ClassId) (dI : Nat → Nat → Nat) (h : Nat) (q1 : Nat) (q2 : Nat) (q3 : Nat) (q4 : Nat) (q5 : Nat) (q6 : Nat) (q7 : Nat) (k1 : ClassId) (k2 : ClassId) (k3 : ClassId) (k4 : ClassId) (k5 : ClassId) (k6 : ClassId) (k7 : ClassId) (f1 : Nat → Int32) (f2 : Nat → Int32) (f3 : Nat → Int32) (f4 : Nat → Int32) (f5 : Nat → Int32) (f6 : Nat → Int64) (f7 : Nat → Int64) (th : Int32) (ts : Nat) (cn : Nat) (lv : Nat) (an : Nat) (md : Int32) (sz : Nat)  : Met l yX1_free wsX1_free ({ frames := 0, cells := 0, slots := 0, locals := 0 }) (va_Pc [.ref h] (fun U => U.heap.size = sz ∧ va_P (dC, dI) vwCl [zO h th q1 (nI ts) (nI cn) q2 q3 q4 (nI lv) q5 (nI an) md q6 q7, (q1, .inl (k1, 18, .inl f1)), (q2, .inl (k2, 7200, .inl f2)), (q3, .inl (k3, 400, .inl f3)), (q4, .inl (k4, 400, .inl f4)), (q5, .inl (k5, 18, .inl f5)), (q6, .inl (k6, 4096, .inr (.inl f6))), (q7, .inl (k7, 6, .inr (.inl f7)))] U.heap ∧ va_K (dC, dI) vwCl [(k1, .int), (k2, .int), (k3, .int), (k4, .int), (k5, .int), (k6, .long), (k7, .long)] U ∧ va_D (fun _ => True) [zO h th q1 (nI ts) (nI cn) q2 q3 q4 (nI lv) q5 (nI an) md q6 q7, (q1, .inl (k1, 18, .inl f1)), (q2, .inl (k2, 7200, .inl f2)), (q3, .inl (k3, 400, .inl f3)), (q4, .inl (k4, 400, .inl f4)), (q5, .inl (k5, 18, .inl f5)), (q6, .inl (k6, 4096, .inr (.inl f6))), (q7, .inl (k7, 6, .inr (.inl f7)))])) (va_Qi (fun (r : Int32) (u : Unit) => r = nI an) (fun (u : Unit) (t : State) => va_P (dC, dI) vwCl [zO h 0 q1 (nI ts) (nI cn) q2 q3 q4 (nI lv) q5 0 (-1) q6 q7, (q1, .inl (k1, 18, .inl f1)), (q2, .inl (k2, 7200, .inl f2)), (q3, .inl (k3, 400, .inl f3)), (q4, .inl (k4, 400, .inl f4)), (q5, .inl (k5, 18, .inl f5)), (q6, .inl (k6, 4096, .inr (.inl f6))), (q7, .inl (k7, 6, .inr (.inl f7)))] t.heap ∧ va_K (dC, dI) vwCl [(k1, .int), (k2, .int), (k3, .int), (k4, .int), (k5, .int), (k6, .long), (k7, .long)] t ∧ va_D (va_A [zO h th q1 (nI ts) (nI cn) q2 q3 q4 (nI lv) q5 (nI an) md q6 q7, (q1, .inl (k1, 18, .inl f1)), (q2, .inl (k2, 7200, .inl f2)), (q3, .inl (k3, 400, .inl f3)), (q4, .inl (k4, 400, .inl f4)), (q5, .inl (k5, 18, .inl f5)), (q6, .inl (k6, 4096, .inr (.inl f6))), (q7, .inl (k7, 6, .inr (.inl f7)))] sz) [zO h 0 q1 (nI ts) (nI cn) q2 q3 q4 (nI lv) q5 0 (-1) q6 q7, (q1, .inl (k1, 18, .inl f1)), (q2, .inl (k2, 7200, .inl f2)), (q3, .inl (k3, 400, .inl f3)), (q4, .inl (k4, 400, .inl f4)), (q5, .inl (k5, 18, .inl f5)), (q6, .inl (k6, 4096, .inr (.inl f6))), (q7, .inl (k7, 6, .inr (.inl f7)))]) (va_A [zO h th q1 (nI ts) (nI cn) q2 q3 q4 (nI lv) q5 (nI an) md q6 q7, (q1, .inl (k1, 18, .inl f1)), (q2, .inl (k2, 7200, .inl f2)), (q3, .inl (k3, 400, .inl f3)), (q4, .inl (k4, 400, .inl f4)), (q5, .inl (k5, 18, .inl f5)), (q6, .inl (k6, 4096, .inr (.inl f6))), (q7, .inl (k7, 6, .inr (.inl f7)))] sz)) 0 0 (va_A [zO h th q1 (nI ts) (nI cn) q2 q3 q4 (nI lv) q5 (nI an) md q6 q7, (q1, .inl (k1, 18, .inl f1)), (q2, .inl (k2, 7200, .inl f2)), (q3, .inl (k3, 400, .inl f3)), (q4, .inl (k4, 400, .inl f4)), (q5, .inl (k5, 18, .inl f5)), (q6, .inl (k6, 4096, .inr (.inl f6))), (q7, .inl (k7, 6, .inr (.inl f7)))] sz) := by
  refine Met.ofW (cc := cX1_free) (maxL := 2) (ret := (some .int)) (by decide) rfl ?_
  intro p e s m args below meth c s₁ B hml hv
  obtain ⟨rfl, hsz, hP, hK, hD0⟩ := hv
  have hx := B.exec
  have hb := B.bytes
  have hr := B.returns
  have hts := atoms_spec (ws := wsX1_free) B.pre
  have htA : ∀ w ∈ wsA, w.before _ s = true := fun w h => hts w (List.mem_cons_of_mem _ h)
  have hown : s.vm.findClass RX1 = some m.cls := findClass_of_methodNamed B.named
  have hlocks := B.notSynchronized
  subst hsz
  have hD := hD0.self (sz := s.heap.size)
  generalize hAe : va_A [zO h th q1 (nI ts) (nI cn) q2 q3 q4 (nI lv) q5 (nI an) md q6 q7, (q1, .inl (k1, 18, .inl f1)), (q2, .inl (k2, 7200, .inl f2)), (q3, .inl (k3, 400, .inl f3)), (q4, .inl (k4, 400, .inl f4)), (q5, .inl (k5, 18, .inl f5)), (q6, .inl (k6, 4096, .inr (.inl f6))), (q7, .inl (k7, 6, .inr (.inl f7)))] s.heap.size = A at hD ⊢
  have hA : ∀ q : Nat, s.heap.size ≤ q → A q := fun q h => by rw [← hAe]; exact Or.inr h
  have hS : va_S A s.heap s.heap [] := va_S.rf
  have hP : va_P (dC, dI) vwCl [zO h th q1 (nI ts) (nI cn) q2 q3 q4 (nI lv) q5 (nI an) md q6 q7, (q1, .inl (k1, 18, .inl f1)), (q2, .inl (k2, 7200, .inl f2)), (q3, .inl (k3, 400, .inl f3)), (q4, .inl (k4, 400, .inl f4)), (q5, .inl (k5, 18, .inl f5)), (q6, .inl (k6, 4096, .inr (.inl f6))), (q7, .inl (k7, 6, .inr (.inl f7)))] s.heap := hP
  have hl := lv_entry ([.ref h]) (n := 2) (Nat.le_of_ble_eq_true rfl)
  rw [lg_entry_eq]
  generalize (lg_sl ([.ref h]) ++ List.replicate (2 - (lg_sl ([.ref h])).length) Slot.unset).toArray = ls at hl ⊢
  have hl : lv_has ls 2 [(0, .ref h)] := hl
  refine lv_aload_n hx hb dX1_free_0 rfl (lv_at hl 0 rfl) ?_
  refine lv_iconst (v := 0) hx hb dX1_free_1 (by decide) ?_
  refine va_put (D := (dC, dI)) (ci := 1) (v := .int 0) (ty := .int) (C := RX1) (T := TX1) (N := 13) hx hb htA inX1 tyX1 tyX1_ok nX1 hown hK hP hD hS 0 rfl rfl 0 (by decide) (htA _ lkX1_51) (fun _ h9 => h9) rfl (by decide +kernel) rfl rfl (Nat.le_of_ble_eq_true rfl) dX1_free_2 (fun H locs hP hD hS => ?_)
  have hP : va_P (dC, dI) vwCl [zO h 0 q1 (nI ts) (nI cn) q2 q3 q4 (nI lv) q5 (nI an) md q6 q7, (q1, .inl (k1, 18, .inl f1)), (q2, .inl (k2, 7200, .inl f2)), (q3, .inl (k3, 400, .inl f3)), (q4, .inl (k4, 400, .inl f4)), (q5, .inl (k5, 18, .inl f5)), (q6, .inl (k6, 4096, .inr (.inl f6))), (q7, .inl (k7, 6, .inr (.inl f7)))] H := hP
  have hD : va_D A [zO h 0 q1 (nI ts) (nI cn) q2 q3 q4 (nI lv) q5 (nI an) md q6 q7, (q1, .inl (k1, 18, .inl f1)), (q2, .inl (k2, 7200, .inl f2)), (q3, .inl (k3, 400, .inl f3)), (q4, .inl (k4, 400, .inl f4)), (q5, .inl (k5, 18, .inl f5)), (q6, .inl (k6, 4096, .inr (.inl f6))), (q7, .inl (k7, 6, .inr (.inl f7)))] := hD
  refine lv_aload_n hx hb dX1_free_5 rfl (lv_at hl 0 rfl) ?_
  refine va_get (D := (dC, dI)) (ci := 1) (v := .int (nI an)) (C := RX1) (T := TX1) (N := 13) hx hb htA inX1 hown hK hP 0 rfl rfl 9 (by decide) (htA _ lkX1_67) (fun _ h9 => h9) rfl dX1_free_6 ?_
  refine lv_istore_n (lv' := [(1, .int (nI an)), (0, .ref h)]) hx hb dX1_free_9 rfl hl (by decide) rfl (fun ls hl => ?_)
  refine lv_aload_n hx hb dX1_free_10 rfl (lv_at hl 1 rfl) ?_
  refine lv_iconst (v := 0) hx hb dX1_free_11 (by decide) ?_
  refine va_put (D := (dC, dI)) (ci := 1) (v := .int 0) (ty := .int) (C := RX1) (T := TX1) (N := 13) hx hb htA inX1 tyX1 tyX1_ok nX1 hown hK hP hD hS 0 rfl rfl 9 (by decide) (htA _ lkX1_67) (fun _ h9 => h9) rfl (by decide +kernel) rfl rfl (Nat.le_of_ble_eq_true rfl) dX1_free_12 (fun H locs hP hD hS => ?_)
  have hP : va_P (dC, dI) vwCl [zO h 0 q1 (nI ts) (nI cn) q2 q3 q4 (nI lv) q5 0 md q6 q7, (q1, .inl (k1, 18, .inl f1)), (q2, .inl (k2, 7200, .inl f2)), (q3, .inl (k3, 400, .inl f3)), (q4, .inl (k4, 400, .inl f4)), (q5, .inl (k5, 18, .inl f5)), (q6, .inl (k6, 4096, .inr (.inl f6))), (q7, .inl (k7, 6, .inr (.inl f7)))] H := hP
  have hD : va_D A [zO h 0 q1 (nI ts) (nI cn) q2 q3 q4 (nI lv) q5 0 md q6 q7, (q1, .inl (k1, 18, .inl f1)), (q2, .inl (k2, 7200, .inl f2)), (q3, .inl (k3, 400, .inl f3)), (q4, .inl (k4, 400, .inl f4)), (q5, .inl (k5, 18, .inl f5)), (q6, .inl (k6, 4096, .inr (.inl f6))), (q7, .inl (k7, 6, .inr (.inl f7)))] := hD
  refine lv_aload_n hx hb dX1_free_15 rfl (lv_at hl 1 rfl) ?_
  refine lv_iconst (v := (-1)) hx hb dX1_free_16 (by decide) ?_
  refine va_put (D := (dC, dI)) (ci := 1) (v := .int (-1)) (ty := .int) (C := RX1) (T := TX1) (N := 13) hx hb htA inX1 tyX1 tyX1_ok nX1 hown hK hP hD hS 0 rfl rfl 10 (by decide) (htA _ lkX1_25) (fun _ h9 => h9) rfl (by decide +kernel) rfl rfl (Nat.le_of_ble_eq_true rfl) dX1_free_17 (fun H locs hP hD hS => ?_)
  have hP : va_P (dC, dI) vwCl [zO h 0 q1 (nI ts) (nI cn) q2 q3 q4 (nI lv) q5 0 (-1) q6 q7, (q1, .inl (k1, 18, .inl f1)), (q2, .inl (k2, 7200, .inl f2)), (q3, .inl (k3, 400, .inl f3)), (q4, .inl (k4, 400, .inl f4)), (q5, .inl (k5, 18, .inl f5)), (q6, .inl (k6, 4096, .inr (.inl f6))), (q7, .inl (k7, 6, .inr (.inl f7)))] H := hP
  have hD : va_D A [zO h 0 q1 (nI ts) (nI cn) q2 q3 q4 (nI lv) q5 0 (-1) q6 q7, (q1, .inl (k1, 18, .inl f1)), (q2, .inl (k2, 7200, .inl f2)), (q3, .inl (k3, 400, .inl f3)), (q4, .inl (k4, 400, .inl f4)), (q5, .inl (k5, 18, .inl f5)), (q6, .inl (k6, 4096, .inr (.inl f6))), (q7, .inl (k7, 6, .inr (.inl f7)))] := hD
  refine lv_iload_n hx hb dX1_free_20 rfl (lv_at hl 0 rfl) ?_
  exact W.iret (v := nI an) hx hb hr (fun t ht hW => ⟨⟨nI an, (), rfl, rfl, by rw [ht]; exact hP, va_K.moved hW.alike hK, hD⟩, hS.F ht⟩) hS.2.2 dX1_free_21
set_option maxHeartbeats 4000000 in
set_option maxRecDepth 100000 in
theorem r_least (l : Launch) (dC : Nat → ClassId) (dI : Nat → Nat → Nat) (h : Nat) (q1 : Nat) (q2 : Nat) (q3 : Nat) (q4 : Nat) (q5 : Nat) (q6 : Nat) (q7 : Nat) (k1 : ClassId) (k2 : ClassId) (k3 : ClassId) (k4 : ClassId) (k5 : ClassId) (k6 : ClassId) (k7 : ClassId) (f1 : Nat → Int32) (f2 : Nat → Int32) (f3 : Nat → Int32) (f4 : Nat → Int32) (f5 : Nat → Int32) (f6 : Nat → Int64) (f7 : Nat → Int64) (th : Int32) (ts : Nat) (cn : Nat) (lv : Nat) (an : Nat) (md : Int32) (sz : Nat) (han : an ≤ 18) (hlit : ∀ j, j < an → yLit (f5 j)) (h7 : zIn f7) : Met l yX1_least wsX1_least ({ frames := 3, cells := 0, slots := 0, locals := 120 }) (va_Pc [.ref h] (fun U => U.heap.size = sz ∧ va_P (dC, dI) vwCl [zO h th q1 (nI ts) (nI cn) q2 q3 q4 (nI lv) q5 (nI an) md q6 q7, (q1, .inl (k1, 18, .inl f1)), (q2, .inl (k2, 7200, .inl f2)), (q3, .inl (k3, 400, .inl f3)), (q4, .inl (k4, 400, .inl f4)), (q5, .inl (k5, 18, .inl f5)), (q6, .inl (k6, 4096, .inr (.inl f6))), (q7, .inl (k7, 6, .inr (.inl f7)))] U.heap ∧ va_K (dC, dI) vwCl [(k1, .int), (k2, .int), (k3, .int), (k4, .int), (k5, .int), (k6, .long), (k7, .long)] U ∧ va_D (fun _ => True) [zO h th q1 (nI ts) (nI cn) q2 q3 q4 (nI lv) q5 (nI an) md q6 q7, (q1, .inl (k1, 18, .inl f1)), (q2, .inl (k2, 7200, .inl f2)), (q3, .inl (k3, 400, .inl f3)), (q4, .inl (k4, 400, .inl f4)), (q5, .inl (k5, 18, .inl f5)), (q6, .inl (k6, 4096, .inr (.inl f6))), (q7, .inl (k7, 6, .inr (.inl f7)))])) (va_Qi (fun (r : Int32) (u : Int32) => yL (zP f5 f6 an (-1)) 0 r ∧ u = r) (fun (u : Int32) (t : State) => va_P (dC, dI) vwCl [zO h 0 q1 (nI ts) (nI cn) q2 q3 q4 (nI lv) q5 (nI an) u q6 q7, (q1, .inl (k1, 18, .inl f1)), (q2, .inl (k2, 7200, .inl f2)), (q3, .inl (k3, 400, .inl f3)), (q4, .inl (k4, 400, .inl f4)), (q5, .inl (k5, 18, .inl f5)), (q6, .inl (k6, 4096, .inr (.inl f6))), (q7, .inl (k7, 6, .inr (.inl f7)))] t.heap ∧ va_K (dC, dI) vwCl [(k1, .int), (k2, .int), (k3, .int), (k4, .int), (k5, .int), (k6, .long), (k7, .long)] t ∧ va_D (va_A [zO h th q1 (nI ts) (nI cn) q2 q3 q4 (nI lv) q5 (nI an) md q6 q7, (q1, .inl (k1, 18, .inl f1)), (q2, .inl (k2, 7200, .inl f2)), (q3, .inl (k3, 400, .inl f3)), (q4, .inl (k4, 400, .inl f4)), (q5, .inl (k5, 18, .inl f5)), (q6, .inl (k6, 4096, .inr (.inl f6))), (q7, .inl (k7, 6, .inr (.inl f7)))] sz) [zO h 0 q1 (nI ts) (nI cn) q2 q3 q4 (nI lv) q5 (nI an) u q6 q7, (q1, .inl (k1, 18, .inl f1)), (q2, .inl (k2, 7200, .inl f2)), (q3, .inl (k3, 400, .inl f3)), (q4, .inl (k4, 400, .inl f4)), (q5, .inl (k5, 18, .inl f5)), (q6, .inl (k6, 4096, .inr (.inl f6))), (q7, .inl (k7, 6, .inr (.inl f7)))]) (va_A [zO h th q1 (nI ts) (nI cn) q2 q3 q4 (nI lv) q5 (nI an) md q6 q7, (q1, .inl (k1, 18, .inl f1)), (q2, .inl (k2, 7200, .inl f2)), (q3, .inl (k3, 400, .inl f3)), (q4, .inl (k4, 400, .inl f4)), (q5, .inl (k5, 18, .inl f5)), (q6, .inl (k6, 4096, .inr (.inl f6))), (q7, .inl (k7, 6, .inr (.inl f7)))] sz)) 0 0 (va_A [zO h th q1 (nI ts) (nI cn) q2 q3 q4 (nI lv) q5 (nI an) md q6 q7, (q1, .inl (k1, 18, .inl f1)), (q2, .inl (k2, 7200, .inl f2)), (q3, .inl (k3, 400, .inl f3)), (q4, .inl (k4, 400, .inl f4)), (q5, .inl (k5, 18, .inl f5)), (q6, .inl (k6, 4096, .inr (.inl f6))), (q7, .inl (k7, 6, .inr (.inl f7)))] sz) := by
  refine Met.ofW (cc := cX1_least) (maxL := 1) (ret := (some .int)) (by decide) rfl ?_
  intro p e s m args below meth c s₁ B hml hv
  obtain ⟨rfl, hsz, hP, hK, hD0⟩ := hv
  have hx := B.exec
  have hb := B.bytes
  have hr := B.returns
  have hts := atoms_spec (ws := wsX1_least) B.pre
  have htA : ∀ w ∈ wsA, w.before _ s = true := fun w h => hts w (List.mem_cons_of_mem _ h)
  have hown : s.vm.findClass RX1 = some m.cls := findClass_of_methodNamed B.named
  have hlocks := B.notSynchronized
  subst hsz
  have hD := hD0.self (sz := s.heap.size)
  generalize hAe : va_A [zO h th q1 (nI ts) (nI cn) q2 q3 q4 (nI lv) q5 (nI an) md q6 q7, (q1, .inl (k1, 18, .inl f1)), (q2, .inl (k2, 7200, .inl f2)), (q3, .inl (k3, 400, .inl f3)), (q4, .inl (k4, 400, .inl f4)), (q5, .inl (k5, 18, .inl f5)), (q6, .inl (k6, 4096, .inr (.inl f6))), (q7, .inl (k7, 6, .inr (.inl f7)))] s.heap.size = A at hD ⊢
  have hA : ∀ q : Nat, s.heap.size ≤ q → A q := fun q h => by rw [← hAe]; exact Or.inr h
  have hS : va_S A s.heap s.heap [] := va_S.rf
  have hP : va_P (dC, dI) vwCl [zO h th q1 (nI ts) (nI cn) q2 q3 q4 (nI lv) q5 (nI an) md q6 q7, (q1, .inl (k1, 18, .inl f1)), (q2, .inl (k2, 7200, .inl f2)), (q3, .inl (k3, 400, .inl f3)), (q4, .inl (k4, 400, .inl f4)), (q5, .inl (k5, 18, .inl f5)), (q6, .inl (k6, 4096, .inr (.inl f6))), (q7, .inl (k7, 6, .inr (.inl f7)))] s.heap := hP
  have hl := lv_entry ([.ref h]) (n := 1) (Nat.le_of_ble_eq_true rfl)
  rw [lg_entry_eq]
  generalize (lg_sl ([.ref h]) ++ List.replicate (1 - (lg_sl ([.ref h])).length) Slot.unset).toArray = ls at hl ⊢
  have hl : lv_has ls 1 [(0, .ref h)] := hl
  refine lv_aload_n hx hb dX1_least_0 rfl (lv_at hl 0 rfl) ?_
  refine lv_iconst (v := 0) hx hb dX1_least_1 (by decide) ?_
  refine va_put (D := (dC, dI)) (ci := 1) (v := .int 0) (ty := .int) (C := RX1) (T := TX1) (N := 13) hx hb htA inX1 tyX1 tyX1_ok nX1 hown hK hP hD hS 0 rfl rfl 0 (by decide) (htA _ lkX1_51) (fun _ h9 => h9) rfl (by decide +kernel) rfl rfl (Nat.le_of_ble_eq_true rfl) dX1_least_2 (fun H locs hP hD hS => ?_)
  have hP : va_P (dC, dI) vwCl [zO h 0 q1 (nI ts) (nI cn) q2 q3 q4 (nI lv) q5 (nI an) md q6 q7, (q1, .inl (k1, 18, .inl f1)), (q2, .inl (k2, 7200, .inl f2)), (q3, .inl (k3, 400, .inl f3)), (q4, .inl (k4, 400, .inl f4)), (q5, .inl (k5, 18, .inl f5)), (q6, .inl (k6, 4096, .inr (.inl f6))), (q7, .inl (k7, 6, .inr (.inl f7)))] H := hP
  have hD : va_D A [zO h 0 q1 (nI ts) (nI cn) q2 q3 q4 (nI lv) q5 (nI an) md q6 q7, (q1, .inl (k1, 18, .inl f1)), (q2, .inl (k2, 7200, .inl f2)), (q3, .inl (k3, 400, .inl f3)), (q4, .inl (k4, 400, .inl f4)), (q5, .inl (k5, 18, .inl f5)), (q6, .inl (k6, 4096, .inr (.inl f6))), (q7, .inl (k7, 6, .inr (.inl f7)))] := hD
  refine lv_aload_n hx hb dX1_least_5 rfl (lv_at hl 0 rfl) ?_
  refine lv_aload_n hx hb dX1_least_6 rfl (lv_at hl 0 rfl) ?_
  refine lv_iconst (v := 0) hx hb dX1_least_7 (by decide) ?_
  refine W.eq (g2 := F0 m 8 ls [.int (nI 0), .ref h, .ref h]) (by rw [nI_0]) ?_
  have hPc := hP.sub (ws' := [zO h 0 q1 (nI ts) (nI cn) q2 q3 q4 (nI lv) q5 (nI an) md q6 q7, (q5, .inl (k5, 18, .inl f5)), (q6, .inl (k6, 4096, .inr (.inl f6))), (q7, .inl (k7, 6, .inr (.inl f7)))]) [0, 5, 6, 7] rfl
  have hDc := hD.sub (ws' := [zO h 0 q1 (nI ts) (nI cn) q2 q3 q4 (nI lv) q5 (nI an) md q6 q7, (q5, .inl (k5, 18, .inl f5)), (q6, .inl (k6, 4096, .inr (.inl f6))), (q7, .inl (k7, 6, .inr (.inl f7)))]) [0, 5, 6, 7] (by decide) rfl
  have hKc := hK.sub (tys' := [(k5, .int), (k6, .long), (k7, .long)]) [4, 5, 6] rfl
  have hFc := va_free (wc := [zO h 0 q1 (nI ts) (nI cn) q2 q3 q4 (nI lv) q5 (nI an) md q6 q7, (q5, .inl (k5, 18, .inl f5)), (q6, .inl (k6, 4096, .inr (.inl f6))), (q7, .inl (k7, 6, .inr (.inl f7)))]) hD hS hA [0, 5, 6, 7] rfl
  refine va_calli (va_runV (As := [.int (nI 0)]) (rest := [.ref h]) ⟨hx, hb, hml, hown, htA⟩ (r_from l dC dI h q1 q2 q3 q4 q5 q6 q7 k5 k6 k7 f5 f6 f7 0 (nI ts) (nI cn) (nI lv) an md 0 H.size (by omega) han hlit h7) (cwV 1 htA gX1_87 rfl rfl rfl (by decide +kernel) ⟨Nat.le_of_ble_eq_true rfl, Nat.le_of_ble_eq_true rfl⟩) ⟨fun a U g mk q => by obtain ⟨q0, q1, qP, qK, qD⟩ := q; exact ⟨q0, q1, qP, va_K.moved (u := U) (U := U.calling g mk a) (Vm.Alike.refl U.vm) qK, qD⟩, va_recv hKc hPc (ci := 1) (q0 := 0) rfl rfl, fun U hU hW => ⟨rfl, by rw [hU], by rw [hU]; exact hPc, va_K.moved hW.alike hKc, hDc.weaken (fun _ _ _ _ => trivial)⟩⟩ rfl rfl hl.1 rfl (lv_room (Nat.le_of_ble_eq_true rfl)) dX1_least_8 ⟨Nat.zero_le _, Nat.zero_le _⟩) hS (fun q _ h => hFc q h) hFc (fun rf u t H1 locs ht hvm hw hB hz1 hk1 hS => ?_)
  obtain ⟨hP1, hK1, hD1⟩ := hB
  rw [ht] at hP1
  try dsimp only at hw hP1 hD1
  obtain ⟨hP, hD⟩ := va_join (wr := [(q1, .inl (k1, 18, .inl f1)), (q2, .inl (k2, 7200, .inl f2)), (q3, .inl (k3, 400, .inl f3)), (q4, .inl (k4, 400, .inl f4))]) (w1 := [zO h 0 q1 (nI ts) (nI cn) q2 q3 q4 (nI lv) q5 (nI an) md q6 q7, (q5, .inl (k5, 18, .inl f5)), (q6, .inl (k6, 4096, .inr (.inl f6))), (q7, .inl (k7, 6, .inr (.inl f7)))]) hP hD [0, 5, 6, 7] [1, 2, 3, 4] rfl rfl (by decide) (by decide) hk1 hFc hP1 hD1
  generalize H1 = H at hP hS ⊢
  have hP : va_P (dC, dI) vwCl [zO h 0 q1 (nI ts) (nI cn) q2 q3 q4 (nI lv) q5 (nI an) md q6 q7, (q1, .inl (k1, 18, .inl f1)), (q2, .inl (k2, 7200, .inl f2)), (q3, .inl (k3, 400, .inl f3)), (q4, .inl (k4, 400, .inl f4)), (q5, .inl (k5, 18, .inl f5)), (q6, .inl (k6, 4096, .inr (.inl f6))), (q7, .inl (k7, 6, .inr (.inl f7)))] H := hP.sub [4, 0, 1, 2, 3, 5, 6, 7] rfl
  have hD : va_D A [zO h 0 q1 (nI ts) (nI cn) q2 q3 q4 (nI lv) q5 (nI an) md q6 q7, (q1, .inl (k1, 18, .inl f1)), (q2, .inl (k2, 7200, .inl f2)), (q3, .inl (k3, 400, .inl f3)), (q4, .inl (k4, 400, .inl f4)), (q5, .inl (k5, 18, .inl f5)), (q6, .inl (k6, 4096, .inr (.inl f6))), (q7, .inl (k7, 6, .inr (.inl f7)))] := hD.sub [4, 0, 1, 2, 3, 5, 6, 7] (by decide) rfl
  refine va_put (D := (dC, dI)) (ci := 1) (v := .int rf) (ty := .int) (C := RX1) (T := TX1) (N := 13) hx hb htA inX1 tyX1 tyX1_ok nX1 hown hK hP hD hS 0 rfl rfl 10 (by decide) (htA _ lkX1_25) (fun _ h9 => h9) rfl (by decide +kernel) rfl rfl (Nat.le_of_ble_eq_true rfl) dX1_least_11 (fun H locs hP hD hS => ?_)
  have hP : va_P (dC, dI) vwCl [zO h 0 q1 (nI ts) (nI cn) q2 q3 q4 (nI lv) q5 (nI an) rf q6 q7, (q1, .inl (k1, 18, .inl f1)), (q2, .inl (k2, 7200, .inl f2)), (q3, .inl (k3, 400, .inl f3)), (q4, .inl (k4, 400, .inl f4)), (q5, .inl (k5, 18, .inl f5)), (q6, .inl (k6, 4096, .inr (.inl f6))), (q7, .inl (k7, 6, .inr (.inl f7)))] H := hP
  have hD : va_D A [zO h 0 q1 (nI ts) (nI cn) q2 q3 q4 (nI lv) q5 (nI an) rf q6 q7, (q1, .inl (k1, 18, .inl f1)), (q2, .inl (k2, 7200, .inl f2)), (q3, .inl (k3, 400, .inl f3)), (q4, .inl (k4, 400, .inl f4)), (q5, .inl (k5, 18, .inl f5)), (q6, .inl (k6, 4096, .inr (.inl f6))), (q7, .inl (k7, 6, .inr (.inl f7)))] := hD
  refine lv_aload_n hx hb dX1_least_14 rfl (lv_at hl 0 rfl) ?_
  refine va_get (D := (dC, dI)) (ci := 1) (v := .int rf) (C := RX1) (T := TX1) (N := 13) hx hb htA inX1 hown hK hP 0 rfl rfl 10 (by decide) (htA _ lkX1_25) (fun _ h9 => h9) rfl dX1_least_15 ?_
  exact W.iret (v := rf) hx hb hr (fun t ht hW => ⟨⟨rf, rf, rfl, ⟨hw, rfl⟩, by rw [ht]; exact hP, va_K.moved hW.alike hK, hD⟩, hS.F ht⟩) hS.2.2 dX1_least_18
set_option maxHeartbeats 4000000 in
set_option maxRecDepth 100000 in
theorem r_next (l : Launch) (dC : Nat → ClassId) (dI : Nat → Nat → Nat) (h : Nat) (q1 : Nat) (q2 : Nat) (q3 : Nat) (q4 : Nat) (q5 : Nat) (q6 : Nat) (q7 : Nat) (k1 : ClassId) (k2 : ClassId) (k3 : ClassId) (k4 : ClassId) (k5 : ClassId) (k6 : ClassId) (k7 : ClassId) (f1 : Nat → Int32) (f2 : Nat → Int32) (f3 : Nat → Int32) (f4 : Nat → Int32) (f5 : Nat → Int32) (f6 : Nat → Int64) (f7 : Nat → Int64) (th : Int32) (ts : Nat) (cn : Nat) (lv : Nat) (an : Nat) (md : Int32) (sz : Nat) (han : an ≤ 18) (hlit : ∀ j, j < an → yLit (f5 j)) (h7 : zIn f7) (hmd : md = -1 ∨ ∃ c0, c0 < 262144 ∧ md = nI c0) : Met l yX1_next wsX1_next ({ frames := 3, cells := 0, slots := 0, locals := 120 }) (va_Pc [.ref h] (fun U => U.heap.size = sz ∧ va_P (dC, dI) vwCl [zO h th q1 (nI ts) (nI cn) q2 q3 q4 (nI lv) q5 (nI an) md q6 q7, (q1, .inl (k1, 18, .inl f1)), (q2, .inl (k2, 7200, .inl f2)), (q3, .inl (k3, 400, .inl f3)), (q4, .inl (k4, 400, .inl f4)), (q5, .inl (k5, 18, .inl f5)), (q6, .inl (k6, 4096, .inr (.inl f6))), (q7, .inl (k7, 6, .inr (.inl f7)))] U.heap ∧ va_K (dC, dI) vwCl [(k1, .int), (k2, .int), (k3, .int), (k4, .int), (k5, .int), (k6, .long), (k7, .long)] U ∧ va_D (fun _ => True) [zO h th q1 (nI ts) (nI cn) q2 q3 q4 (nI lv) q5 (nI an) md q6 q7, (q1, .inl (k1, 18, .inl f1)), (q2, .inl (k2, 7200, .inl f2)), (q3, .inl (k3, 400, .inl f3)), (q4, .inl (k4, 400, .inl f4)), (q5, .inl (k5, 18, .inl f5)), (q6, .inl (k6, 4096, .inr (.inl f6))), (q7, .inl (k7, 6, .inr (.inl f7)))])) (va_Qi (fun (r : Int32) (u : Int32 × Int32) => (md = -1 ∧ u = (1, md)) ∨ (∃ c0, c0 < 262144 ∧ md = nI c0 ∧ yL (zP f5 f6 an (-1)) (c0 + 1) r ∧ u = (0, r))) (fun (u : Int32 × Int32) (t : State) => va_P (dC, dI) vwCl [zO h u.1 q1 (nI ts) (nI cn) q2 q3 q4 (nI lv) q5 (nI an) u.2 q6 q7, (q1, .inl (k1, 18, .inl f1)), (q2, .inl (k2, 7200, .inl f2)), (q3, .inl (k3, 400, .inl f3)), (q4, .inl (k4, 400, .inl f4)), (q5, .inl (k5, 18, .inl f5)), (q6, .inl (k6, 4096, .inr (.inl f6))), (q7, .inl (k7, 6, .inr (.inl f7)))] t.heap ∧ va_K (dC, dI) vwCl [(k1, .int), (k2, .int), (k3, .int), (k4, .int), (k5, .int), (k6, .long), (k7, .long)] t ∧ va_D (va_A [zO h th q1 (nI ts) (nI cn) q2 q3 q4 (nI lv) q5 (nI an) md q6 q7, (q1, .inl (k1, 18, .inl f1)), (q2, .inl (k2, 7200, .inl f2)), (q3, .inl (k3, 400, .inl f3)), (q4, .inl (k4, 400, .inl f4)), (q5, .inl (k5, 18, .inl f5)), (q6, .inl (k6, 4096, .inr (.inl f6))), (q7, .inl (k7, 6, .inr (.inl f7)))] sz) [zO h u.1 q1 (nI ts) (nI cn) q2 q3 q4 (nI lv) q5 (nI an) u.2 q6 q7, (q1, .inl (k1, 18, .inl f1)), (q2, .inl (k2, 7200, .inl f2)), (q3, .inl (k3, 400, .inl f3)), (q4, .inl (k4, 400, .inl f4)), (q5, .inl (k5, 18, .inl f5)), (q6, .inl (k6, 4096, .inr (.inl f6))), (q7, .inl (k7, 6, .inr (.inl f7)))]) (va_A [zO h th q1 (nI ts) (nI cn) q2 q3 q4 (nI lv) q5 (nI an) md q6 q7, (q1, .inl (k1, 18, .inl f1)), (q2, .inl (k2, 7200, .inl f2)), (q3, .inl (k3, 400, .inl f3)), (q4, .inl (k4, 400, .inl f4)), (q5, .inl (k5, 18, .inl f5)), (q6, .inl (k6, 4096, .inr (.inl f6))), (q7, .inl (k7, 6, .inr (.inl f7)))] sz)) 0 0 (va_A [zO h th q1 (nI ts) (nI cn) q2 q3 q4 (nI lv) q5 (nI an) md q6 q7, (q1, .inl (k1, 18, .inl f1)), (q2, .inl (k2, 7200, .inl f2)), (q3, .inl (k3, 400, .inl f3)), (q4, .inl (k4, 400, .inl f4)), (q5, .inl (k5, 18, .inl f5)), (q6, .inl (k6, 4096, .inr (.inl f6))), (q7, .inl (k7, 6, .inr (.inl f7)))] sz) := by
  refine Met.ofW (cc := cX1_next) (maxL := 1) (ret := (some .int)) (by decide) rfl ?_
  intro p e s m args below meth c s₁ B hml hv
  obtain ⟨rfl, hsz, hP, hK, hD0⟩ := hv
  have hx := B.exec
  have hb := B.bytes
  have hr := B.returns
  have hts := atoms_spec (ws := wsX1_next) B.pre
  have htA : ∀ w ∈ wsA, w.before _ s = true := fun w h => hts w (List.mem_cons_of_mem _ h)
  have hown : s.vm.findClass RX1 = some m.cls := findClass_of_methodNamed B.named
  have hlocks := B.notSynchronized
  subst hsz
  have hD := hD0.self (sz := s.heap.size)
  generalize hAe : va_A [zO h th q1 (nI ts) (nI cn) q2 q3 q4 (nI lv) q5 (nI an) md q6 q7, (q1, .inl (k1, 18, .inl f1)), (q2, .inl (k2, 7200, .inl f2)), (q3, .inl (k3, 400, .inl f3)), (q4, .inl (k4, 400, .inl f4)), (q5, .inl (k5, 18, .inl f5)), (q6, .inl (k6, 4096, .inr (.inl f6))), (q7, .inl (k7, 6, .inr (.inl f7)))] s.heap.size = A at hD ⊢
  have hA : ∀ q : Nat, s.heap.size ≤ q → A q := fun q h => by rw [← hAe]; exact Or.inr h
  have hS : va_S A s.heap s.heap [] := va_S.rf
  have hP : va_P (dC, dI) vwCl [zO h th q1 (nI ts) (nI cn) q2 q3 q4 (nI lv) q5 (nI an) md q6 q7, (q1, .inl (k1, 18, .inl f1)), (q2, .inl (k2, 7200, .inl f2)), (q3, .inl (k3, 400, .inl f3)), (q4, .inl (k4, 400, .inl f4)), (q5, .inl (k5, 18, .inl f5)), (q6, .inl (k6, 4096, .inr (.inl f6))), (q7, .inl (k7, 6, .inr (.inl f7)))] s.heap := hP
  have hl := lv_entry ([.ref h]) (n := 1) (Nat.le_of_ble_eq_true rfl)
  rw [lg_entry_eq]
  generalize (lg_sl ([.ref h]) ++ List.replicate (1 - (lg_sl ([.ref h])).length) Slot.unset).toArray = ls at hl ⊢
  have hl : lv_has ls 1 [(0, .ref h)] := hl
  refine lv_aload_n hx hb dX1_next_0 rfl (lv_at hl 0 rfl) ?_
  refine lv_aload_n hx hb dX1_next_1 rfl (lv_at hl 0 rfl) ?_
  refine va_get (D := (dC, dI)) (ci := 1) (v := .int md) (C := RX1) (T := TX1) (N := 13) hx hb htA inX1 hown hK hP 0 rfl rfl 10 (by decide) (htA _ lkX1_25) (fun _ h9 => h9) rfl dX1_next_2 ?_
  refine lv_if_ge (tgt := 12) hx hb dX1_next_5 (by decide) (fun cb_56 => ?_) (fun cb_56 => ?_)
  · obtain ⟨c0, hc0, emd⟩ := hmd.resolve_left (fun q => by rw [q] at cb_56; exact absurd cb_56 (by decide))
    refine lv_iconst (v := 0) hx hb dX1_next_12 (by decide) ?_
    refine lv_iconst (v := 0) hx hb dX1_next_13 (by decide) ?_
    have hPc := hP.sub (ws' := [zO h th q1 (nI ts) (nI cn) q2 q3 q4 (nI lv) q5 (nI an) md q6 q7]) [0] rfl
    have hDc := hD.sub (ws' := [zO h th q1 (nI ts) (nI cn) q2 q3 q4 (nI lv) q5 (nI an) md q6 q7]) [0] (by decide) rfl
    have hKc := hK.sub (tys' := []) [] rfl
    have hFc := va_free (wc := [zO h th q1 (nI ts) (nI cn) q2 q3 q4 (nI lv) q5 (nI an) md q6 q7]) hD hS hA [0] rfl
    refine va_calli (va_runV (As := [.int 0, .int 0]) (rest := []) ⟨hx, hb, hml, hown, htA⟩ (r_throwing l dC dI h q1 q2 q3 q4 q5 q6 q7   th (nI ts) (nI cn) (nI lv) (nI an) md 0 0 s.heap.size) (cwV 2 htA gX1_80 rfl rfl rfl (by decide +kernel) ⟨Nat.le_of_ble_eq_true rfl, Nat.le_of_ble_eq_true rfl⟩) ⟨fun a U g mk q => by obtain ⟨q0, q1, qP, qK, qD⟩ := q; exact ⟨q0, q1, qP, va_K.moved (u := U) (U := U.calling g mk a) (Vm.Alike.refl U.vm) qK, qD⟩, va_recv hKc hPc (ci := 1) (q0 := 0) rfl rfl, fun U hU hW => ⟨rfl, by rw [hU], by rw [hU]; exact hPc, va_K.moved hW.alike hKc, hDc.weaken (fun _ _ _ _ => trivial)⟩⟩ rfl rfl hl.1 rfl (lv_room (Nat.le_of_ble_eq_true rfl)) dX1_next_14 ⟨Nat.zero_le _, Nat.zero_le _⟩) hS (fun q _ h => hFc q h) hFc (fun rth u t H1 locs ht hvm hw hB hz1 hk1 hS => ?_)
    obtain ⟨hP1, hK1, hD1⟩ := hB
    rw [ht] at hP1
    try dsimp only at hw hP1 hD1
    obtain ⟨hP, hD⟩ := va_join (wr := [(q1, .inl (k1, 18, .inl f1)), (q2, .inl (k2, 7200, .inl f2)), (q3, .inl (k3, 400, .inl f3)), (q4, .inl (k4, 400, .inl f4)), (q5, .inl (k5, 18, .inl f5)), (q6, .inl (k6, 4096, .inr (.inl f6))), (q7, .inl (k7, 6, .inr (.inl f7)))]) (w1 := [zO h u q1 (nI ts) (nI cn) q2 q3 q4 (nI lv) q5 (nI an) md q6 q7]) hP hD [0] [1, 2, 3, 4, 5, 6, 7] rfl rfl (by decide) (by decide) hk1 hFc hP1 hD1
    generalize H1 = H at hP hS ⊢
    have hP : va_P (dC, dI) vwCl [zO h u q1 (nI ts) (nI cn) q2 q3 q4 (nI lv) q5 (nI an) md q6 q7, (q1, .inl (k1, 18, .inl f1)), (q2, .inl (k2, 7200, .inl f2)), (q3, .inl (k3, 400, .inl f3)), (q4, .inl (k4, 400, .inl f4)), (q5, .inl (k5, 18, .inl f5)), (q6, .inl (k6, 4096, .inr (.inl f6))), (q7, .inl (k7, 6, .inr (.inl f7)))] H := hP.sub [7, 0, 1, 2, 3, 4, 5, 6] rfl
    have hD : va_D A [zO h u q1 (nI ts) (nI cn) q2 q3 q4 (nI lv) q5 (nI an) md q6 q7, (q1, .inl (k1, 18, .inl f1)), (q2, .inl (k2, 7200, .inl f2)), (q3, .inl (k3, 400, .inl f3)), (q4, .inl (k4, 400, .inl f4)), (q5, .inl (k5, 18, .inl f5)), (q6, .inl (k6, 4096, .inr (.inl f6))), (q7, .inl (k7, 6, .inr (.inl f7)))] := hD.sub [7, 0, 1, 2, 3, 4, 5, 6] (by decide) rfl
    obtain ⟨hu9, hr9⟩ : u = 0 ∧ rth = 0 := by
      rcases hw with h | h | h
      · exact absurd rfl h.1
      · exact absurd rfl h.2.1
      · exact h.2.2
    subst hu9
    subst hr9
    refine lv_if_eq (tgt := 22) hx hb dX1_next_17 (by decide) (fun cb_58 => ?_) (fun cb_58 => ?_)
    · refine lv_aload_n hx hb dX1_next_22 rfl (lv_at hl 0 rfl) ?_
      refine lv_aload_n hx hb dX1_next_23 rfl (lv_at hl 0 rfl) ?_
      refine lv_aload_n hx hb dX1_next_24 rfl (lv_at hl 0 rfl) ?_
      refine va_get (D := (dC, dI)) (ci := 1) (v := .int md) (C := RX1) (T := TX1) (N := 13) hx hb htA inX1 hown hK hP 0 rfl rfl 10 (by decide) (htA _ lkX1_25) (fun _ h9 => h9) rfl dX1_next_25 ?_
      refine lv_iconst (v := 1) hx hb dX1_next_28 (by decide) ?_
      refine lv_iadd hx hb dX1_next_29 ?_
      refine W.eq (g2 := F0 m 30 ls [.int (nI (c0 + 1)), .ref h, .ref h]) (by rw [emd, nI_1]) ?_
      have hPc := hP.sub (ws' := [zO h 0 q1 (nI ts) (nI cn) q2 q3 q4 (nI lv) q5 (nI an) md q6 q7, (q5, .inl (k5, 18, .inl f5)), (q6, .inl (k6, 4096, .inr (.inl f6))), (q7, .inl (k7, 6, .inr (.inl f7)))]) [0, 5, 6, 7] rfl
      have hDc := hD.sub (ws' := [zO h 0 q1 (nI ts) (nI cn) q2 q3 q4 (nI lv) q5 (nI an) md q6 q7, (q5, .inl (k5, 18, .inl f5)), (q6, .inl (k6, 4096, .inr (.inl f6))), (q7, .inl (k7, 6, .inr (.inl f7)))]) [0, 5, 6, 7] (by decide) rfl
      have hKc := hK.sub (tys' := [(k5, .int), (k6, .long), (k7, .long)]) [4, 5, 6] rfl
      have hFc := va_free (wc := [zO h 0 q1 (nI ts) (nI cn) q2 q3 q4 (nI lv) q5 (nI an) md q6 q7, (q5, .inl (k5, 18, .inl f5)), (q6, .inl (k6, 4096, .inr (.inl f6))), (q7, .inl (k7, 6, .inr (.inl f7)))]) hD hS hA [0, 5, 6, 7] rfl
      refine va_calli (va_runV (As := [.int (nI (c0 + 1))]) (rest := [.ref h]) ⟨hx, hb, hml, hown, htA⟩ (r_from l dC dI h q1 q2 q3 q4 q5 q6 q7 k5 k6 k7 f5 f6 f7 0 (nI ts) (nI cn) (nI lv) an md (c0 + 1) H.size (by omega) han hlit h7) (cwV 1 htA gX1_87 rfl rfl rfl (by decide +kernel) ⟨Nat.le_of_ble_eq_true rfl, Nat.le_of_ble_eq_true rfl⟩) ⟨fun a U g mk q => by obtain ⟨q0, q1, qP, qK, qD⟩ := q; exact ⟨q0, q1, qP, va_K.moved (u := U) (U := U.calling g mk a) (Vm.Alike.refl U.vm) qK, qD⟩, va_recv hKc hPc (ci := 1) (q0 := 0) rfl rfl, fun U hU hW => ⟨rfl, by rw [hU], by rw [hU]; exact hPc, va_K.moved hW.alike hKc, hDc.weaken (fun _ _ _ _ => trivial)⟩⟩ rfl rfl hl.1 rfl (lv_room (Nat.le_of_ble_eq_true rfl)) dX1_next_30 ⟨Nat.zero_le _, Nat.zero_le _⟩) hS (fun q _ h => hFc q h) hFc (fun rf u t H1 locs ht hvm hw hB hz1 hk1 hS => ?_)
      obtain ⟨hP1, hK1, hD1⟩ := hB
      rw [ht] at hP1
      try dsimp only at hw hP1 hD1
      obtain ⟨hP, hD⟩ := va_join (wr := [(q1, .inl (k1, 18, .inl f1)), (q2, .inl (k2, 7200, .inl f2)), (q3, .inl (k3, 400, .inl f3)), (q4, .inl (k4, 400, .inl f4))]) (w1 := [zO h 0 q1 (nI ts) (nI cn) q2 q3 q4 (nI lv) q5 (nI an) md q6 q7, (q5, .inl (k5, 18, .inl f5)), (q6, .inl (k6, 4096, .inr (.inl f6))), (q7, .inl (k7, 6, .inr (.inl f7)))]) hP hD [0, 5, 6, 7] [1, 2, 3, 4] rfl rfl (by decide) (by decide) hk1 hFc hP1 hD1
      generalize H1 = H at hP hS ⊢
      have hP : va_P (dC, dI) vwCl [zO h 0 q1 (nI ts) (nI cn) q2 q3 q4 (nI lv) q5 (nI an) md q6 q7, (q1, .inl (k1, 18, .inl f1)), (q2, .inl (k2, 7200, .inl f2)), (q3, .inl (k3, 400, .inl f3)), (q4, .inl (k4, 400, .inl f4)), (q5, .inl (k5, 18, .inl f5)), (q6, .inl (k6, 4096, .inr (.inl f6))), (q7, .inl (k7, 6, .inr (.inl f7)))] H := hP.sub [4, 0, 1, 2, 3, 5, 6, 7] rfl
      have hD : va_D A [zO h 0 q1 (nI ts) (nI cn) q2 q3 q4 (nI lv) q5 (nI an) md q6 q7, (q1, .inl (k1, 18, .inl f1)), (q2, .inl (k2, 7200, .inl f2)), (q3, .inl (k3, 400, .inl f3)), (q4, .inl (k4, 400, .inl f4)), (q5, .inl (k5, 18, .inl f5)), (q6, .inl (k6, 4096, .inr (.inl f6))), (q7, .inl (k7, 6, .inr (.inl f7)))] := hD.sub [4, 0, 1, 2, 3, 5, 6, 7] (by decide) rfl
      refine va_put (D := (dC, dI)) (ci := 1) (v := .int rf) (ty := .int) (C := RX1) (T := TX1) (N := 13) hx hb htA inX1 tyX1 tyX1_ok nX1 hown hK hP hD hS 0 rfl rfl 10 (by decide) (htA _ lkX1_25) (fun _ h9 => h9) rfl (by decide +kernel) rfl rfl (Nat.le_of_ble_eq_true rfl) dX1_next_33 (fun H locs hP hD hS => ?_)
      have hP : va_P (dC, dI) vwCl [zO h 0 q1 (nI ts) (nI cn) q2 q3 q4 (nI lv) q5 (nI an) rf q6 q7, (q1, .inl (k1, 18, .inl f1)), (q2, .inl (k2, 7200, .inl f2)), (q3, .inl (k3, 400, .inl f3)), (q4, .inl (k4, 400, .inl f4)), (q5, .inl (k5, 18, .inl f5)), (q6, .inl (k6, 4096, .inr (.inl f6))), (q7, .inl (k7, 6, .inr (.inl f7)))] H := hP
      have hD : va_D A [zO h 0 q1 (nI ts) (nI cn) q2 q3 q4 (nI lv) q5 (nI an) rf q6 q7, (q1, .inl (k1, 18, .inl f1)), (q2, .inl (k2, 7200, .inl f2)), (q3, .inl (k3, 400, .inl f3)), (q4, .inl (k4, 400, .inl f4)), (q5, .inl (k5, 18, .inl f5)), (q6, .inl (k6, 4096, .inr (.inl f6))), (q7, .inl (k7, 6, .inr (.inl f7)))] := hD
      refine lv_aload_n hx hb dX1_next_36 rfl (lv_at hl 0 rfl) ?_
      refine va_get (D := (dC, dI)) (ci := 1) (v := .int rf) (C := RX1) (T := TX1) (N := 13) hx hb htA inX1 hown hK hP 0 rfl rfl 10 (by decide) (htA _ lkX1_25) (fun _ h9 => h9) rfl dX1_next_37 ?_
      exact W.iret (v := rf) hx hb hr (fun t ht hW => ⟨⟨rf, (0, rf), rfl, Or.inr ⟨c0, hc0, emd, hw, rfl⟩, by rw [ht]; exact hP, va_K.moved hW.alike hK, hD⟩, hS.F ht⟩) hS.2.2 dX1_next_40
    · exact absurd rfl cb_58
  · have hmd : md = -1 := hmd.resolve_right (fun ⟨c0, h1, h2⟩ => cb_56 (by rw [h2]; exact nI_pos' (by omega)))
    refine lv_iconst (v := 1) hx hb dX1_next_8 (by decide) ?_
    refine lv_goto (tgt := 13) hx hb dX1_next_9 (by decide) ?_
    refine lv_iconst (v := 0) hx hb dX1_next_13 (by decide) ?_
    have hPc := hP.sub (ws' := [zO h th q1 (nI ts) (nI cn) q2 q3 q4 (nI lv) q5 (nI an) md q6 q7]) [0] rfl
    have hDc := hD.sub (ws' := [zO h th q1 (nI ts) (nI cn) q2 q3 q4 (nI lv) q5 (nI an) md q6 q7]) [0] (by decide) rfl
    have hKc := hK.sub (tys' := []) [] rfl
    have hFc := va_free (wc := [zO h th q1 (nI ts) (nI cn) q2 q3 q4 (nI lv) q5 (nI an) md q6 q7]) hD hS hA [0] rfl
    refine va_calli (va_runV (As := [.int 1, .int 0]) (rest := []) ⟨hx, hb, hml, hown, htA⟩ (r_throwing l dC dI h q1 q2 q3 q4 q5 q6 q7   th (nI ts) (nI cn) (nI lv) (nI an) md 1 0 s.heap.size) (cwV 2 htA gX1_80 rfl rfl rfl (by decide +kernel) ⟨Nat.le_of_ble_eq_true rfl, Nat.le_of_ble_eq_true rfl⟩) ⟨fun a U g mk q => by obtain ⟨q0, q1, qP, qK, qD⟩ := q; exact ⟨q0, q1, qP, va_K.moved (u := U) (U := U.calling g mk a) (Vm.Alike.refl U.vm) qK, qD⟩, va_recv hKc hPc (ci := 1) (q0 := 0) rfl rfl, fun U hU hW => ⟨rfl, by rw [hU], by rw [hU]; exact hPc, va_K.moved hW.alike hKc, hDc.weaken (fun _ _ _ _ => trivial)⟩⟩ rfl rfl hl.1 rfl (lv_room (Nat.le_of_ble_eq_true rfl)) dX1_next_14 ⟨Nat.zero_le _, Nat.zero_le _⟩) hS (fun q _ h => hFc q h) hFc (fun rth u t H1 locs ht hvm hw hB hz1 hk1 hS => ?_)
    obtain ⟨hP1, hK1, hD1⟩ := hB
    rw [ht] at hP1
    try dsimp only at hw hP1 hD1
    obtain ⟨hP, hD⟩ := va_join (wr := [(q1, .inl (k1, 18, .inl f1)), (q2, .inl (k2, 7200, .inl f2)), (q3, .inl (k3, 400, .inl f3)), (q4, .inl (k4, 400, .inl f4)), (q5, .inl (k5, 18, .inl f5)), (q6, .inl (k6, 4096, .inr (.inl f6))), (q7, .inl (k7, 6, .inr (.inl f7)))]) (w1 := [zO h u q1 (nI ts) (nI cn) q2 q3 q4 (nI lv) q5 (nI an) md q6 q7]) hP hD [0] [1, 2, 3, 4, 5, 6, 7] rfl rfl (by decide) (by decide) hk1 hFc hP1 hD1
    generalize H1 = H at hP hS ⊢
    have hP : va_P (dC, dI) vwCl [zO h u q1 (nI ts) (nI cn) q2 q3 q4 (nI lv) q5 (nI an) md q6 q7, (q1, .inl (k1, 18, .inl f1)), (q2, .inl (k2, 7200, .inl f2)), (q3, .inl (k3, 400, .inl f3)), (q4, .inl (k4, 400, .inl f4)), (q5, .inl (k5, 18, .inl f5)), (q6, .inl (k6, 4096, .inr (.inl f6))), (q7, .inl (k7, 6, .inr (.inl f7)))] H := hP.sub [7, 0, 1, 2, 3, 4, 5, 6] rfl
    have hD : va_D A [zO h u q1 (nI ts) (nI cn) q2 q3 q4 (nI lv) q5 (nI an) md q6 q7, (q1, .inl (k1, 18, .inl f1)), (q2, .inl (k2, 7200, .inl f2)), (q3, .inl (k3, 400, .inl f3)), (q4, .inl (k4, 400, .inl f4)), (q5, .inl (k5, 18, .inl f5)), (q6, .inl (k6, 4096, .inr (.inl f6))), (q7, .inl (k7, 6, .inr (.inl f7)))] := hD.sub [7, 0, 1, 2, 3, 4, 5, 6] (by decide) rfl
    obtain ⟨hu9, hr9⟩ : u = 1 ∧ rth = 1 := by
      rcases hw with h | h | h
      · exact h.2
      · exact absurd h.1 (by decide)
      · exact absurd h.1 (by decide)
    subst hu9
    subst hr9
    refine lv_if_eq (tgt := 22) hx hb dX1_next_17 (by decide) (fun cb_57 => ?_) (fun cb_57 => ?_)
    · exact absurd cb_57 (by decide)
    · refine lv_iconst (v := 0) hx hb dX1_next_20 (by decide) ?_
      exact W.iret (v := 0) hx hb hr (fun t ht hW => ⟨⟨0, (1, md), rfl, Or.inl ⟨hmd, rfl⟩, by rw [ht]; exact hP, va_K.moved hW.alike hK, hD⟩, hS.F ht⟩) hS.2.2 dX1_next_21
set_option maxHeartbeats 4000000 in
set_option maxRecDepth 100000 in
theorem r_can (l : Launch) (dC : Nat → ClassId) (dI : Nat → Nat → Nat) (h : Nat) (q1 : Nat) (q2 : Nat) (q3 : Nat) (q4 : Nat) (q5 : Nat) (q6 : Nat) (q7 : Nat) (k1 : ClassId) (k2 : ClassId) (k3 : ClassId) (k4 : ClassId) (k5 : ClassId) (k6 : ClassId) (k7 : ClassId) (f1 : Nat → Int32) (f2 : Nat → Int32) (f3 : Nat → Int32) (f4 : Nat → Int32) (f5 : Nat → Int32) (f6 : Nat → Int64) (f7 : Nat → Int64) (th : Int32) (ts : Nat) (cn : Nat) (lv : Nat) (an : Nat) (md : Int32) (sz : Nat) (han : an ≤ 18) (hlit : ∀ j, j < an → yLit (f5 j)) (h7 : zIn f7) : Met l yX1_can wsX1_can ({ frames := 3, cells := 0, slots := 0, locals := 120 }) (va_Pc [.ref h] (fun U => U.heap.size = sz ∧ va_P (dC, dI) vwCl [zO h th q1 (nI ts) (nI cn) q2 q3 q4 (nI lv) q5 (nI an) md q6 q7, (q1, .inl (k1, 18, .inl f1)), (q2, .inl (k2, 7200, .inl f2)), (q3, .inl (k3, 400, .inl f3)), (q4, .inl (k4, 400, .inl f4)), (q5, .inl (k5, 18, .inl f5)), (q6, .inl (k6, 4096, .inr (.inl f6))), (q7, .inl (k7, 6, .inr (.inl f7)))] U.heap ∧ va_K (dC, dI) vwCl [(k1, .int), (k2, .int), (k3, .int), (k4, .int), (k5, .int), (k6, .long), (k7, .long)] U ∧ va_D (fun _ => True) [zO h th q1 (nI ts) (nI cn) q2 q3 q4 (nI lv) q5 (nI an) md q6 q7, (q1, .inl (k1, 18, .inl f1)), (q2, .inl (k2, 7200, .inl f2)), (q3, .inl (k3, 400, .inl f3)), (q4, .inl (k4, 400, .inl f4)), (q5, .inl (k5, 18, .inl f5)), (q6, .inl (k6, 4096, .inr (.inl f6))), (q7, .inl (k7, 6, .inr (.inl f7)))])) (va_Qi (fun (r : Int32) (u : Unit) => (r = 1 ∧ ∃ a, a < 262144 ∧ (zP f5 f6 an (-1)) a) ∨ (r = 0 ∧ ¬ ∃ a, a < 262144 ∧ (zP f5 f6 an (-1)) a)) (fun (u : Unit) (t : State) => va_P (dC, dI) vwCl [zO h 0 q1 (nI ts) (nI cn) q2 q3 q4 (nI lv) q5 (nI an) md q6 q7, (q1, .inl (k1, 18, .inl f1)), (q2, .inl (k2, 7200, .inl f2)), (q3, .inl (k3, 400, .inl f3)), (q4, .inl (k4, 400, .inl f4)), (q5, .inl (k5, 18, .inl f5)), (q6, .inl (k6, 4096, .inr (.inl f6))), (q7, .inl (k7, 6, .inr (.inl f7)))] t.heap ∧ va_K (dC, dI) vwCl [(k1, .int), (k2, .int), (k3, .int), (k4, .int), (k5, .int), (k6, .long), (k7, .long)] t ∧ va_D (va_A [zO h th q1 (nI ts) (nI cn) q2 q3 q4 (nI lv) q5 (nI an) md q6 q7, (q1, .inl (k1, 18, .inl f1)), (q2, .inl (k2, 7200, .inl f2)), (q3, .inl (k3, 400, .inl f3)), (q4, .inl (k4, 400, .inl f4)), (q5, .inl (k5, 18, .inl f5)), (q6, .inl (k6, 4096, .inr (.inl f6))), (q7, .inl (k7, 6, .inr (.inl f7)))] sz) [zO h 0 q1 (nI ts) (nI cn) q2 q3 q4 (nI lv) q5 (nI an) md q6 q7, (q1, .inl (k1, 18, .inl f1)), (q2, .inl (k2, 7200, .inl f2)), (q3, .inl (k3, 400, .inl f3)), (q4, .inl (k4, 400, .inl f4)), (q5, .inl (k5, 18, .inl f5)), (q6, .inl (k6, 4096, .inr (.inl f6))), (q7, .inl (k7, 6, .inr (.inl f7)))]) (va_A [zO h th q1 (nI ts) (nI cn) q2 q3 q4 (nI lv) q5 (nI an) md q6 q7, (q1, .inl (k1, 18, .inl f1)), (q2, .inl (k2, 7200, .inl f2)), (q3, .inl (k3, 400, .inl f3)), (q4, .inl (k4, 400, .inl f4)), (q5, .inl (k5, 18, .inl f5)), (q6, .inl (k6, 4096, .inr (.inl f6))), (q7, .inl (k7, 6, .inr (.inl f7)))] sz)) 0 0 (va_A [zO h th q1 (nI ts) (nI cn) q2 q3 q4 (nI lv) q5 (nI an) md q6 q7, (q1, .inl (k1, 18, .inl f1)), (q2, .inl (k2, 7200, .inl f2)), (q3, .inl (k3, 400, .inl f3)), (q4, .inl (k4, 400, .inl f4)), (q5, .inl (k5, 18, .inl f5)), (q6, .inl (k6, 4096, .inr (.inl f6))), (q7, .inl (k7, 6, .inr (.inl f7)))] sz) := by
  refine Met.ofW (cc := cX1_can) (maxL := 1) (ret := (some .boolean)) (by decide) rfl ?_
  intro p e s m args below meth c s₁ B hml hv
  obtain ⟨rfl, hsz, hP, hK, hD0⟩ := hv
  have hx := B.exec
  have hb := B.bytes
  have hr := B.returns
  have hts := atoms_spec (ws := wsX1_can) B.pre
  have htA : ∀ w ∈ wsA, w.before _ s = true := fun w h => hts w (List.mem_cons_of_mem _ h)
  have hown : s.vm.findClass RX1 = some m.cls := findClass_of_methodNamed B.named
  have hlocks := B.notSynchronized
  subst hsz
  have hD := hD0.self (sz := s.heap.size)
  generalize hAe : va_A [zO h th q1 (nI ts) (nI cn) q2 q3 q4 (nI lv) q5 (nI an) md q6 q7, (q1, .inl (k1, 18, .inl f1)), (q2, .inl (k2, 7200, .inl f2)), (q3, .inl (k3, 400, .inl f3)), (q4, .inl (k4, 400, .inl f4)), (q5, .inl (k5, 18, .inl f5)), (q6, .inl (k6, 4096, .inr (.inl f6))), (q7, .inl (k7, 6, .inr (.inl f7)))] s.heap.size = A at hD ⊢
  have hA : ∀ q : Nat, s.heap.size ≤ q → A q := fun q h => by rw [← hAe]; exact Or.inr h
  have hS : va_S A s.heap s.heap [] := va_S.rf
  have hP : va_P (dC, dI) vwCl [zO h th q1 (nI ts) (nI cn) q2 q3 q4 (nI lv) q5 (nI an) md q6 q7, (q1, .inl (k1, 18, .inl f1)), (q2, .inl (k2, 7200, .inl f2)), (q3, .inl (k3, 400, .inl f3)), (q4, .inl (k4, 400, .inl f4)), (q5, .inl (k5, 18, .inl f5)), (q6, .inl (k6, 4096, .inr (.inl f6))), (q7, .inl (k7, 6, .inr (.inl f7)))] s.heap := hP
  have hl := lv_entry ([.ref h]) (n := 1) (Nat.le_of_ble_eq_true rfl)
  rw [lg_entry_eq]
  generalize (lg_sl ([.ref h]) ++ List.replicate (1 - (lg_sl ([.ref h])).length) Slot.unset).toArray = ls at hl ⊢
  have hl : lv_has ls 1 [(0, .ref h)] := hl
  refine lv_aload_n hx hb dX1_can_0 rfl (lv_at hl 0 rfl) ?_
  refine lv_iconst (v := 0) hx hb dX1_can_1 (by decide) ?_
  refine va_put (D := (dC, dI)) (ci := 1) (v := .int 0) (ty := .int) (C := RX1) (T := TX1) (N := 13) hx hb htA inX1 tyX1 tyX1_ok nX1 hown hK hP hD hS 0 rfl rfl 0 (by decide) (htA _ lkX1_51) (fun _ h9 => h9) rfl (by decide +kernel) rfl rfl (Nat.le_of_ble_eq_true rfl) dX1_can_2 (fun H locs hP hD hS => ?_)
  have hP : va_P (dC, dI) vwCl [zO h 0 q1 (nI ts) (nI cn) q2 q3 q4 (nI lv) q5 (nI an) md q6 q7, (q1, .inl (k1, 18, .inl f1)), (q2, .inl (k2, 7200, .inl f2)), (q3, .inl (k3, 400, .inl f3)), (q4, .inl (k4, 400, .inl f4)), (q5, .inl (k5, 18, .inl f5)), (q6, .inl (k6, 4096, .inr (.inl f6))), (q7, .inl (k7, 6, .inr (.inl f7)))] H := hP
  have hD : va_D A [zO h 0 q1 (nI ts) (nI cn) q2 q3 q4 (nI lv) q5 (nI an) md q6 q7, (q1, .inl (k1, 18, .inl f1)), (q2, .inl (k2, 7200, .inl f2)), (q3, .inl (k3, 400, .inl f3)), (q4, .inl (k4, 400, .inl f4)), (q5, .inl (k5, 18, .inl f5)), (q6, .inl (k6, 4096, .inr (.inl f6))), (q7, .inl (k7, 6, .inr (.inl f7)))] := hD
  refine lv_aload_n hx hb dX1_can_5 rfl (lv_at hl 0 rfl) ?_
  refine lv_iconst (v := (-1)) hx hb dX1_can_6 (by decide) ?_
  have hPc := hP.sub (ws' := [zO h 0 q1 (nI ts) (nI cn) q2 q3 q4 (nI lv) q5 (nI an) md q6 q7, (q5, .inl (k5, 18, .inl f5)), (q6, .inl (k6, 4096, .inr (.inl f6))), (q7, .inl (k7, 6, .inr (.inl f7)))]) [0, 5, 6, 7] rfl
  have hDc := hD.sub (ws' := [zO h 0 q1 (nI ts) (nI cn) q2 q3 q4 (nI lv) q5 (nI an) md q6 q7, (q5, .inl (k5, 18, .inl f5)), (q6, .inl (k6, 4096, .inr (.inl f6))), (q7, .inl (k7, 6, .inr (.inl f7)))]) [0, 5, 6, 7] (by decide) rfl
  have hKc := hK.sub (tys' := [(k5, .int), (k6, .long), (k7, .long)]) [4, 5, 6] rfl
  have hFc := va_free (wc := [zO h 0 q1 (nI ts) (nI cn) q2 q3 q4 (nI lv) q5 (nI an) md q6 q7, (q5, .inl (k5, 18, .inl f5)), (q6, .inl (k6, 4096, .inr (.inl f6))), (q7, .inl (k7, 6, .inr (.inl f7)))]) hD hS hA [0, 5, 6, 7] rfl
  refine va_calli (va_runV (As := [.int (-1)]) (rest := []) ⟨hx, hb, hml, hown, htA⟩ (r_some l dC dI h q1 q2 q3 q4 q5 q6 q7 k5 k6 k7 f5 f6 f7 0 (nI ts) (nI cn) (nI lv) an md (-1) H.size han hlit h7) (cwV 1 htA gX1_91 rfl rfl rfl (by decide +kernel) ⟨Nat.le_of_ble_eq_true rfl, Nat.le_of_ble_eq_true rfl⟩) ⟨fun a U g mk q => by obtain ⟨q0, q1, qP, qK, qD⟩ := q; exact ⟨q0, q1, qP, va_K.moved (u := U) (U := U.calling g mk a) (Vm.Alike.refl U.vm) qK, qD⟩, va_recv hKc hPc (ci := 1) (q0 := 0) rfl rfl, fun U hU hW => ⟨rfl, by rw [hU], by rw [hU]; exact hPc, va_K.moved hW.alike hKc, hDc.weaken (fun _ _ _ _ => trivial)⟩⟩ rfl rfl hl.1 rfl (lv_room (Nat.le_of_ble_eq_true rfl)) dX1_can_7 ⟨Nat.zero_le _, Nat.zero_le _⟩) hS (fun q _ h => hFc q h) hFc (fun rs u t H1 locs ht hvm hw hB hz1 hk1 hS => ?_)
  obtain ⟨hP1, hK1, hD1⟩ := hB
  rw [ht] at hP1
  try dsimp only at hw hP1 hD1
  obtain ⟨hP, hD⟩ := va_join (wr := [(q1, .inl (k1, 18, .inl f1)), (q2, .inl (k2, 7200, .inl f2)), (q3, .inl (k3, 400, .inl f3)), (q4, .inl (k4, 400, .inl f4))]) (w1 := [zO h 0 q1 (nI ts) (nI cn) q2 q3 q4 (nI lv) q5 (nI an) md q6 q7, (q5, .inl (k5, 18, .inl f5)), (q6, .inl (k6, 4096, .inr (.inl f6))), (q7, .inl (k7, 6, .inr (.inl f7)))]) hP hD [0, 5, 6, 7] [1, 2, 3, 4] rfl rfl (by decide) (by decide) hk1 hFc hP1 hD1
  generalize H1 = H at hP hS ⊢
  have hP : va_P (dC, dI) vwCl [zO h 0 q1 (nI ts) (nI cn) q2 q3 q4 (nI lv) q5 (nI an) md q6 q7, (q1, .inl (k1, 18, .inl f1)), (q2, .inl (k2, 7200, .inl f2)), (q3, .inl (k3, 400, .inl f3)), (q4, .inl (k4, 400, .inl f4)), (q5, .inl (k5, 18, .inl f5)), (q6, .inl (k6, 4096, .inr (.inl f6))), (q7, .inl (k7, 6, .inr (.inl f7)))] H := hP.sub [4, 0, 1, 2, 3, 5, 6, 7] rfl
  have hD : va_D A [zO h 0 q1 (nI ts) (nI cn) q2 q3 q4 (nI lv) q5 (nI an) md q6 q7, (q1, .inl (k1, 18, .inl f1)), (q2, .inl (k2, 7200, .inl f2)), (q3, .inl (k3, 400, .inl f3)), (q4, .inl (k4, 400, .inl f4)), (q5, .inl (k5, 18, .inl f5)), (q6, .inl (k6, 4096, .inr (.inl f6))), (q7, .inl (k7, 6, .inr (.inl f7)))] := hD.sub [4, 0, 1, 2, 3, 5, 6, 7] (by decide) rfl
  rcases hw with ⟨rfl, hw⟩ | ⟨rfl, hw⟩
  · exact W.zret (v := 1) (ty := .boolean) hx hb hr (by decide) (fun t ht hW => ⟨⟨1, (), rfl, Or.inl ⟨rfl, hw⟩, by rw [ht]; exact hP, va_K.moved hW.alike hK, hD⟩, hS.F ht⟩) hS.2.2 dX1_can_10
  · exact W.zret (v := 0) (ty := .boolean) hx hb hr (by decide) (fun t ht hW => ⟨⟨0, (), rfl, Or.inr ⟨rfl, hw⟩, by rw [ht]; exact hP, va_K.moved hW.alike hK, hD⟩, hS.F ht⟩) hS.2.2 dX1_can_10
