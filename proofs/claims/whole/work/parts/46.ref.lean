set_option maxHeartbeats 4000000 in
set_option maxRecDepth 100000 in
theorem r_add (l : Launch) (dC : Nat → ClassId) (dI : Nat → Nat → Nat) (h : Nat) (q1 : Nat) (q2 : Nat) (q3 : Nat) (q4 : Nat) (q5 : Nat) (q6 : Nat) (q7 : Nat) (k1 : ClassId) (k2 : ClassId) (k3 : ClassId) (k4 : ClassId) (k5 : ClassId) (k6 : ClassId) (k7 : ClassId) (f1 : Nat → Int32) (f2 : Nat → Int32) (f3 : Nat → Int32) (f4 : Nat → Int32) (f5 : Nat → Int32) (f6 : Nat → Int64) (f7 : Nat → Int64) (th : Int32) (ts : Nat) (cn : Nat) (lv : Nat) (an : Nat) (md : Int32) (sz : Nat) (hts8 : ts ≤ 18) (hcn : cn ≤ 400) (htl : ∀ j, j < ts → yLit (f1 j)) (h7 : zIn f7) : Met l yX1_add wsX1_add ({ frames := 2, cells := 0, slots := 0, locals := 80 }) (va_Pc [.ref h] (fun U => U.heap.size = sz ∧ va_P (dC, dI) vwCl [zO h th q1 (nI ts) (nI cn) q2 q3 q4 (nI lv) q5 (nI an) md q6 q7, (q1, .inl (k1, 18, .inl f1)), (q2, .inl (k2, 7200, .inl f2)), (q3, .inl (k3, 400, .inl f3)), (q4, .inl (k4, 400, .inl f4)), (q5, .inl (k5, 18, .inl f5)), (q6, .inl (k6, 4096, .inr (.inl f6))), (q7, .inl (k7, 6, .inr (.inl f7)))] U.heap ∧ va_K (dC, dI) vwCl [(k1, .int), (k2, .int), (k3, .int), (k4, .int), (k5, .int), (k6, .long), (k7, .long)] U ∧ va_D (fun _ => True) [zO h th q1 (nI ts) (nI cn) q2 q3 q4 (nI lv) q5 (nI an) md q6 q7, (q1, .inl (k1, 18, .inl f1)), (q2, .inl (k2, 7200, .inl f2)), (q3, .inl (k3, 400, .inl f3)), (q4, .inl (k4, 400, .inl f4)), (q5, .inl (k5, 18, .inl f5)), (q6, .inl (k6, 4096, .inr (.inl f6))), (q7, .inl (k7, 6, .inr (.inl f7)))])) (va_Qi (fun (r : Int32) (u : Int32 × Nat × Nat × (Nat → Int32) × (Nat → Int32) × (Nat → Int32) × (Nat → Int64) × Int32) => (cn = 400 ∧ u = (1, cn, ts, f2, f3, f4, f6, md)) ∨ (cn < 400 ∧ r = nI (cn + 1) ∧ ∃ g2 g6, u = (0, cn + 1, 0, g2, upd f3 cn (nI ts), upd f4 cn (nI lv), g6, -1) ∧ (∀ i, i < 18 * cn → g2 i = f2 i) ∧ (∀ j, j < ts → g2 (18 * cn + j) = f1 j) ∧ ∀ w, w < 4096 → zW (fun a => zb (f6 w) (a % 64) = true ∧ zC g2 cn ts a) w (g6 w))) (fun (u : Int32 × Nat × Nat × (Nat → Int32) × (Nat → Int32) × (Nat → Int32) × (Nat → Int64) × Int32) (t : State) => va_P (dC, dI) vwCl [zO h u.1 q1 (nI u.2.2.1) (nI u.2.1) q2 q3 q4 (nI lv) q5 (nI an) u.2.2.2.2.2.2.2 q6 q7, (q1, .inl (k1, 18, .inl f1)), (q2, .inl (k2, 7200, .inl u.2.2.2.1)), (q3, .inl (k3, 400, .inl u.2.2.2.2.1)), (q4, .inl (k4, 400, .inl u.2.2.2.2.2.1)), (q5, .inl (k5, 18, .inl f5)), (q6, .inl (k6, 4096, .inr (.inl u.2.2.2.2.2.2.1))), (q7, .inl (k7, 6, .inr (.inl f7)))] t.heap ∧ va_K (dC, dI) vwCl [(k1, .int), (k2, .int), (k3, .int), (k4, .int), (k5, .int), (k6, .long), (k7, .long)] t ∧ va_D (va_A [zO h th q1 (nI ts) (nI cn) q2 q3 q4 (nI lv) q5 (nI an) md q6 q7, (q1, .inl (k1, 18, .inl f1)), (q2, .inl (k2, 7200, .inl f2)), (q3, .inl (k3, 400, .inl f3)), (q4, .inl (k4, 400, .inl f4)), (q5, .inl (k5, 18, .inl f5)), (q6, .inl (k6, 4096, .inr (.inl f6))), (q7, .inl (k7, 6, .inr (.inl f7)))] sz) [zO h u.1 q1 (nI u.2.2.1) (nI u.2.1) q2 q3 q4 (nI lv) q5 (nI an) u.2.2.2.2.2.2.2 q6 q7, (q1, .inl (k1, 18, .inl f1)), (q2, .inl (k2, 7200, .inl u.2.2.2.1)), (q3, .inl (k3, 400, .inl u.2.2.2.2.1)), (q4, .inl (k4, 400, .inl u.2.2.2.2.2.1)), (q5, .inl (k5, 18, .inl f5)), (q6, .inl (k6, 4096, .inr (.inl u.2.2.2.2.2.2.1))), (q7, .inl (k7, 6, .inr (.inl f7)))]) (va_A [zO h th q1 (nI ts) (nI cn) q2 q3 q4 (nI lv) q5 (nI an) md q6 q7, (q1, .inl (k1, 18, .inl f1)), (q2, .inl (k2, 7200, .inl f2)), (q3, .inl (k3, 400, .inl f3)), (q4, .inl (k4, 400, .inl f4)), (q5, .inl (k5, 18, .inl f5)), (q6, .inl (k6, 4096, .inr (.inl f6))), (q7, .inl (k7, 6, .inr (.inl f7)))] sz)) 0 0 (va_A [zO h th q1 (nI ts) (nI cn) q2 q3 q4 (nI lv) q5 (nI an) md q6 q7, (q1, .inl (k1, 18, .inl f1)), (q2, .inl (k2, 7200, .inl f2)), (q3, .inl (k3, 400, .inl f3)), (q4, .inl (k4, 400, .inl f4)), (q5, .inl (k5, 18, .inl f5)), (q6, .inl (k6, 4096, .inr (.inl f6))), (q7, .inl (k7, 6, .inr (.inl f7)))] sz) := by
  refine Met.ofW (cc := cX1_add) (maxL := 2) (ret := (some .int)) (by decide) rfl ?_
  intro p e s m args below meth c s₁ B hml hv
  obtain ⟨rfl, hsz, hP, hK, hD0⟩ := hv
  have hx := B.exec
  have hb := B.bytes
  have hr := B.returns
  have hts := atoms_spec (ws := wsX1_add) B.pre
  have htA : ∀ w ∈ wsA, w.before _ s = true := fun w h => hts w (List.mem_cons_of_mem _ h)
  have hown : s.vm.findClass RX1 = some m.cls := findClass_of_methodNamed B.named
  have hlocks := B.notSynchronized
  subst hsz
  have hD := hD0.self (sz := s.heap.size)
  generalize hAe : va_A [zO h th q1 (nI ts) (nI cn) q2 q3 q4 (nI lv) q5 (nI an) md q6 q7, (q1, .inl (k1, 18, .inl f1)), (q2, .inl (k2, 7200, .inl f2)), (q3, .inl (k3, 400, .inl f3)), (q4, .inl (k4, 400, .inl f4)), (q5, .inl (k5, 18, .inl f5)), (q6, .inl (k6, 4096, .inr (.inl f6))), (q7, .inl (k7, 6, .inr (.inl f7)))] s.heap.size = A at hD ⊢
  have hA : ∀ q : Nat, s.heap.size ≤ q → A q := fun q h => by rw [← hAe]; exact Or.inr h
  have hS : va_S A s.heap s.heap [] := va_S.rf
  have hP : va_P (dC, dI) vwCl [zO h th q1 (nI ts) (nI cn) q2 q3 q4 (nI lv) q5 (nI an) md q6 q7, (q1, .inl (k1, 18, .inl f1)), (q2, .inl (k2, 7200, .inl f2)), (q3, .inl (k3, 400, .inl f3)), (q4, .inl (k4, 400, .inl f4)), (q5, .inl (k5, 18, .inl f5)), (q6, .inl (k6, 4096, .inr (.inl f6))), (q7, .inl (k7, 6, .inr (.inl f7)))] s.heap := hP
  have hl := lv_entry ([.ref h]) (n := 2) (Nat.le_of_ble_eq_true rfl)
  rw [lg_entry_eq]
  generalize (lg_sl ([.ref h]) ++ List.replicate (2 - (lg_sl ([.ref h])).length) Slot.unset).toArray = ls at hl ⊢
  have hl : lv_has ls 2 [(0, .ref h)] := hl
  refine lv_aload_n hx hb dX1_add_0 rfl (lv_at hl 0 rfl) ?_
  refine lv_aload_n hx hb dX1_add_1 rfl (lv_at hl 0 rfl) ?_
  refine va_get (D := (dC, dI)) (ci := 1) (v := .int (nI cn)) (C := RX1) (T := TX1) (N := 13) hx hb htA inX1 hown hK hP 0 rfl rfl 3 (by decide) (htA _ lkX1_60) (fun _ h9 => h9) rfl dX1_add_2 ?_
  refine lv_sipush (v := 400) hx hb dX1_add_5 (by decide) ?_
  refine lv_icmp_ne (tgt := 15) hx hb dX1_add_8 (by decide) (fun cb_59 => ?_) (fun cb_59 => ?_)
  · have h4 : cn < 400 := by
      rcases Nat.lt_or_ge cn 400 with q | q
      · exact q
      · exact absurd (by rw [show cn = 400 by omega]; rfl) cb_59
    refine lv_iconst (v := 0) hx hb dX1_add_15 (by decide) ?_
    refine lv_iconst (v := 0) hx hb dX1_add_16 (by decide) ?_
    have hPc := hP.sub (ws' := [zO h th q1 (nI ts) (nI cn) q2 q3 q4 (nI lv) q5 (nI an) md q6 q7]) [0] rfl
    have hDc := hD.sub (ws' := [zO h th q1 (nI ts) (nI cn) q2 q3 q4 (nI lv) q5 (nI an) md q6 q7]) [0] (by decide) rfl
    have hKc := hK.sub (tys' := []) [] rfl
    have hFc := va_free (wc := [zO h th q1 (nI ts) (nI cn) q2 q3 q4 (nI lv) q5 (nI an) md q6 q7]) hD hS hA [0] rfl
    refine va_calli (va_runV (As := [.int 0, .int 0]) (rest := []) ⟨hx, hb, hml, hown, htA⟩ (r_throwing l dC dI h q1 q2 q3 q4 q5 q6 q7   th (nI ts) (nI cn) (nI lv) (nI an) md 0 0 s.heap.size) (cwV 2 htA gX1_80 rfl rfl rfl (by decide +kernel) ⟨Nat.le_of_ble_eq_true rfl, Nat.le_of_ble_eq_true rfl⟩) ⟨fun a U g mk q => by obtain ⟨q0, q1, qP, qK, qD⟩ := q; exact ⟨q0, q1, qP, va_K.moved (u := U) (U := U.calling g mk a) (Vm.Alike.refl U.vm) qK, qD⟩, va_recv hKc hPc (ci := 1) (q0 := 0) rfl rfl, fun U hU hW => ⟨rfl, by rw [hU], by rw [hU]; exact hPc, va_K.moved hW.alike hKc, hDc.weaken (fun _ _ _ _ => trivial)⟩⟩ rfl rfl hl.1 rfl (lv_room (Nat.le_of_ble_eq_true rfl)) dX1_add_17 ⟨Nat.zero_le _, Nat.zero_le _⟩) hS (fun q _ h => hFc q h) hFc (fun rth u t H1 locs ht hvm hw hB hz1 hk1 hS => ?_)
    obtain ⟨hP1, hK1, hD1⟩ := hB
    rw [ht] at hP1
    try dsimp only at hw hP1 hD1
    obtain ⟨hP, hD⟩ := va_join (wr := [(q1, .inl (k1, 18, .inl f1)), (q2, .inl (k2, 7200, .inl f2)), (q3, .inl (k3, 400, .inl f3)), (q4, .inl (k4, 400, .inl f4)), (q5, .inl (k5, 18, .inl f5)), (q6, .inl (k6, 4096, .inr (.inl f6))), (q7, .inl (k7, 6, .inr (.inl f7)))]) (w1 := [zO h u q1 (nI ts) (nI cn) q2 q3 q4 (nI lv) q5 (nI an) md q6 q7]) hP hD [0] [1, 2, 3, 4, 5, 6, 7] rfl rfl (by decide) (by decide) hk1 hFc hP1 hD1
    generalize H1 = H at hP hS ⊢
    have hP : va_P (dC, dI) vwCl [zO h u q1 (nI ts) (nI cn) q2 q3 q4 (nI lv) q5 (nI an) md q6 q7, (q1, .inl (k1, 18, .inl f1)), (q2, .inl (k2, 7200, .inl f2)), (q3, .inl (k3, 400, .inl f3)), (q4, .inl (k4, 400, .inl f4)), (q5, .inl (k5, 18, .inl f5)), (q6, .inl (k6, 4096, .inr (.inl f6))), (q7, .inl (k7, 6, .inr (.inl f7)))] H := hP.sub [7, 0, 1, 2, 3, 4, 5, 6] rfl
    have hD : va_D A [zO h u q1 (nI ts) (nI cn) q2 q3 q4 (nI lv) q5 (nI an) md q6 q7, (q1, .inl (k1, 18, .inl f1)), (q2, .inl (k2, 7200, .inl f2)), (q3, .inl (k3, 400, .inl f3)), (q4, .inl (k4, 400, .inl f4)), (q5, .inl (k5, 18, .inl f5)), (q6, .inl (k6, 4096, .inr (.inl f6))), (q7, .inl (k7, 6, .inr (.inl f7)))] := hD.sub [7, 0, 1, 2, 3, 4, 5, 6] (by decide) rfl
    obtain ⟨hu9, hr9⟩ : u = 0 ∧ rth = 0 := by
      rcases hw with h | h | h
      · exact absurd rfl h.1
      · exact absurd rfl h.2.1
      · exact h.2.2
    subst hu9
    subst hr9
    refine lv_if_eq (tgt := 25) hx hb dX1_add_20 (by decide) (fun cb_61 => ?_) (fun cb_61 => ?_)
    · refine lv_iconst (v := 0) hx hb dX1_add_25 (by decide) ?_
      refine lv_istore_n (lv' := [(1, .int 0), (0, .ref h)]) hx hb dX1_add_26 rfl hl (by decide) rfl (fun ls hl => ?_)
      have loop : ∀ (fu j : Nat) (g2 : Nat → Int32), j ≤ ts → ts + 1 ≤ j + fu → (∀ i, i < 18 * cn → g2 i = f2 i) → (∀ i, i < j → g2 (18 * cn + i) = f1 i) → ∀ (H : Heap) (locs : List Loc), va_P (dC, dI) vwCl [zO h 0 q1 (nI ts) (nI cn) q2 q3 q4 (nI lv) q5 (nI an) md q6 q7, (q1, .inl (k1, 18, .inl f1)), (q2, .inl (k2, 7200, .inl g2)), (q3, .inl (k3, 400, .inl f3)), (q4, .inl (k4, 400, .inl f4)), (q5, .inl (k5, 18, .inl f5)), (q6, .inl (k6, 4096, .inr (.inl f6))), (q7, .inl (k7, 6, .inr (.inl f7)))] H → va_D A [zO h 0 q1 (nI ts) (nI cn) q2 q3 q4 (nI lv) q5 (nI an) md q6 q7, (q1, .inl (k1, 18, .inl f1)), (q2, .inl (k2, 7200, .inl g2)), (q3, .inl (k3, 400, .inl f3)), (q4, .inl (k4, 400, .inl f4)), (q5, .inl (k5, 18, .inl f5)), (q6, .inl (k6, 4096, .inr (.inl f6))), (q7, .inl (k7, 6, .inr (.inl f7)))] → va_S A s.heap H locs → ∀ (ls : Array Slot), lv_has ls 2 [(1, .int (nI j)), (0, .ref h)] → W p l e (headSpec wsX1_add ({ frames := 2, cells := 0, slots := 0, locals := 80 })).room s m ([.ref h] : List Value).toArray below meth c H locs 0 0 (MQ below (va_Qi (fun (r : Int32) (u : Int32 × Nat × Nat × (Nat → Int32) × (Nat → Int32) × (Nat → Int32) × (Nat → Int64) × Int32) => (cn = 400 ∧ u = (1, cn, ts, f2, f3, f4, f6, md)) ∨ (cn < 400 ∧ r = nI (cn + 1) ∧ ∃ g2 g6, u = (0, cn + 1, 0, g2, upd f3 cn (nI ts), upd f4 cn (nI lv), g6, -1) ∧ (∀ i, i < 18 * cn → g2 i = f2 i) ∧ (∀ j, j < ts → g2 (18 * cn + j) = f1 j) ∧ ∀ w, w < 4096 → zW (fun a => zb (f6 w) (a % 64) = true ∧ zC g2 cn ts a) w (g6 w))) (fun (u : Int32 × Nat × Nat × (Nat → Int32) × (Nat → Int32) × (Nat → Int32) × (Nat → Int64) × Int32) (t : State) => va_P (dC, dI) vwCl [zO h u.1 q1 (nI u.2.2.1) (nI u.2.1) q2 q3 q4 (nI lv) q5 (nI an) u.2.2.2.2.2.2.2 q6 q7, (q1, .inl (k1, 18, .inl f1)), (q2, .inl (k2, 7200, .inl u.2.2.2.1)), (q3, .inl (k3, 400, .inl u.2.2.2.2.1)), (q4, .inl (k4, 400, .inl u.2.2.2.2.2.1)), (q5, .inl (k5, 18, .inl f5)), (q6, .inl (k6, 4096, .inr (.inl u.2.2.2.2.2.2.1))), (q7, .inl (k7, 6, .inr (.inl f7)))] t.heap ∧ va_K (dC, dI) vwCl [(k1, .int), (k2, .int), (k3, .int), (k4, .int), (k5, .int), (k6, .long), (k7, .long)] t ∧ va_D A [zO h u.1 q1 (nI u.2.2.1) (nI u.2.1) q2 q3 q4 (nI lv) q5 (nI an) u.2.2.2.2.2.2.2 q6 q7, (q1, .inl (k1, 18, .inl f1)), (q2, .inl (k2, 7200, .inl u.2.2.2.1)), (q3, .inl (k3, 400, .inl u.2.2.2.2.1)), (q4, .inl (k4, 400, .inl u.2.2.2.2.2.1)), (q5, .inl (k5, 18, .inl f5)), (q6, .inl (k6, 4096, .inr (.inl u.2.2.2.2.2.2.1))), (q7, .inl (k7, 6, .inr (.inl f7)))]) A) ([.ref h] : List Value).toArray s 0 0 A) (F0 m 27 ls []) := by
        intro fu
        induction fu with
        | zero =>
          intro j g2 h1 h2
          exact absurd h2 (by omega)
        | succ fu ih =>
          intro j g2 hj hin hI hJ H locs hP hD hS ls hl
          refine lv_iload_n hx hb dX1_add_27 rfl (lv_at hl 0 rfl) ?_
          refine lv_aload_n hx hb dX1_add_28 rfl (lv_at hl 1 rfl) ?_
          refine va_get (D := (dC, dI)) (ci := 1) (v := .int (nI ts)) (C := RX1) (T := TX1) (N := 13) hx hb htA inX1 hown hK hP 0 rfl rfl 2 (by decide) (htA _ lkX1_77) (fun _ h9 => h9) rfl dX1_add_29 ?_
          refine lv_icmp_ge (tgt := 61) hx hb dX1_add_32 (by decide) (fun cb_62 => ?_) (fun cb_62 => ?_)
          · have hje : j = ts := by
              rcases Nat.lt_or_ge j ts with q | q
              · exact absurd cb_62 (nI_ge q (by omega))
              · omega
            refine lv_aload_n hx hb dX1_add_61 rfl (lv_at hl 1 rfl) ?_
            refine va_get (D := (dC, dI)) (ci := 1) (v := .ref q3) (C := RX1) (T := TX1) (N := 13) hx hb htA inX1 hown hK hP 0 rfl rfl 5 (by decide) (htA _ lkX1_16) (fun _ h9 => h9) rfl dX1_add_62 ?_
            refine lv_aload_n hx hb dX1_add_65 rfl (lv_at hl 1 rfl) ?_
            refine va_get (D := (dC, dI)) (ci := 1) (v := .int (nI cn)) (C := RX1) (T := TX1) (N := 13) hx hb htA inX1 hown hK hP 0 rfl rfl 3 (by decide) (htA _ lkX1_60) (fun _ h9 => h9) rfl dX1_add_66 ?_
            refine lv_aload_n hx hb dX1_add_69 rfl (lv_at hl 1 rfl) ?_
            refine va_get (D := (dC, dI)) (ci := 1) (v := .int (nI ts)) (C := RX1) (T := TX1) (N := 13) hx hb htA inX1 hown hK hP 0 rfl rfl 2 (by decide) (htA _ lkX1_77) (fun _ h9 => h9) rfl dX1_add_70 ?_
            refine yv_iast hx hb hK hP hD hS 3 2 rfl rfl (k := cn) h4 (by decide) dX1_add_73 (fun H locs hP hD hS => ?_)
            have hP : va_P (dC, dI) vwCl [zO h 0 q1 (nI ts) (nI cn) q2 q3 q4 (nI lv) q5 (nI an) md q6 q7, (q1, .inl (k1, 18, .inl f1)), (q2, .inl (k2, 7200, .inl g2)), (q3, .inl (k3, 400, .inl (upd f3 cn (nI ts)))), (q4, .inl (k4, 400, .inl f4)), (q5, .inl (k5, 18, .inl f5)), (q6, .inl (k6, 4096, .inr (.inl f6))), (q7, .inl (k7, 6, .inr (.inl f7)))] H := hP
            have hD : va_D A [zO h 0 q1 (nI ts) (nI cn) q2 q3 q4 (nI lv) q5 (nI an) md q6 q7, (q1, .inl (k1, 18, .inl f1)), (q2, .inl (k2, 7200, .inl g2)), (q3, .inl (k3, 400, .inl (upd f3 cn (nI ts)))), (q4, .inl (k4, 400, .inl f4)), (q5, .inl (k5, 18, .inl f5)), (q6, .inl (k6, 4096, .inr (.inl f6))), (q7, .inl (k7, 6, .inr (.inl f7)))] := hD
            refine lv_aload_n hx hb dX1_add_74 rfl (lv_at hl 1 rfl) ?_
            refine va_get (D := (dC, dI)) (ci := 1) (v := .ref q4) (C := RX1) (T := TX1) (N := 13) hx hb htA inX1 hown hK hP 0 rfl rfl 6 (by decide) (htA _ lkX1_19) (fun _ h9 => h9) rfl dX1_add_75 ?_
            refine lv_aload_n hx hb dX1_add_78 rfl (lv_at hl 1 rfl) ?_
            refine va_get (D := (dC, dI)) (ci := 1) (v := .int (nI cn)) (C := RX1) (T := TX1) (N := 13) hx hb htA inX1 hown hK hP 0 rfl rfl 3 (by decide) (htA _ lkX1_60) (fun _ h9 => h9) rfl dX1_add_79 ?_
            refine lv_aload_n hx hb dX1_add_82 rfl (lv_at hl 1 rfl) ?_
            refine va_get (D := (dC, dI)) (ci := 1) (v := .int (nI lv)) (C := RX1) (T := TX1) (N := 13) hx hb htA inX1 hown hK hP 0 rfl rfl 7 (by decide) (htA _ lkX1_84) (fun _ h9 => h9) rfl dX1_add_83 ?_
            refine yv_iast hx hb hK hP hD hS 4 3 rfl rfl (k := cn) h4 (by decide) dX1_add_86 (fun H locs hP hD hS => ?_)
            have hP : va_P (dC, dI) vwCl [zO h 0 q1 (nI ts) (nI cn) q2 q3 q4 (nI lv) q5 (nI an) md q6 q7, (q1, .inl (k1, 18, .inl f1)), (q2, .inl (k2, 7200, .inl g2)), (q3, .inl (k3, 400, .inl (upd f3 cn (nI ts)))), (q4, .inl (k4, 400, .inl (upd f4 cn (nI lv)))), (q5, .inl (k5, 18, .inl f5)), (q6, .inl (k6, 4096, .inr (.inl f6))), (q7, .inl (k7, 6, .inr (.inl f7)))] H := hP
            have hD : va_D A [zO h 0 q1 (nI ts) (nI cn) q2 q3 q4 (nI lv) q5 (nI an) md q6 q7, (q1, .inl (k1, 18, .inl f1)), (q2, .inl (k2, 7200, .inl g2)), (q3, .inl (k3, 400, .inl (upd f3 cn (nI ts)))), (q4, .inl (k4, 400, .inl (upd f4 cn (nI lv)))), (q5, .inl (k5, 18, .inl f5)), (q6, .inl (k6, 4096, .inr (.inl f6))), (q7, .inl (k7, 6, .inr (.inl f7)))] := hD
            refine lv_aload_n hx hb dX1_add_87 rfl (lv_at hl 1 rfl) ?_
            refine lv_iconst (v := 0) hx hb dX1_add_88 (by decide) ?_
            refine va_put (D := (dC, dI)) (ci := 1) (v := .int 0) (ty := .int) (C := RX1) (T := TX1) (N := 13) hx hb htA inX1 tyX1 tyX1_ok nX1 hown hK hP hD hS 0 rfl rfl 2 (by decide) (htA _ lkX1_77) (fun _ h9 => h9) rfl (by decide +kernel) rfl rfl (Nat.le_of_ble_eq_true rfl) dX1_add_89 (fun H locs hP hD hS => ?_)
            have hP : va_P (dC, dI) vwCl [zO h 0 q1 0 (nI cn) q2 q3 q4 (nI lv) q5 (nI an) md q6 q7, (q1, .inl (k1, 18, .inl f1)), (q2, .inl (k2, 7200, .inl g2)), (q3, .inl (k3, 400, .inl (upd f3 cn (nI ts)))), (q4, .inl (k4, 400, .inl (upd f4 cn (nI lv)))), (q5, .inl (k5, 18, .inl f5)), (q6, .inl (k6, 4096, .inr (.inl f6))), (q7, .inl (k7, 6, .inr (.inl f7)))] H := hP
            have hD : va_D A [zO h 0 q1 0 (nI cn) q2 q3 q4 (nI lv) q5 (nI an) md q6 q7, (q1, .inl (k1, 18, .inl f1)), (q2, .inl (k2, 7200, .inl g2)), (q3, .inl (k3, 400, .inl (upd f3 cn (nI ts)))), (q4, .inl (k4, 400, .inl (upd f4 cn (nI lv)))), (q5, .inl (k5, 18, .inl f5)), (q6, .inl (k6, 4096, .inr (.inl f6))), (q7, .inl (k7, 6, .inr (.inl f7)))] := hD
            refine lv_aload_n hx hb dX1_add_92 rfl (lv_at hl 1 rfl) ?_
            refine lv_aload_n hx hb dX1_add_93 rfl (lv_at hl 1 rfl) ?_
            refine va_get (D := (dC, dI)) (ci := 1) (v := .int (nI cn)) (C := RX1) (T := TX1) (N := 13) hx hb htA inX1 hown hK hP 0 rfl rfl 3 (by decide) (htA _ lkX1_60) (fun _ h9 => h9) rfl dX1_add_94 ?_
            have hPc := hP.sub (ws' := [zO h 0 q1 0 (nI cn) q2 q3 q4 (nI lv) q5 (nI an) md q6 q7, (q2, .inl (k2, 7200, .inl g2)), (q3, .inl (k3, 400, .inl (upd f3 cn (nI ts)))), (q6, .inl (k6, 4096, .inr (.inl f6))), (q7, .inl (k7, 6, .inr (.inl f7)))]) [0, 2, 3, 6, 7] rfl
            have hDc := hD.sub (ws' := [zO h 0 q1 0 (nI cn) q2 q3 q4 (nI lv) q5 (nI an) md q6 q7, (q2, .inl (k2, 7200, .inl g2)), (q3, .inl (k3, 400, .inl (upd f3 cn (nI ts)))), (q6, .inl (k6, 4096, .inr (.inl f6))), (q7, .inl (k7, 6, .inr (.inl f7)))]) [0, 2, 3, 6, 7] (by decide) rfl
            have hKc := hK.sub (tys' := [(k2, .int), (k3, .int), (k6, .long), (k7, .long)]) [1, 2, 5, 6] rfl
            have hFc := va_free (wc := [zO h 0 q1 0 (nI cn) q2 q3 q4 (nI lv) q5 (nI an) md q6 q7, (q2, .inl (k2, 7200, .inl g2)), (q3, .inl (k3, 400, .inl (upd f3 cn (nI ts)))), (q6, .inl (k6, 4096, .inr (.inl f6))), (q7, .inl (k7, 6, .inr (.inl f7)))]) hD hS hA [0, 2, 3, 6, 7] rfl
            refine va_callv (va_runV (As := [.int (nI cn)]) (rest := []) ⟨hx, hb, hml, hown, htA⟩ (r_apply l dC dI h q1 q2 q3 q4 q5 q6 q7 k2 k3 k6 k7 g2 (upd f3 cn (nI ts)) f6 f7 0 0 (nI cn) (nI lv) (nI an) md cn ts H.size h4 pk_us hts8 (fun j9 hj9 => by rw [hJ j9 (by omega)]; exact htl j9 hj9) h7) (cwV 1 htA gX1_63 rfl rfl rfl (by decide +kernel) ⟨Nat.le_of_ble_eq_true rfl, Nat.le_of_ble_eq_true rfl⟩) ⟨fun a U g mk q => by obtain ⟨q0, q1, qP, qK, qD⟩ := q; exact ⟨q0, q1, qP, va_K.moved (u := U) (U := U.calling g mk a) (Vm.Alike.refl U.vm) qK, qD⟩, va_recv hKc hPc (ci := 1) (q0 := 0) rfl rfl, fun U hU hW => ⟨rfl, by rw [hU], by rw [hU]; exact hPc, va_K.moved hW.alike hKc, hDc.weaken (fun _ _ _ _ => trivial)⟩⟩ rfl rfl hl.1 rfl (lv_room (Nat.le_of_ble_eq_true rfl)) dX1_add_97 ⟨Nat.zero_le _, Nat.zero_le _⟩) hS (fun q _ h => hFc q h) hFc (fun u t H1 locs ht hvm hw hB hz1 hk1 hS => ?_)
            obtain ⟨hP1, hK1, hD1⟩ := hB
            rw [ht] at hP1
            try dsimp only at hw hP1 hD1
            obtain ⟨hP, hD⟩ := va_join (wr := [(q1, .inl (k1, 18, .inl f1)), (q4, .inl (k4, 400, .inl (upd f4 cn (nI lv)))), (q5, .inl (k5, 18, .inl f5))]) (w1 := [zO h 0 q1 0 (nI cn) q2 q3 q4 (nI lv) q5 (nI an) md q6 q7, (q2, .inl (k2, 7200, .inl g2)), (q3, .inl (k3, 400, .inl (upd f3 cn (nI ts)))), (q6, .inl (k6, 4096, .inr (.inl u))), (q7, .inl (k7, 6, .inr (.inl f7)))]) hP hD [0, 2, 3, 6, 7] [1, 4, 5] rfl rfl (by decide) (by decide) hk1 hFc hP1 hD1
            generalize H1 = H at hP hS ⊢
            have hP : va_P (dC, dI) vwCl [zO h 0 q1 0 (nI cn) q2 q3 q4 (nI lv) q5 (nI an) md q6 q7, (q1, .inl (k1, 18, .inl f1)), (q2, .inl (k2, 7200, .inl g2)), (q3, .inl (k3, 400, .inl (upd f3 cn (nI ts)))), (q4, .inl (k4, 400, .inl (upd f4 cn (nI lv)))), (q5, .inl (k5, 18, .inl f5)), (q6, .inl (k6, 4096, .inr (.inl u))), (q7, .inl (k7, 6, .inr (.inl f7)))] H := hP.sub [3, 0, 4, 5, 1, 2, 6, 7] rfl
            have hD : va_D A [zO h 0 q1 0 (nI cn) q2 q3 q4 (nI lv) q5 (nI an) md q6 q7, (q1, .inl (k1, 18, .inl f1)), (q2, .inl (k2, 7200, .inl g2)), (q3, .inl (k3, 400, .inl (upd f3 cn (nI ts)))), (q4, .inl (k4, 400, .inl (upd f4 cn (nI lv)))), (q5, .inl (k5, 18, .inl f5)), (q6, .inl (k6, 4096, .inr (.inl u))), (q7, .inl (k7, 6, .inr (.inl f7)))] := hD.sub [3, 0, 4, 5, 1, 2, 6, 7] (by decide) rfl
            refine lv_aload_n hx hb dX1_add_100 rfl (lv_at hl 1 rfl) ?_
            refine lv_dup hx hb dX1_add_101 rfl ?_
            refine va_get (D := (dC, dI)) (ci := 1) (v := .int (nI cn)) (C := RX1) (T := TX1) (N := 13) hx hb htA inX1 hown hK hP 0 rfl rfl 3 (by decide) (htA _ lkX1_60) (fun _ h9 => h9) rfl dX1_add_102 ?_
            refine lv_iconst (v := 1) hx hb dX1_add_105 (by decide) ?_
            refine lv_iadd hx hb dX1_add_106 ?_
            refine W.eq (g2 := F0 m 107 ls [.int (nI (cn + 1)), .ref h]) (by rw [nI_1]) ?_
            refine va_put (D := (dC, dI)) (ci := 1) (v := .int (nI (cn + 1))) (ty := .int) (C := RX1) (T := TX1) (N := 13) hx hb htA inX1 tyX1 tyX1_ok nX1 hown hK hP hD hS 0 rfl rfl 3 (by decide) (htA _ lkX1_60) (fun _ h9 => h9) rfl (by decide +kernel) rfl rfl (Nat.le_of_ble_eq_true rfl) dX1_add_107 (fun H locs hP hD hS => ?_)
            have hP : va_P (dC, dI) vwCl [zO h 0 q1 0 (nI (cn + 1)) q2 q3 q4 (nI lv) q5 (nI an) md q6 q7, (q1, .inl (k1, 18, .inl f1)), (q2, .inl (k2, 7200, .inl g2)), (q3, .inl (k3, 400, .inl (upd f3 cn (nI ts)))), (q4, .inl (k4, 400, .inl (upd f4 cn (nI lv)))), (q5, .inl (k5, 18, .inl f5)), (q6, .inl (k6, 4096, .inr (.inl u))), (q7, .inl (k7, 6, .inr (.inl f7)))] H := hP
            have hD : va_D A [zO h 0 q1 0 (nI (cn + 1)) q2 q3 q4 (nI lv) q5 (nI an) md q6 q7, (q1, .inl (k1, 18, .inl f1)), (q2, .inl (k2, 7200, .inl g2)), (q3, .inl (k3, 400, .inl (upd f3 cn (nI ts)))), (q4, .inl (k4, 400, .inl (upd f4 cn (nI lv)))), (q5, .inl (k5, 18, .inl f5)), (q6, .inl (k6, 4096, .inr (.inl u))), (q7, .inl (k7, 6, .inr (.inl f7)))] := hD
            refine lv_aload_n hx hb dX1_add_110 rfl (lv_at hl 1 rfl) ?_
            refine lv_iconst (v := (-1)) hx hb dX1_add_111 (by decide) ?_
            refine va_put (D := (dC, dI)) (ci := 1) (v := .int (-1)) (ty := .int) (C := RX1) (T := TX1) (N := 13) hx hb htA inX1 tyX1 tyX1_ok nX1 hown hK hP hD hS 0 rfl rfl 10 (by decide) (htA _ lkX1_25) (fun _ h9 => h9) rfl (by decide +kernel) rfl rfl (Nat.le_of_ble_eq_true rfl) dX1_add_112 (fun H locs hP hD hS => ?_)
            have hP : va_P (dC, dI) vwCl [zO h 0 q1 0 (nI (cn + 1)) q2 q3 q4 (nI lv) q5 (nI an) (-1) q6 q7, (q1, .inl (k1, 18, .inl f1)), (q2, .inl (k2, 7200, .inl g2)), (q3, .inl (k3, 400, .inl (upd f3 cn (nI ts)))), (q4, .inl (k4, 400, .inl (upd f4 cn (nI lv)))), (q5, .inl (k5, 18, .inl f5)), (q6, .inl (k6, 4096, .inr (.inl u))), (q7, .inl (k7, 6, .inr (.inl f7)))] H := hP
            have hD : va_D A [zO h 0 q1 0 (nI (cn + 1)) q2 q3 q4 (nI lv) q5 (nI an) (-1) q6 q7, (q1, .inl (k1, 18, .inl f1)), (q2, .inl (k2, 7200, .inl g2)), (q3, .inl (k3, 400, .inl (upd f3 cn (nI ts)))), (q4, .inl (k4, 400, .inl (upd f4 cn (nI lv)))), (q5, .inl (k5, 18, .inl f5)), (q6, .inl (k6, 4096, .inr (.inl u))), (q7, .inl (k7, 6, .inr (.inl f7)))] := hD
            refine lv_aload_n hx hb dX1_add_115 rfl (lv_at hl 1 rfl) ?_
            refine va_get (D := (dC, dI)) (ci := 1) (v := .int (nI (cn + 1))) (C := RX1) (T := TX1) (N := 13) hx hb htA inX1 hown hK hP 0 rfl rfl 3 (by decide) (htA _ lkX1_60) (fun _ h9 => h9) rfl dX1_add_116 ?_
            exact W.iret (v := nI (cn + 1)) hx hb hr (fun t ht hW => ⟨⟨nI (cn + 1), (0, cn + 1, 0, g2, upd f3 cn (nI ts), upd f4 cn (nI lv), u, -1), rfl, Or.inr ⟨h4, rfl, g2, u, rfl, hI, fun i hi => hJ i (by omega), hw⟩, by rw [ht]; exact hP, va_K.moved hW.alike hK, hD⟩, hS.F ht⟩) hS.2.2 dX1_add_119
          · have hjl : j < ts := by
              rcases Nat.lt_or_ge j ts with q | q
              · exact q
              · exact absurd (nI_le q (by omega)) cb_62
            have h72 : 18 * cn + j < 7200 := by omega
            have hj18 : j < 18 := by omega
            refine lv_aload_n hx hb dX1_add_35 rfl (lv_at hl 1 rfl) ?_
            refine va_get (D := (dC, dI)) (ci := 1) (v := .ref q2) (C := RX1) (T := TX1) (N := 13) hx hb htA inX1 hown hK hP 0 rfl rfl 4 (by decide) (htA _ lkX1_13) (fun _ h9 => h9) rfl dX1_add_36 ?_
            refine lv_bipush (v := 18) hx hb dX1_add_39 (by decide) ?_
            refine lv_aload_n hx hb dX1_add_41 rfl (lv_at hl 1 rfl) ?_
            refine va_get (D := (dC, dI)) (ci := 1) (v := .int (nI cn)) (C := RX1) (T := TX1) (N := 13) hx hb htA inX1 hown hK hP 0 rfl rfl 3 (by decide) (htA _ lkX1_60) (fun _ h9 => h9) rfl dX1_add_42 ?_
            refine lv_imul hx hb dX1_add_45 ?_
            refine lv_iload_n hx hb dX1_add_46 rfl (lv_at hl 0 rfl) ?_
            refine lv_iadd hx hb dX1_add_47 ?_
            refine W.eq (g2 := F0 m 48 ls [.int (nI (18 * cn + j)), .ref q2]) (by rw [show (18 : Int32) * nI cn = nI (18 * cn) from pk_mul 18 cn, nI_add]) ?_
            refine lv_aload_n hx hb dX1_add_48 rfl (lv_at hl 1 rfl) ?_
            refine va_get (D := (dC, dI)) (ci := 1) (v := .ref q1) (C := RX1) (T := TX1) (N := 13) hx hb htA inX1 hown hK hP 0 rfl rfl 1 (by decide) (htA _ lkX1_7) (fun _ h9 => h9) rfl dX1_add_49 ?_
            refine lv_iload_n hx hb dX1_add_52 rfl (lv_at hl 0 rfl) ?_
            refine yv_iald hx hb hK hP 1 0 rfl rfl (k := j) hj18 (by decide) dX1_add_53 ?_
            refine yv_iast hx hb hK hP hD hS 2 1 rfl rfl (k := (18 * cn + j)) h72 (by decide) dX1_add_54 (fun H locs hP hD hS => ?_)
            have hP : va_P (dC, dI) vwCl [zO h 0 q1 (nI ts) (nI cn) q2 q3 q4 (nI lv) q5 (nI an) md q6 q7, (q1, .inl (k1, 18, .inl f1)), (q2, .inl (k2, 7200, .inl (upd g2 (18 * cn + j) (f1 j)))), (q3, .inl (k3, 400, .inl f3)), (q4, .inl (k4, 400, .inl f4)), (q5, .inl (k5, 18, .inl f5)), (q6, .inl (k6, 4096, .inr (.inl f6))), (q7, .inl (k7, 6, .inr (.inl f7)))] H := hP
            have hD : va_D A [zO h 0 q1 (nI ts) (nI cn) q2 q3 q4 (nI lv) q5 (nI an) md q6 q7, (q1, .inl (k1, 18, .inl f1)), (q2, .inl (k2, 7200, .inl (upd g2 (18 * cn + j) (f1 j)))), (q3, .inl (k3, 400, .inl f3)), (q4, .inl (k4, 400, .inl f4)), (q5, .inl (k5, 18, .inl f5)), (q6, .inl (k6, 4096, .inr (.inl f6))), (q7, .inl (k7, 6, .inr (.inl f7)))] := hD
            refine lv_iinc (v := nI (j + 1)) (lv' := [(1, .int (nI (j + 1))), (0, .ref h)]) hx hb dX1_add_55 hl (k := 0) rfl (nI_1 _) (by decide) rfl (fun ls hl => ?_)
            refine lv_goto (tgt := 27) hx hb dX1_add_58 (by decide) ?_
            refine ih (j + 1) _ hjl (by omega) ?_ ?_ _ _ hP hD hS ls (lv_sub hl [0, 1] rfl)
            · intro i hi
              rw [pk_un (by omega)]; exact hI i hi
            · intro i hi
              by_cases e : i = j
              · rw [e, pk_us]
              · rw [pk_un (by omega)]; exact hJ i (by omega)
      exact loop (ts + 1) 0 f2 (by omega) (by omega) (fun i _ => rfl) (fun i hi => absurd hi (Nat.not_lt_zero i)) _ _ hP hD hS ls (lv_sub hl [0, 1] rfl)
    · exact absurd rfl cb_61
  · have h4 : cn = 400 := (nI_eq (a := cn) (b := 400) (by omega) (by omega)).mp cb_59
    refine lv_iconst (v := 1) hx hb dX1_add_11 (by decide) ?_
    refine lv_goto (tgt := 16) hx hb dX1_add_12 (by decide) ?_
    refine lv_iconst (v := 0) hx hb dX1_add_16 (by decide) ?_
    have hPc := hP.sub (ws' := [zO h th q1 (nI ts) (nI cn) q2 q3 q4 (nI lv) q5 (nI an) md q6 q7]) [0] rfl
    have hDc := hD.sub (ws' := [zO h th q1 (nI ts) (nI cn) q2 q3 q4 (nI lv) q5 (nI an) md q6 q7]) [0] (by decide) rfl
    have hKc := hK.sub (tys' := []) [] rfl
    have hFc := va_free (wc := [zO h th q1 (nI ts) (nI cn) q2 q3 q4 (nI lv) q5 (nI an) md q6 q7]) hD hS hA [0] rfl
    refine va_calli (va_runV (As := [.int 1, .int 0]) (rest := []) ⟨hx, hb, hml, hown, htA⟩ (r_throwing l dC dI h q1 q2 q3 q4 q5 q6 q7   th (nI ts) (nI cn) (nI lv) (nI an) md 1 0 s.heap.size) (cwV 2 htA gX1_80 rfl rfl rfl (by decide +kernel) ⟨Nat.le_of_ble_eq_true rfl, Nat.le_of_ble_eq_true rfl⟩) ⟨fun a U g mk q => by obtain ⟨q0, q1, qP, qK, qD⟩ := q; exact ⟨q0, q1, qP, va_K.moved (u := U) (U := U.calling g mk a) (Vm.Alike.refl U.vm) qK, qD⟩, va_recv hKc hPc (ci := 1) (q0 := 0) rfl rfl, fun U hU hW => ⟨rfl, by rw [hU], by rw [hU]; exact hPc, va_K.moved hW.alike hKc, hDc.weaken (fun _ _ _ _ => trivial)⟩⟩ rfl rfl hl.1 rfl (lv_room (Nat.le_of_ble_eq_true rfl)) dX1_add_17 ⟨Nat.zero_le _, Nat.zero_le _⟩) hS (fun q _ h => hFc q h) hFc (fun rth u t H1 locs ht hvm hw hB hz1 hk1 hS => ?_)
    obtain ⟨hP1, hK1, hD1⟩ := hB
    rw [ht] at hP1
    try dsimp only at hw hP1 hD1
    obtain ⟨hP, hD⟩ := va_join (wr := [(q1, .inl (k1, 18, .inl f1)), (q2, .inl (k2, 7200, .inl f2)), (q3, .inl (k3, 400, .inl f3)), (q4, .inl (k4, 400, .inl f4)), (q5, .inl (k5, 18, .inl f5)), (q6, .inl (k6, 4096, .inr (.inl f6))), (q7, .inl (k7, 6, .inr (.inl f7)))]) (w1 := [zO h u q1 (nI ts) (nI cn) q2 q3 q4 (nI lv) q5 (nI an) md q6 q7]) hP hD [0] [1, 2, 3, 4, 5, 6, 7] rfl rfl (by decide) (by decide) hk1 hFc hP1 hD1
    generalize H1 = H at hP hS ⊢
    have hP : va_P (dC, dI) vwCl [zO h u q1 (nI ts) (nI cn) q2 q3 q4 (nI lv) q5 (nI an) md q6 q7, (q1, .inl (k1, 18, .inl f1)), (q2, .inl (k2, 7200, .inl f2)), (q3, .inl (k3, 400, .inl f3)), (q4, .inl (k4, 400, .inl f4)), (q5, .inl (k5, 18, .inl f5)), (q6, .inl (k6, 4096, .inr (.inl f6))), (q7, .inl (k7, 6, .inr (.inl f7)))] H := hP.sub [7, 0, 1, 2, 3, 4, 5, 6] rfl
    have hD : va_D A [zO h u q1 (nI ts) (nI cn) q2 q3 q4 (nI lv) q5 (nI an) md q6 q7, (q1, .inl (k1, 18, .inl f1)), (q2, .inl (k2, 7200, .inl f2)), (q3, .inl (k3, 400, .inl f3)), (q4, .inl (k4, 400, .inl f4)), (q5, .inl (k5, 18, .inl f5)), (q6, .inl (k6, 4096, .inr (.inl f6))), (q7, .inl (k7, 6, .inr (.inl f7)))] := hD.sub [7, 0, 1, 2, 3, 4, 5, 6] (by decide) rfl
    obtain ⟨hu9, hr9⟩ : u = 1 ∧ rth = 1 := by
      rcases hw with h | h | h
      · exact h.2
      · exact absurd h.1 (by decide)
      · exact absurd h.1 (by decide)
    subst hu9
    subst hr9
    refine lv_if_eq (tgt := 25) hx hb dX1_add_20 (by decide) (fun cb_60 => ?_) (fun cb_60 => ?_)
    · exact absurd cb_60 (by decide)
    · refine lv_iconst (v := 0) hx hb dX1_add_23 (by decide) ?_
      exact W.iret (v := 0) hx hb hr (fun t ht hW => ⟨⟨0, (1, cn, ts, f2, f3, f4, f6, md), rfl, Or.inl ⟨h4, rfl⟩, by rw [ht]; exact hP, va_K.moved hW.alike hK, hD⟩, hS.F ht⟩) hS.2.2 dX1_add_24
set_option maxHeartbeats 4000000 in
set_option maxRecDepth 100000 in
theorem r_close (l : Launch) (dC : Nat → ClassId) (dI : Nat → Nat → Nat) (h : Nat) (q1 : Nat) (q2 : Nat) (q3 : Nat) (q4 : Nat) (q5 : Nat) (q6 : Nat) (q7 : Nat) (k1 : ClassId) (k2 : ClassId) (k3 : ClassId) (k4 : ClassId) (k5 : ClassId) (k6 : ClassId) (k7 : ClassId) (f1 : Nat → Int32) (f2 : Nat → Int32) (f3 : Nat → Int32) (f4 : Nat → Int32) (f5 : Nat → Int32) (f6 : Nat → Int64) (f7 : Nat → Int64) (th : Int32) (ts : Nat) (cn : Nat) (lv : Nat) (an : Nat) (md : Int32) (zs : Nat → Nat) (sz : Nat) (hcn : cn ≤ 400) (hlv : lv ≤ 40) (hsz : ∀ c, c < cn → f3 c = nI (zs c) ∧ zs c ≤ 18) (hlit : ∀ c, c < cn → ∀ j, j < zs c → yLit (f2 (18 * c + j))) (h7 : zIn f7) (hG : ∀ w, w < 4096 → zW (fun a => ∀ c, c < cn → zC f2 c (zs c) a) w (f6 w)) : Met l yX1_close wsX1_close ({ frames := 3, cells := 0, slots := 0, locals := 120 }) (va_Pc [.ref h] (fun U => U.heap.size = sz ∧ va_P (dC, dI) vwCl [zO h th q1 (nI ts) (nI cn) q2 q3 q4 (nI lv) q5 (nI an) md q6 q7, (q1, .inl (k1, 18, .inl f1)), (q2, .inl (k2, 7200, .inl f2)), (q3, .inl (k3, 400, .inl f3)), (q4, .inl (k4, 400, .inl f4)), (q5, .inl (k5, 18, .inl f5)), (q6, .inl (k6, 4096, .inr (.inl f6))), (q7, .inl (k7, 6, .inr (.inl f7)))] U.heap ∧ va_K (dC, dI) vwCl [(k1, .int), (k2, .int), (k3, .int), (k4, .int), (k5, .int), (k6, .long), (k7, .long)] U ∧ va_D (fun _ => True) [zO h th q1 (nI ts) (nI cn) q2 q3 q4 (nI lv) q5 (nI an) md q6 q7, (q1, .inl (k1, 18, .inl f1)), (q2, .inl (k2, 7200, .inl f2)), (q3, .inl (k3, 400, .inl f3)), (q4, .inl (k4, 400, .inl f4)), (q5, .inl (k5, 18, .inl f5)), (q6, .inl (k6, 4096, .inr (.inl f6))), (q7, .inl (k7, 6, .inr (.inl f7)))])) (va_Qi (fun (r : Int32) (u : Int32 × Nat × Nat × (Nat → Int64) × Int32) => (lv = 0 ∧ u = (1, cn, lv, f6, md)) ∨ (0 < lv ∧ ∃ c2 g6, c2 ≤ cn ∧ r = nI (cn - c2) ∧ u = (0, c2, lv - 1, g6, -1) ∧ (∀ i, c2 ≤ i → i < cn → f4 i = nI lv) ∧ (c2 = 0 ∨ ¬ f4 (c2 - 1) = nI lv) ∧ ∀ w, w < 4096 → zW (fun a => ∀ c, c < c2 → zC f2 c (zs c) a) w (g6 w))) (fun (u : Int32 × Nat × Nat × (Nat → Int64) × Int32) (t : State) => va_P (dC, dI) vwCl [zO h u.1 q1 (nI ts) (nI u.2.1) q2 q3 q4 (nI u.2.2.1) q5 (nI an) u.2.2.2.2 q6 q7, (q1, .inl (k1, 18, .inl f1)), (q2, .inl (k2, 7200, .inl f2)), (q3, .inl (k3, 400, .inl f3)), (q4, .inl (k4, 400, .inl f4)), (q5, .inl (k5, 18, .inl f5)), (q6, .inl (k6, 4096, .inr (.inl u.2.2.2.1))), (q7, .inl (k7, 6, .inr (.inl f7)))] t.heap ∧ va_K (dC, dI) vwCl [(k1, .int), (k2, .int), (k3, .int), (k4, .int), (k5, .int), (k6, .long), (k7, .long)] t ∧ va_D (va_A [zO h th q1 (nI ts) (nI cn) q2 q3 q4 (nI lv) q5 (nI an) md q6 q7, (q1, .inl (k1, 18, .inl f1)), (q2, .inl (k2, 7200, .inl f2)), (q3, .inl (k3, 400, .inl f3)), (q4, .inl (k4, 400, .inl f4)), (q5, .inl (k5, 18, .inl f5)), (q6, .inl (k6, 4096, .inr (.inl f6))), (q7, .inl (k7, 6, .inr (.inl f7)))] sz) [zO h u.1 q1 (nI ts) (nI u.2.1) q2 q3 q4 (nI u.2.2.1) q5 (nI an) u.2.2.2.2 q6 q7, (q1, .inl (k1, 18, .inl f1)), (q2, .inl (k2, 7200, .inl f2)), (q3, .inl (k3, 400, .inl f3)), (q4, .inl (k4, 400, .inl f4)), (q5, .inl (k5, 18, .inl f5)), (q6, .inl (k6, 4096, .inr (.inl u.2.2.2.1))), (q7, .inl (k7, 6, .inr (.inl f7)))]) (va_A [zO h th q1 (nI ts) (nI cn) q2 q3 q4 (nI lv) q5 (nI an) md q6 q7, (q1, .inl (k1, 18, .inl f1)), (q2, .inl (k2, 7200, .inl f2)), (q3, .inl (k3, 400, .inl f3)), (q4, .inl (k4, 400, .inl f4)), (q5, .inl (k5, 18, .inl f5)), (q6, .inl (k6, 4096, .inr (.inl f6))), (q7, .inl (k7, 6, .inr (.inl f7)))] sz)) 0 0 (va_A [zO h th q1 (nI ts) (nI cn) q2 q3 q4 (nI lv) q5 (nI an) md q6 q7, (q1, .inl (k1, 18, .inl f1)), (q2, .inl (k2, 7200, .inl f2)), (q3, .inl (k3, 400, .inl f3)), (q4, .inl (k4, 400, .inl f4)), (q5, .inl (k5, 18, .inl f5)), (q6, .inl (k6, 4096, .inr (.inl f6))), (q7, .inl (k7, 6, .inr (.inl f7)))] sz) := by
  refine Met.ofW (cc := cX1_close) (maxL := 2) (ret := (some .int)) (by decide) rfl ?_
  intro p e s m args below meth c s₁ B hml hv
  obtain ⟨rfl, hsz, hP, hK, hD0⟩ := hv
  have hx := B.exec
  have hb := B.bytes
  have hr := B.returns
  have hts := atoms_spec (ws := wsX1_close) B.pre
  have htA : ∀ w ∈ wsA, w.before _ s = true := fun w h => hts w (List.mem_cons_of_mem _ h)
  have hown : s.vm.findClass RX1 = some m.cls := findClass_of_methodNamed B.named
  have hlocks := B.notSynchronized
  subst hsz
  have hD := hD0.self (sz := s.heap.size)
  generalize hAe : va_A [zO h th q1 (nI ts) (nI cn) q2 q3 q4 (nI lv) q5 (nI an) md q6 q7, (q1, .inl (k1, 18, .inl f1)), (q2, .inl (k2, 7200, .inl f2)), (q3, .inl (k3, 400, .inl f3)), (q4, .inl (k4, 400, .inl f4)), (q5, .inl (k5, 18, .inl f5)), (q6, .inl (k6, 4096, .inr (.inl f6))), (q7, .inl (k7, 6, .inr (.inl f7)))] s.heap.size = A at hD ⊢
  have hA : ∀ q : Nat, s.heap.size ≤ q → A q := fun q h => by rw [← hAe]; exact Or.inr h
  have hS : va_S A s.heap s.heap [] := va_S.rf
  have hP : va_P (dC, dI) vwCl [zO h th q1 (nI ts) (nI cn) q2 q3 q4 (nI lv) q5 (nI an) md q6 q7, (q1, .inl (k1, 18, .inl f1)), (q2, .inl (k2, 7200, .inl f2)), (q3, .inl (k3, 400, .inl f3)), (q4, .inl (k4, 400, .inl f4)), (q5, .inl (k5, 18, .inl f5)), (q6, .inl (k6, 4096, .inr (.inl f6))), (q7, .inl (k7, 6, .inr (.inl f7)))] s.heap := hP
  have hl := lv_entry ([.ref h]) (n := 2) (Nat.le_of_ble_eq_true rfl)
  rw [lg_entry_eq]
  generalize (lg_sl ([.ref h]) ++ List.replicate (2 - (lg_sl ([.ref h])).length) Slot.unset).toArray = ls at hl ⊢
  have hl : lv_has ls 2 [(0, .ref h)] := hl
  refine lv_aload_n hx hb dX1_close_0 rfl (lv_at hl 0 rfl) ?_
  refine lv_aload_n hx hb dX1_close_1 rfl (lv_at hl 0 rfl) ?_
  refine va_get (D := (dC, dI)) (ci := 1) (v := .int (nI lv)) (C := RX1) (T := TX1) (N := 13) hx hb htA inX1 hown hK hP 0 rfl rfl 7 (by decide) (htA _ lkX1_84) (fun _ h9 => h9) rfl dX1_close_2 ?_
  refine lv_if_ne (tgt := 12) hx hb dX1_close_5 (by decide) (fun cb_64 => ?_) (fun cb_64 => ?_)
  · have h0 : 0 < lv := by
      rcases Nat.eq_zero_or_pos lv with q | q
      · exact absurd (by rw [q]; exact nI_0) cb_64
      · exact q
    refine lv_iconst (v := 0) hx hb dX1_close_12 (by decide) ?_
    refine lv_iconst (v := 0) hx hb dX1_close_13 (by decide) ?_
    have hPc := hP.sub (ws' := [zO h th q1 (nI ts) (nI cn) q2 q3 q4 (nI lv) q5 (nI an) md q6 q7]) [0] rfl
    have hDc := hD.sub (ws' := [zO h th q1 (nI ts) (nI cn) q2 q3 q4 (nI lv) q5 (nI an) md q6 q7]) [0] (by decide) rfl
    have hKc := hK.sub (tys' := []) [] rfl
    have hFc := va_free (wc := [zO h th q1 (nI ts) (nI cn) q2 q3 q4 (nI lv) q5 (nI an) md q6 q7]) hD hS hA [0] rfl
    refine va_calli (va_runV (As := [.int 0, .int 0]) (rest := []) ⟨hx, hb, hml, hown, htA⟩ (r_throwing l dC dI h q1 q2 q3 q4 q5 q6 q7   th (nI ts) (nI cn) (nI lv) (nI an) md 0 0 s.heap.size) (cwV 2 htA gX1_80 rfl rfl rfl (by decide +kernel) ⟨Nat.le_of_ble_eq_true rfl, Nat.le_of_ble_eq_true rfl⟩) ⟨fun a U g mk q => by obtain ⟨q0, q1, qP, qK, qD⟩ := q; exact ⟨q0, q1, qP, va_K.moved (u := U) (U := U.calling g mk a) (Vm.Alike.refl U.vm) qK, qD⟩, va_recv hKc hPc (ci := 1) (q0 := 0) rfl rfl, fun U hU hW => ⟨rfl, by rw [hU], by rw [hU]; exact hPc, va_K.moved hW.alike hKc, hDc.weaken (fun _ _ _ _ => trivial)⟩⟩ rfl rfl hl.1 rfl (lv_room (Nat.le_of_ble_eq_true rfl)) dX1_close_14 ⟨Nat.zero_le _, Nat.zero_le _⟩) hS (fun q _ h => hFc q h) hFc (fun rth u t H1 locs ht hvm hw hB hz1 hk1 hS => ?_)
    obtain ⟨hP1, hK1, hD1⟩ := hB
    rw [ht] at hP1
    try dsimp only at hw hP1 hD1
    obtain ⟨hP, hD⟩ := va_join (wr := [(q1, .inl (k1, 18, .inl f1)), (q2, .inl (k2, 7200, .inl f2)), (q3, .inl (k3, 400, .inl f3)), (q4, .inl (k4, 400, .inl f4)), (q5, .inl (k5, 18, .inl f5)), (q6, .inl (k6, 4096, .inr (.inl f6))), (q7, .inl (k7, 6, .inr (.inl f7)))]) (w1 := [zO h u q1 (nI ts) (nI cn) q2 q3 q4 (nI lv) q5 (nI an) md q6 q7]) hP hD [0] [1, 2, 3, 4, 5, 6, 7] rfl rfl (by decide) (by decide) hk1 hFc hP1 hD1
    generalize H1 = H at hP hS ⊢
    have hP : va_P (dC, dI) vwCl [zO h u q1 (nI ts) (nI cn) q2 q3 q4 (nI lv) q5 (nI an) md q6 q7, (q1, .inl (k1, 18, .inl f1)), (q2, .inl (k2, 7200, .inl f2)), (q3, .inl (k3, 400, .inl f3)), (q4, .inl (k4, 400, .inl f4)), (q5, .inl (k5, 18, .inl f5)), (q6, .inl (k6, 4096, .inr (.inl f6))), (q7, .inl (k7, 6, .inr (.inl f7)))] H := hP.sub [7, 0, 1, 2, 3, 4, 5, 6] rfl
    have hD : va_D A [zO h u q1 (nI ts) (nI cn) q2 q3 q4 (nI lv) q5 (nI an) md q6 q7, (q1, .inl (k1, 18, .inl f1)), (q2, .inl (k2, 7200, .inl f2)), (q3, .inl (k3, 400, .inl f3)), (q4, .inl (k4, 400, .inl f4)), (q5, .inl (k5, 18, .inl f5)), (q6, .inl (k6, 4096, .inr (.inl f6))), (q7, .inl (k7, 6, .inr (.inl f7)))] := hD.sub [7, 0, 1, 2, 3, 4, 5, 6] (by decide) rfl
    obtain ⟨hu9, hr9⟩ : u = 0 ∧ rth = 0 := by
      rcases hw with h | h | h
      · exact absurd rfl h.1
      · exact absurd rfl h.2.1
      · exact h.2.2
    subst hu9
    subst hr9
    refine lv_if_eq (tgt := 22) hx hb dX1_close_17 (by decide) (fun cb_66 => ?_) (fun cb_66 => ?_)
    · refine lv_aload_n hx hb dX1_close_22 rfl (lv_at hl 0 rfl) ?_
      refine va_get (D := (dC, dI)) (ci := 1) (v := .int (nI cn)) (C := RX1) (T := TX1) (N := 13) hx hb htA inX1 hown hK hP 0 rfl rfl 3 (by decide) (htA _ lkX1_60) (fun _ h9 => h9) rfl dX1_close_23 ?_
      refine lv_istore_n (lv' := [(1, .int (nI cn)), (0, .ref h)]) hx hb dX1_close_26 rfl hl (by decide) rfl (fun ls hl => ?_)
      have loop : ∀ (fu c9 : Nat), c9 ≤ cn → c9 + 1 ≤ fu → (∀ i, c9 ≤ i → i < cn → f4 i = nI lv) → ∀ (H : Heap) (locs : List Loc), va_P (dC, dI) vwCl [zO h 0 q1 (nI ts) (nI c9) q2 q3 q4 (nI lv) q5 (nI an) md q6 q7, (q1, .inl (k1, 18, .inl f1)), (q2, .inl (k2, 7200, .inl f2)), (q3, .inl (k3, 400, .inl f3)), (q4, .inl (k4, 400, .inl f4)), (q5, .inl (k5, 18, .inl f5)), (q6, .inl (k6, 4096, .inr (.inl f6))), (q7, .inl (k7, 6, .inr (.inl f7)))] H → va_D A [zO h 0 q1 (nI ts) (nI c9) q2 q3 q4 (nI lv) q5 (nI an) md q6 q7, (q1, .inl (k1, 18, .inl f1)), (q2, .inl (k2, 7200, .inl f2)), (q3, .inl (k3, 400, .inl f3)), (q4, .inl (k4, 400, .inl f4)), (q5, .inl (k5, 18, .inl f5)), (q6, .inl (k6, 4096, .inr (.inl f6))), (q7, .inl (k7, 6, .inr (.inl f7)))] → va_S A s.heap H locs → ∀ (ls : Array Slot), lv_has ls 2 [(1, .int (nI cn)), (0, .ref h)] → W p l e (headSpec wsX1_close ({ frames := 3, cells := 0, slots := 0, locals := 120 })).room s m ([.ref h] : List Value).toArray below meth c H locs 0 0 (MQ below (va_Qi (fun (r : Int32) (u : Int32 × Nat × Nat × (Nat → Int64) × Int32) => (lv = 0 ∧ u = (1, cn, lv, f6, md)) ∨ (0 < lv ∧ ∃ c2 g6, c2 ≤ cn ∧ r = nI (cn - c2) ∧ u = (0, c2, lv - 1, g6, -1) ∧ (∀ i, c2 ≤ i → i < cn → f4 i = nI lv) ∧ (c2 = 0 ∨ ¬ f4 (c2 - 1) = nI lv) ∧ ∀ w, w < 4096 → zW (fun a => ∀ c, c < c2 → zC f2 c (zs c) a) w (g6 w))) (fun (u : Int32 × Nat × Nat × (Nat → Int64) × Int32) (t : State) => va_P (dC, dI) vwCl [zO h u.1 q1 (nI ts) (nI u.2.1) q2 q3 q4 (nI u.2.2.1) q5 (nI an) u.2.2.2.2 q6 q7, (q1, .inl (k1, 18, .inl f1)), (q2, .inl (k2, 7200, .inl f2)), (q3, .inl (k3, 400, .inl f3)), (q4, .inl (k4, 400, .inl f4)), (q5, .inl (k5, 18, .inl f5)), (q6, .inl (k6, 4096, .inr (.inl u.2.2.2.1))), (q7, .inl (k7, 6, .inr (.inl f7)))] t.heap ∧ va_K (dC, dI) vwCl [(k1, .int), (k2, .int), (k3, .int), (k4, .int), (k5, .int), (k6, .long), (k7, .long)] t ∧ va_D A [zO h u.1 q1 (nI ts) (nI u.2.1) q2 q3 q4 (nI u.2.2.1) q5 (nI an) u.2.2.2.2 q6 q7, (q1, .inl (k1, 18, .inl f1)), (q2, .inl (k2, 7200, .inl f2)), (q3, .inl (k3, 400, .inl f3)), (q4, .inl (k4, 400, .inl f4)), (q5, .inl (k5, 18, .inl f5)), (q6, .inl (k6, 4096, .inr (.inl u.2.2.2.1))), (q7, .inl (k7, 6, .inr (.inl f7)))]) A) ([.ref h] : List Value).toArray s 0 0 A) (F0 m 27 ls []) := by
        intro fu
        induction fu with
        | zero =>
          intro c9 h1 h2
          exact absurd h2 (by omega)
        | succ fu ih =>
          intro c9 hc9 hin hI H locs hP hD hS ls hl
          refine lv_aload_n hx hb dX1_close_27 rfl (lv_at hl 1 rfl) ?_
          refine va_get (D := (dC, dI)) (ci := 1) (v := .int (nI c9)) (C := RX1) (T := TX1) (N := 13) hx hb htA inX1 hown hK hP 0 rfl rfl 3 (by decide) (htA _ lkX1_60) (fun _ h9 => h9) rfl dX1_close_28 ?_
          refine lv_if_le (tgt := 65) hx hb dX1_close_31 (by decide) (fun cb_67 => ?_) (fun cb_67 => ?_)
          · have hz : c9 = 0 := by
              rcases Nat.eq_zero_or_pos c9 with q | q
              · exact q
              · exact absurd cb_67 (nI_nle q (by omega))
            refine lv_aload_n hx hb dX1_close_65 rfl (lv_at hl 1 rfl) ?_
            refine lv_dup hx hb dX1_close_66 rfl ?_
            refine va_get (D := (dC, dI)) (ci := 1) (v := .int (nI lv)) (C := RX1) (T := TX1) (N := 13) hx hb htA inX1 hown hK hP 0 rfl rfl 7 (by decide) (htA _ lkX1_84) (fun _ h9 => h9) rfl dX1_close_67 ?_
            refine lv_iconst (v := 1) hx hb dX1_close_70 (by decide) ?_
            refine lv_isub hx hb dX1_close_71 ?_
            refine W.eq (g2 := F0 m 72 ls [.int (nI (lv - 1)), .ref h]) (by rw [show nI lv - 1 = nI (lv - 1) from pk_sub h0]) ?_
            refine va_put (D := (dC, dI)) (ci := 1) (v := .int (nI (lv - 1))) (ty := .int) (C := RX1) (T := TX1) (N := 13) hx hb htA inX1 tyX1 tyX1_ok nX1 hown hK hP hD hS 0 rfl rfl 7 (by decide) (htA _ lkX1_84) (fun _ h9 => h9) rfl (by decide +kernel) rfl rfl (Nat.le_of_ble_eq_true rfl) dX1_close_72 (fun H locs hP hD hS => ?_)
            have hP : va_P (dC, dI) vwCl [zO h 0 q1 (nI ts) (nI c9) q2 q3 q4 (nI (lv - 1)) q5 (nI an) md q6 q7, (q1, .inl (k1, 18, .inl f1)), (q2, .inl (k2, 7200, .inl f2)), (q3, .inl (k3, 400, .inl f3)), (q4, .inl (k4, 400, .inl f4)), (q5, .inl (k5, 18, .inl f5)), (q6, .inl (k6, 4096, .inr (.inl f6))), (q7, .inl (k7, 6, .inr (.inl f7)))] H := hP
            have hD : va_D A [zO h 0 q1 (nI ts) (nI c9) q2 q3 q4 (nI (lv - 1)) q5 (nI an) md q6 q7, (q1, .inl (k1, 18, .inl f1)), (q2, .inl (k2, 7200, .inl f2)), (q3, .inl (k3, 400, .inl f3)), (q4, .inl (k4, 400, .inl f4)), (q5, .inl (k5, 18, .inl f5)), (q6, .inl (k6, 4096, .inr (.inl f6))), (q7, .inl (k7, 6, .inr (.inl f7)))] := hD
            refine lv_aload_n hx hb dX1_close_75 rfl (lv_at hl 1 rfl) ?_
            refine lv_iconst (v := (-1)) hx hb dX1_close_76 (by decide) ?_
            refine va_put (D := (dC, dI)) (ci := 1) (v := .int (-1)) (ty := .int) (C := RX1) (T := TX1) (N := 13) hx hb htA inX1 tyX1 tyX1_ok nX1 hown hK hP hD hS 0 rfl rfl 10 (by decide) (htA _ lkX1_25) (fun _ h9 => h9) rfl (by decide +kernel) rfl rfl (Nat.le_of_ble_eq_true rfl) dX1_close_77 (fun H locs hP hD hS => ?_)
            have hP : va_P (dC, dI) vwCl [zO h 0 q1 (nI ts) (nI c9) q2 q3 q4 (nI (lv - 1)) q5 (nI an) (-1) q6 q7, (q1, .inl (k1, 18, .inl f1)), (q2, .inl (k2, 7200, .inl f2)), (q3, .inl (k3, 400, .inl f3)), (q4, .inl (k4, 400, .inl f4)), (q5, .inl (k5, 18, .inl f5)), (q6, .inl (k6, 4096, .inr (.inl f6))), (q7, .inl (k7, 6, .inr (.inl f7)))] H := hP
            have hD : va_D A [zO h 0 q1 (nI ts) (nI c9) q2 q3 q4 (nI (lv - 1)) q5 (nI an) (-1) q6 q7, (q1, .inl (k1, 18, .inl f1)), (q2, .inl (k2, 7200, .inl f2)), (q3, .inl (k3, 400, .inl f3)), (q4, .inl (k4, 400, .inl f4)), (q5, .inl (k5, 18, .inl f5)), (q6, .inl (k6, 4096, .inr (.inl f6))), (q7, .inl (k7, 6, .inr (.inl f7)))] := hD
            refine lv_aload_n hx hb dX1_close_80 rfl (lv_at hl 1 rfl) ?_
            refine va_get (D := (dC, dI)) (ci := 1) (v := .int (nI c9)) (C := RX1) (T := TX1) (N := 13) hx hb htA inX1 hown hK hP 0 rfl rfl 3 (by decide) (htA _ lkX1_60) (fun _ h9 => h9) rfl dX1_close_81 ?_
            refine lv_iload_n hx hb dX1_close_84 rfl (lv_at hl 0 rfl) ?_
            refine lv_icmp_ge (tgt := 92) hx hb dX1_close_85 (by decide) (fun cb_68 => ?_) (fun cb_68 => ?_)
            · have he : c9 = cn := by
                rcases Nat.lt_or_ge c9 cn with q | q
                · exact absurd cb_68 (nI_ge q (by omega))
                · omega
              refine lv_iload_n hx hb dX1_close_92 rfl (lv_at hl 0 rfl) ?_
              refine lv_aload_n hx hb dX1_close_93 rfl (lv_at hl 1 rfl) ?_
              refine va_get (D := (dC, dI)) (ci := 1) (v := .int (nI c9)) (C := RX1) (T := TX1) (N := 13) hx hb htA inX1 hown hK hP 0 rfl rfl 3 (by decide) (htA _ lkX1_60) (fun _ h9 => h9) rfl dX1_close_94 ?_
              refine lv_isub hx hb dX1_close_97 ?_
              refine W.eq (g2 := F0 m 98 ls [.int (nI (cn - c9))]) (by rw [show nI cn - nI c9 = nI (cn - c9) from pk_sub hc9]) ?_
              exact W.iret (v := nI (cn - c9)) hx hb hr (fun t ht hW => ⟨⟨nI (cn - c9), (0, c9, lv - 1, f6, -1), rfl, Or.inr ⟨h0, c9, f6, hc9, rfl, rfl, hI, Or.inl hz, by rw [he]; exact hG⟩, by rw [ht]; exact hP, va_K.moved hW.alike hK, hD⟩, hS.F ht⟩) hS.2.2 dX1_close_98
            · refine lv_aload_n hx hb dX1_close_88 rfl (lv_at hl 1 rfl) ?_
              have hPc := hP.sub (ws' := [zO h 0 q1 (nI ts) (nI c9) q2 q3 q4 (nI (lv - 1)) q5 (nI an) (-1) q6 q7, (q2, .inl (k2, 7200, .inl f2)), (q3, .inl (k3, 400, .inl f3)), (q6, .inl (k6, 4096, .inr (.inl f6))), (q7, .inl (k7, 6, .inr (.inl f7)))]) [0, 2, 3, 6, 7] rfl
              have hDc := hD.sub (ws' := [zO h 0 q1 (nI ts) (nI c9) q2 q3 q4 (nI (lv - 1)) q5 (nI an) (-1) q6 q7, (q2, .inl (k2, 7200, .inl f2)), (q3, .inl (k3, 400, .inl f3)), (q6, .inl (k6, 4096, .inr (.inl f6))), (q7, .inl (k7, 6, .inr (.inl f7)))]) [0, 2, 3, 6, 7] (by decide) rfl
              have hKc := hK.sub (tys' := [(k2, .int), (k3, .int), (k6, .long), (k7, .long)]) [1, 2, 5, 6] rfl
              have hFc := va_free (wc := [zO h 0 q1 (nI ts) (nI c9) q2 q3 q4 (nI (lv - 1)) q5 (nI an) (-1) q6 q7, (q2, .inl (k2, 7200, .inl f2)), (q3, .inl (k3, 400, .inl f3)), (q6, .inl (k6, 4096, .inr (.inl f6))), (q7, .inl (k7, 6, .inr (.inl f7)))]) hD hS hA [0, 2, 3, 6, 7] rfl
              refine va_callv (va_runV (As := []) (rest := []) ⟨hx, hb, hml, hown, htA⟩ (r_renew l dC dI h q1 q2 q3 q4 q5 q6 q7 k2 k3 k6 k7 f2 f3 f6 f7 0 (nI ts) c9 (nI (lv - 1)) (nI an) (-1) zs H.size (by omega) (fun c hc => hsz c (by omega)) (fun c hc => hlit c (by omega)) h7) (cwV 0 htA gX1_48 rfl rfl rfl (by decide +kernel) ⟨Nat.le_of_ble_eq_true rfl, Nat.le_of_ble_eq_true rfl⟩) ⟨fun a U g mk q => by obtain ⟨q0, q1, qP, qK, qD⟩ := q; exact ⟨q0, q1, qP, va_K.moved (u := U) (U := U.calling g mk a) (Vm.Alike.refl U.vm) qK, qD⟩, va_recv hKc hPc (ci := 1) (q0 := 0) rfl rfl, fun U hU hW => ⟨rfl, by rw [hU], by rw [hU]; exact hPc, va_K.moved hW.alike hKc, hDc.weaken (fun _ _ _ _ => trivial)⟩⟩ rfl rfl hl.1 rfl (lv_room (Nat.le_of_ble_eq_true rfl)) dX1_close_89 ⟨Nat.zero_le _, Nat.zero_le _⟩) hS (fun q _ h => hFc q h) hFc (fun u t H1 locs ht hvm hw hB hz1 hk1 hS => ?_)
              obtain ⟨hP1, hK1, hD1⟩ := hB
              rw [ht] at hP1
              try dsimp only at hw hP1 hD1
              obtain ⟨hP, hD⟩ := va_join (wr := [(q1, .inl (k1, 18, .inl f1)), (q4, .inl (k4, 400, .inl f4)), (q5, .inl (k5, 18, .inl f5))]) (w1 := [zO h 0 q1 (nI ts) (nI c9) q2 q3 q4 (nI (lv - 1)) q5 (nI an) (-1) q6 q7, (q2, .inl (k2, 7200, .inl f2)), (q3, .inl (k3, 400, .inl f3)), (q6, .inl (k6, 4096, .inr (.inl u))), (q7, .inl (k7, 6, .inr (.inl f7)))]) hP hD [0, 2, 3, 6, 7] [1, 4, 5] rfl rfl (by decide) (by decide) hk1 hFc hP1 hD1
              generalize H1 = H at hP hS ⊢
              have hP : va_P (dC, dI) vwCl [zO h 0 q1 (nI ts) (nI c9) q2 q3 q4 (nI (lv - 1)) q5 (nI an) (-1) q6 q7, (q1, .inl (k1, 18, .inl f1)), (q2, .inl (k2, 7200, .inl f2)), (q3, .inl (k3, 400, .inl f3)), (q4, .inl (k4, 400, .inl f4)), (q5, .inl (k5, 18, .inl f5)), (q6, .inl (k6, 4096, .inr (.inl u))), (q7, .inl (k7, 6, .inr (.inl f7)))] H := hP.sub [3, 0, 4, 5, 1, 2, 6, 7] rfl
              have hD : va_D A [zO h 0 q1 (nI ts) (nI c9) q2 q3 q4 (nI (lv - 1)) q5 (nI an) (-1) q6 q7, (q1, .inl (k1, 18, .inl f1)), (q2, .inl (k2, 7200, .inl f2)), (q3, .inl (k3, 400, .inl f3)), (q4, .inl (k4, 400, .inl f4)), (q5, .inl (k5, 18, .inl f5)), (q6, .inl (k6, 4096, .inr (.inl u))), (q7, .inl (k7, 6, .inr (.inl f7)))] := hD.sub [3, 0, 4, 5, 1, 2, 6, 7] (by decide) rfl
              refine lv_iload_n hx hb dX1_close_92 rfl (lv_at hl 0 rfl) ?_
              refine lv_aload_n hx hb dX1_close_93 rfl (lv_at hl 1 rfl) ?_
              refine va_get (D := (dC, dI)) (ci := 1) (v := .int (nI c9)) (C := RX1) (T := TX1) (N := 13) hx hb htA inX1 hown hK hP 0 rfl rfl 3 (by decide) (htA _ lkX1_60) (fun _ h9 => h9) rfl dX1_close_94 ?_
              refine lv_isub hx hb dX1_close_97 ?_
              refine W.eq (g2 := F0 m 98 ls [.int (nI (cn - c9))]) (by rw [show nI cn - nI c9 = nI (cn - c9) from pk_sub hc9]) ?_
              exact W.iret (v := nI (cn - c9)) hx hb hr (fun t ht hW => ⟨⟨nI (cn - c9), (0, c9, lv - 1, u, -1), rfl, Or.inr ⟨h0, c9, u, hc9, rfl, rfl, hI, Or.inl hz, hw⟩, by rw [ht]; exact hP, va_K.moved hW.alike hK, hD⟩, hS.F ht⟩) hS.2.2 dX1_close_98
          · have hz : 0 < c9 := by
              rcases Nat.eq_zero_or_pos c9 with q | q
              · exact absurd (by rw [q, nI_0]; decide) cb_67
              · exact q
            have h4 : c9 - 1 < 400 := by omega
            refine lv_aload_n hx hb dX1_close_34 rfl (lv_at hl 1 rfl) ?_
            refine va_get (D := (dC, dI)) (ci := 1) (v := .ref q4) (C := RX1) (T := TX1) (N := 13) hx hb htA inX1 hown hK hP 0 rfl rfl 6 (by decide) (htA _ lkX1_19) (fun _ h9 => h9) rfl dX1_close_35 ?_
            refine lv_aload_n hx hb dX1_close_38 rfl (lv_at hl 1 rfl) ?_
            refine va_get (D := (dC, dI)) (ci := 1) (v := .int (nI c9)) (C := RX1) (T := TX1) (N := 13) hx hb htA inX1 hown hK hP 0 rfl rfl 3 (by decide) (htA _ lkX1_60) (fun _ h9 => h9) rfl dX1_close_39 ?_
            refine lv_iconst (v := 1) hx hb dX1_close_42 (by decide) ?_
            refine lv_isub hx hb dX1_close_43 ?_
            refine W.eq (g2 := F0 m 44 ls [.int (nI (c9 - 1)), .ref q4]) (by rw [show nI c9 - 1 = nI (c9 - 1) from pk_sub hz]) ?_
            refine yv_iald hx hb hK hP 4 3 rfl rfl (k := (c9 - 1)) h4 (by decide) dX1_close_44 ?_
            refine lv_aload_n hx hb dX1_close_45 rfl (lv_at hl 1 rfl) ?_
            refine va_get (D := (dC, dI)) (ci := 1) (v := .int (nI lv)) (C := RX1) (T := TX1) (N := 13) hx hb htA inX1 hown hK hP 0 rfl rfl 7 (by decide) (htA _ lkX1_84) (fun _ h9 => h9) rfl dX1_close_46 ?_
            refine lv_icmp_ne (tgt := 65) hx hb dX1_close_49 (by decide) (fun cb_70 => ?_) (fun cb_70 => ?_)
            · refine lv_aload_n hx hb dX1_close_65 rfl (lv_at hl 1 rfl) ?_
              refine lv_dup hx hb dX1_close_66 rfl ?_
              refine va_get (D := (dC, dI)) (ci := 1) (v := .int (nI lv)) (C := RX1) (T := TX1) (N := 13) hx hb htA inX1 hown hK hP 0 rfl rfl 7 (by decide) (htA _ lkX1_84) (fun _ h9 => h9) rfl dX1_close_67 ?_
              refine lv_iconst (v := 1) hx hb dX1_close_70 (by decide) ?_
              refine lv_isub hx hb dX1_close_71 ?_
              refine W.eq (g2 := F0 m 72 ls [.int (nI (lv - 1)), .ref h]) (by rw [show nI lv - 1 = nI (lv - 1) from pk_sub h0]) ?_
              refine va_put (D := (dC, dI)) (ci := 1) (v := .int (nI (lv - 1))) (ty := .int) (C := RX1) (T := TX1) (N := 13) hx hb htA inX1 tyX1 tyX1_ok nX1 hown hK hP hD hS 0 rfl rfl 7 (by decide) (htA _ lkX1_84) (fun _ h9 => h9) rfl (by decide +kernel) rfl rfl (Nat.le_of_ble_eq_true rfl) dX1_close_72 (fun H locs hP hD hS => ?_)
              have hP : va_P (dC, dI) vwCl [zO h 0 q1 (nI ts) (nI c9) q2 q3 q4 (nI (lv - 1)) q5 (nI an) md q6 q7, (q1, .inl (k1, 18, .inl f1)), (q2, .inl (k2, 7200, .inl f2)), (q3, .inl (k3, 400, .inl f3)), (q4, .inl (k4, 400, .inl f4)), (q5, .inl (k5, 18, .inl f5)), (q6, .inl (k6, 4096, .inr (.inl f6))), (q7, .inl (k7, 6, .inr (.inl f7)))] H := hP
              have hD : va_D A [zO h 0 q1 (nI ts) (nI c9) q2 q3 q4 (nI (lv - 1)) q5 (nI an) md q6 q7, (q1, .inl (k1, 18, .inl f1)), (q2, .inl (k2, 7200, .inl f2)), (q3, .inl (k3, 400, .inl f3)), (q4, .inl (k4, 400, .inl f4)), (q5, .inl (k5, 18, .inl f5)), (q6, .inl (k6, 4096, .inr (.inl f6))), (q7, .inl (k7, 6, .inr (.inl f7)))] := hD
              refine lv_aload_n hx hb dX1_close_75 rfl (lv_at hl 1 rfl) ?_
              refine lv_iconst (v := (-1)) hx hb dX1_close_76 (by decide) ?_
              refine va_put (D := (dC, dI)) (ci := 1) (v := .int (-1)) (ty := .int) (C := RX1) (T := TX1) (N := 13) hx hb htA inX1 tyX1 tyX1_ok nX1 hown hK hP hD hS 0 rfl rfl 10 (by decide) (htA _ lkX1_25) (fun _ h9 => h9) rfl (by decide +kernel) rfl rfl (Nat.le_of_ble_eq_true rfl) dX1_close_77 (fun H locs hP hD hS => ?_)
              have hP : va_P (dC, dI) vwCl [zO h 0 q1 (nI ts) (nI c9) q2 q3 q4 (nI (lv - 1)) q5 (nI an) (-1) q6 q7, (q1, .inl (k1, 18, .inl f1)), (q2, .inl (k2, 7200, .inl f2)), (q3, .inl (k3, 400, .inl f3)), (q4, .inl (k4, 400, .inl f4)), (q5, .inl (k5, 18, .inl f5)), (q6, .inl (k6, 4096, .inr (.inl f6))), (q7, .inl (k7, 6, .inr (.inl f7)))] H := hP
              have hD : va_D A [zO h 0 q1 (nI ts) (nI c9) q2 q3 q4 (nI (lv - 1)) q5 (nI an) (-1) q6 q7, (q1, .inl (k1, 18, .inl f1)), (q2, .inl (k2, 7200, .inl f2)), (q3, .inl (k3, 400, .inl f3)), (q4, .inl (k4, 400, .inl f4)), (q5, .inl (k5, 18, .inl f5)), (q6, .inl (k6, 4096, .inr (.inl f6))), (q7, .inl (k7, 6, .inr (.inl f7)))] := hD
              refine lv_aload_n hx hb dX1_close_80 rfl (lv_at hl 1 rfl) ?_
              refine va_get (D := (dC, dI)) (ci := 1) (v := .int (nI c9)) (C := RX1) (T := TX1) (N := 13) hx hb htA inX1 hown hK hP 0 rfl rfl 3 (by decide) (htA _ lkX1_60) (fun _ h9 => h9) rfl dX1_close_81 ?_
              refine lv_iload_n hx hb dX1_close_84 rfl (lv_at hl 0 rfl) ?_
              refine lv_icmp_ge (tgt := 92) hx hb dX1_close_85 (by decide) (fun cb_71 => ?_) (fun cb_71 => ?_)
              · have he : c9 = cn := by
                  rcases Nat.lt_or_ge c9 cn with q | q
                  · exact absurd cb_71 (nI_ge q (by omega))
                  · omega
                refine lv_iload_n hx hb dX1_close_92 rfl (lv_at hl 0 rfl) ?_
                refine lv_aload_n hx hb dX1_close_93 rfl (lv_at hl 1 rfl) ?_
                refine va_get (D := (dC, dI)) (ci := 1) (v := .int (nI c9)) (C := RX1) (T := TX1) (N := 13) hx hb htA inX1 hown hK hP 0 rfl rfl 3 (by decide) (htA _ lkX1_60) (fun _ h9 => h9) rfl dX1_close_94 ?_
                refine lv_isub hx hb dX1_close_97 ?_
                refine W.eq (g2 := F0 m 98 ls [.int (nI (cn - c9))]) (by rw [show nI cn - nI c9 = nI (cn - c9) from pk_sub hc9]) ?_
                exact W.iret (v := nI (cn - c9)) hx hb hr (fun t ht hW => ⟨⟨nI (cn - c9), (0, c9, lv - 1, f6, -1), rfl, Or.inr ⟨h0, c9, f6, hc9, rfl, rfl, hI, Or.inr cb_70, by rw [he]; exact hG⟩, by rw [ht]; exact hP, va_K.moved hW.alike hK, hD⟩, hS.F ht⟩) hS.2.2 dX1_close_98
              · refine lv_aload_n hx hb dX1_close_88 rfl (lv_at hl 1 rfl) ?_
                have hPc := hP.sub (ws' := [zO h 0 q1 (nI ts) (nI c9) q2 q3 q4 (nI (lv - 1)) q5 (nI an) (-1) q6 q7, (q2, .inl (k2, 7200, .inl f2)), (q3, .inl (k3, 400, .inl f3)), (q6, .inl (k6, 4096, .inr (.inl f6))), (q7, .inl (k7, 6, .inr (.inl f7)))]) [0, 2, 3, 6, 7] rfl
                have hDc := hD.sub (ws' := [zO h 0 q1 (nI ts) (nI c9) q2 q3 q4 (nI (lv - 1)) q5 (nI an) (-1) q6 q7, (q2, .inl (k2, 7200, .inl f2)), (q3, .inl (k3, 400, .inl f3)), (q6, .inl (k6, 4096, .inr (.inl f6))), (q7, .inl (k7, 6, .inr (.inl f7)))]) [0, 2, 3, 6, 7] (by decide) rfl
                have hKc := hK.sub (tys' := [(k2, .int), (k3, .int), (k6, .long), (k7, .long)]) [1, 2, 5, 6] rfl
                have hFc := va_free (wc := [zO h 0 q1 (nI ts) (nI c9) q2 q3 q4 (nI (lv - 1)) q5 (nI an) (-1) q6 q7, (q2, .inl (k2, 7200, .inl f2)), (q3, .inl (k3, 400, .inl f3)), (q6, .inl (k6, 4096, .inr (.inl f6))), (q7, .inl (k7, 6, .inr (.inl f7)))]) hD hS hA [0, 2, 3, 6, 7] rfl
                refine va_callv (va_runV (As := []) (rest := []) ⟨hx, hb, hml, hown, htA⟩ (r_renew l dC dI h q1 q2 q3 q4 q5 q6 q7 k2 k3 k6 k7 f2 f3 f6 f7 0 (nI ts) c9 (nI (lv - 1)) (nI an) (-1) zs H.size (by omega) (fun c hc => hsz c (by omega)) (fun c hc => hlit c (by omega)) h7) (cwV 0 htA gX1_48 rfl rfl rfl (by decide +kernel) ⟨Nat.le_of_ble_eq_true rfl, Nat.le_of_ble_eq_true rfl⟩) ⟨fun a U g mk q => by obtain ⟨q0, q1, qP, qK, qD⟩ := q; exact ⟨q0, q1, qP, va_K.moved (u := U) (U := U.calling g mk a) (Vm.Alike.refl U.vm) qK, qD⟩, va_recv hKc hPc (ci := 1) (q0 := 0) rfl rfl, fun U hU hW => ⟨rfl, by rw [hU], by rw [hU]; exact hPc, va_K.moved hW.alike hKc, hDc.weaken (fun _ _ _ _ => trivial)⟩⟩ rfl rfl hl.1 rfl (lv_room (Nat.le_of_ble_eq_true rfl)) dX1_close_89 ⟨Nat.zero_le _, Nat.zero_le _⟩) hS (fun q _ h => hFc q h) hFc (fun u t H1 locs ht hvm hw hB hz1 hk1 hS => ?_)
                obtain ⟨hP1, hK1, hD1⟩ := hB
                rw [ht] at hP1
                try dsimp only at hw hP1 hD1
                obtain ⟨hP, hD⟩ := va_join (wr := [(q1, .inl (k1, 18, .inl f1)), (q4, .inl (k4, 400, .inl f4)), (q5, .inl (k5, 18, .inl f5))]) (w1 := [zO h 0 q1 (nI ts) (nI c9) q2 q3 q4 (nI (lv - 1)) q5 (nI an) (-1) q6 q7, (q2, .inl (k2, 7200, .inl f2)), (q3, .inl (k3, 400, .inl f3)), (q6, .inl (k6, 4096, .inr (.inl u))), (q7, .inl (k7, 6, .inr (.inl f7)))]) hP hD [0, 2, 3, 6, 7] [1, 4, 5] rfl rfl (by decide) (by decide) hk1 hFc hP1 hD1
                generalize H1 = H at hP hS ⊢
                have hP : va_P (dC, dI) vwCl [zO h 0 q1 (nI ts) (nI c9) q2 q3 q4 (nI (lv - 1)) q5 (nI an) (-1) q6 q7, (q1, .inl (k1, 18, .inl f1)), (q2, .inl (k2, 7200, .inl f2)), (q3, .inl (k3, 400, .inl f3)), (q4, .inl (k4, 400, .inl f4)), (q5, .inl (k5, 18, .inl f5)), (q6, .inl (k6, 4096, .inr (.inl u))), (q7, .inl (k7, 6, .inr (.inl f7)))] H := hP.sub [3, 0, 4, 5, 1, 2, 6, 7] rfl
                have hD : va_D A [zO h 0 q1 (nI ts) (nI c9) q2 q3 q4 (nI (lv - 1)) q5 (nI an) (-1) q6 q7, (q1, .inl (k1, 18, .inl f1)), (q2, .inl (k2, 7200, .inl f2)), (q3, .inl (k3, 400, .inl f3)), (q4, .inl (k4, 400, .inl f4)), (q5, .inl (k5, 18, .inl f5)), (q6, .inl (k6, 4096, .inr (.inl u))), (q7, .inl (k7, 6, .inr (.inl f7)))] := hD.sub [3, 0, 4, 5, 1, 2, 6, 7] (by decide) rfl
                refine lv_iload_n hx hb dX1_close_92 rfl (lv_at hl 0 rfl) ?_
                refine lv_aload_n hx hb dX1_close_93 rfl (lv_at hl 1 rfl) ?_
                refine va_get (D := (dC, dI)) (ci := 1) (v := .int (nI c9)) (C := RX1) (T := TX1) (N := 13) hx hb htA inX1 hown hK hP 0 rfl rfl 3 (by decide) (htA _ lkX1_60) (fun _ h9 => h9) rfl dX1_close_94 ?_
                refine lv_isub hx hb dX1_close_97 ?_
                refine W.eq (g2 := F0 m 98 ls [.int (nI (cn - c9))]) (by rw [show nI cn - nI c9 = nI (cn - c9) from pk_sub hc9]) ?_
                exact W.iret (v := nI (cn - c9)) hx hb hr (fun t ht hW => ⟨⟨nI (cn - c9), (0, c9, lv - 1, u, -1), rfl, Or.inr ⟨h0, c9, u, hc9, rfl, rfl, hI, Or.inr cb_70, hw⟩, by rw [ht]; exact hP, va_K.moved hW.alike hK, hD⟩, hS.F ht⟩) hS.2.2 dX1_close_98
            · refine lv_aload_n hx hb dX1_close_52 rfl (lv_at hl 1 rfl) ?_
              refine lv_dup hx hb dX1_close_53 rfl ?_
              refine va_get (D := (dC, dI)) (ci := 1) (v := .int (nI c9)) (C := RX1) (T := TX1) (N := 13) hx hb htA inX1 hown hK hP 0 rfl rfl 3 (by decide) (htA _ lkX1_60) (fun _ h9 => h9) rfl dX1_close_54 ?_
              refine lv_iconst (v := 1) hx hb dX1_close_57 (by decide) ?_
              refine lv_isub hx hb dX1_close_58 ?_
              refine W.eq (g2 := F0 m 59 ls [.int (nI (c9 - 1)), .ref h]) (by rw [show nI c9 - 1 = nI (c9 - 1) from pk_sub hz]) ?_
              refine va_put (D := (dC, dI)) (ci := 1) (v := .int (nI (c9 - 1))) (ty := .int) (C := RX1) (T := TX1) (N := 13) hx hb htA inX1 tyX1 tyX1_ok nX1 hown hK hP hD hS 0 rfl rfl 3 (by decide) (htA _ lkX1_60) (fun _ h9 => h9) rfl (by decide +kernel) rfl rfl (Nat.le_of_ble_eq_true rfl) dX1_close_59 (fun H locs hP hD hS => ?_)
              have hP : va_P (dC, dI) vwCl [zO h 0 q1 (nI ts) (nI (c9 - 1)) q2 q3 q4 (nI lv) q5 (nI an) md q6 q7, (q1, .inl (k1, 18, .inl f1)), (q2, .inl (k2, 7200, .inl f2)), (q3, .inl (k3, 400, .inl f3)), (q4, .inl (k4, 400, .inl f4)), (q5, .inl (k5, 18, .inl f5)), (q6, .inl (k6, 4096, .inr (.inl f6))), (q7, .inl (k7, 6, .inr (.inl f7)))] H := hP
              have hD : va_D A [zO h 0 q1 (nI ts) (nI (c9 - 1)) q2 q3 q4 (nI lv) q5 (nI an) md q6 q7, (q1, .inl (k1, 18, .inl f1)), (q2, .inl (k2, 7200, .inl f2)), (q3, .inl (k3, 400, .inl f3)), (q4, .inl (k4, 400, .inl f4)), (q5, .inl (k5, 18, .inl f5)), (q6, .inl (k6, 4096, .inr (.inl f6))), (q7, .inl (k7, 6, .inr (.inl f7)))] := hD
              refine lv_goto (tgt := 27) hx hb dX1_close_62 (by decide) ?_
              refine ih (c9 - 1) (by omega) (by omega) (fun i h1 h2 => ?_) _ _ hP hD hS ls (lv_sub hl [0, 1] rfl)
              by_cases e : i = c9 - 1
              · rw [e]; exact cb_70
              · exact hI i (by omega) h2
      exact loop (cn + 1) cn (Nat.le_refl _) (Nat.le_refl _) (fun i h1 h2 => absurd h2 (by omega)) _ _ hP hD hS ls (lv_sub hl [0, 1] rfl)
    · exact absurd rfl cb_66
  · have h0 : lv = 0 := by
      rcases Nat.eq_zero_or_pos lv with q | q
      · exact q
      · exact absurd cb_64 (nI_ne0 q (by omega))
    refine lv_iconst (v := 1) hx hb dX1_close_8 (by decide) ?_
    refine lv_goto (tgt := 13) hx hb dX1_close_9 (by decide) ?_
    refine lv_iconst (v := 0) hx hb dX1_close_13 (by decide) ?_
    have hPc := hP.sub (ws' := [zO h th q1 (nI ts) (nI cn) q2 q3 q4 (nI lv) q5 (nI an) md q6 q7]) [0] rfl
    have hDc := hD.sub (ws' := [zO h th q1 (nI ts) (nI cn) q2 q3 q4 (nI lv) q5 (nI an) md q6 q7]) [0] (by decide) rfl
    have hKc := hK.sub (tys' := []) [] rfl
    have hFc := va_free (wc := [zO h th q1 (nI ts) (nI cn) q2 q3 q4 (nI lv) q5 (nI an) md q6 q7]) hD hS hA [0] rfl
    refine va_calli (va_runV (As := [.int 1, .int 0]) (rest := []) ⟨hx, hb, hml, hown, htA⟩ (r_throwing l dC dI h q1 q2 q3 q4 q5 q6 q7   th (nI ts) (nI cn) (nI lv) (nI an) md 1 0 s.heap.size) (cwV 2 htA gX1_80 rfl rfl rfl (by decide +kernel) ⟨Nat.le_of_ble_eq_true rfl, Nat.le_of_ble_eq_true rfl⟩) ⟨fun a U g mk q => by obtain ⟨q0, q1, qP, qK, qD⟩ := q; exact ⟨q0, q1, qP, va_K.moved (u := U) (U := U.calling g mk a) (Vm.Alike.refl U.vm) qK, qD⟩, va_recv hKc hPc (ci := 1) (q0 := 0) rfl rfl, fun U hU hW => ⟨rfl, by rw [hU], by rw [hU]; exact hPc, va_K.moved hW.alike hKc, hDc.weaken (fun _ _ _ _ => trivial)⟩⟩ rfl rfl hl.1 rfl (lv_room (Nat.le_of_ble_eq_true rfl)) dX1_close_14 ⟨Nat.zero_le _, Nat.zero_le _⟩) hS (fun q _ h => hFc q h) hFc (fun rth u t H1 locs ht hvm hw hB hz1 hk1 hS => ?_)
    obtain ⟨hP1, hK1, hD1⟩ := hB
    rw [ht] at hP1
    try dsimp only at hw hP1 hD1
    obtain ⟨hP, hD⟩ := va_join (wr := [(q1, .inl (k1, 18, .inl f1)), (q2, .inl (k2, 7200, .inl f2)), (q3, .inl (k3, 400, .inl f3)), (q4, .inl (k4, 400, .inl f4)), (q5, .inl (k5, 18, .inl f5)), (q6, .inl (k6, 4096, .inr (.inl f6))), (q7, .inl (k7, 6, .inr (.inl f7)))]) (w1 := [zO h u q1 (nI ts) (nI cn) q2 q3 q4 (nI lv) q5 (nI an) md q6 q7]) hP hD [0] [1, 2, 3, 4, 5, 6, 7] rfl rfl (by decide) (by decide) hk1 hFc hP1 hD1
    generalize H1 = H at hP hS ⊢
    have hP : va_P (dC, dI) vwCl [zO h u q1 (nI ts) (nI cn) q2 q3 q4 (nI lv) q5 (nI an) md q6 q7, (q1, .inl (k1, 18, .inl f1)), (q2, .inl (k2, 7200, .inl f2)), (q3, .inl (k3, 400, .inl f3)), (q4, .inl (k4, 400, .inl f4)), (q5, .inl (k5, 18, .inl f5)), (q6, .inl (k6, 4096, .inr (.inl f6))), (q7, .inl (k7, 6, .inr (.inl f7)))] H := hP.sub [7, 0, 1, 2, 3, 4, 5, 6] rfl
    have hD : va_D A [zO h u q1 (nI ts) (nI cn) q2 q3 q4 (nI lv) q5 (nI an) md q6 q7, (q1, .inl (k1, 18, .inl f1)), (q2, .inl (k2, 7200, .inl f2)), (q3, .inl (k3, 400, .inl f3)), (q4, .inl (k4, 400, .inl f4)), (q5, .inl (k5, 18, .inl f5)), (q6, .inl (k6, 4096, .inr (.inl f6))), (q7, .inl (k7, 6, .inr (.inl f7)))] := hD.sub [7, 0, 1, 2, 3, 4, 5, 6] (by decide) rfl
    obtain ⟨hu9, hr9⟩ : u = 1 ∧ rth = 1 := by
      rcases hw with h | h | h
      · exact h.2
      · exact absurd h.1 (by decide)
      · exact absurd h.1 (by decide)
    subst hu9
    subst hr9
    refine lv_if_eq (tgt := 22) hx hb dX1_close_17 (by decide) (fun cb_65 => ?_) (fun cb_65 => ?_)
    · exact absurd cb_65 (by decide)
    · refine lv_iconst (v := 0) hx hb dX1_close_20 (by decide) ?_
      exact W.iret (v := 0) hx hb hr (fun t ht hW => ⟨⟨0, (1, cn, lv, f6, md), rfl, Or.inl ⟨h0, rfl⟩, by rw [ht]; exact hP, va_K.moved hW.alike hK, hD⟩, hS.F ht⟩) hS.2.2 dX1_close_21
