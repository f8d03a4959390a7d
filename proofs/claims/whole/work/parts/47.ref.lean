set_option maxHeartbeats 4000000 in
set_option maxRecDepth 100000 in
theorem r_forced (l : Launch) (dC : Nat → ClassId) (dI : Nat → Nat → Nat) (h : Nat) (q1 : Nat) (q2 : Nat) (q3 : Nat) (q4 : Nat) (q5 : Nat) (q6 : Nat) (q7 : Nat) (k1 : ClassId) (k2 : ClassId) (k3 : ClassId) (k4 : ClassId) (k5 : ClassId) (k6 : ClassId) (k7 : ClassId) (f1 : Nat → Int32) (f2 : Nat → Int32) (f3 : Nat → Int32) (f4 : Nat → Int32) (f5 : Nat → Int32) (f6 : Nat → Int64) (f7 : Nat → Int64) (th : Int32) (ts : Nat) (cn : Nat) (lv : Nat) (an : Nat) (md : Int32) (p0 : Int32) (sz : Nat) (han : an ≤ 18) (hlit : ∀ j, j < an → yLit (f5 j)) (h7 : zIn f7) : Met l yX1_forced wsX1_forced ({ frames := 3, cells := 0, slots := 0, locals := 120 }) (va_Pc [.ref h, .int p0] (fun U => U.heap.size = sz ∧ va_P (dC, dI) vwCl [zO h th q1 (nI ts) (nI cn) q2 q3 q4 (nI lv) q5 (nI an) md q6 q7, (q1, .inl (k1, 18, .inl f1)), (q2, .inl (k2, 7200, .inl f2)), (q3, .inl (k3, 400, .inl f3)), (q4, .inl (k4, 400, .inl f4)), (q5, .inl (k5, 18, .inl f5)), (q6, .inl (k6, 4096, .inr (.inl f6))), (q7, .inl (k7, 6, .inr (.inl f7)))] U.heap ∧ va_K (dC, dI) vwCl [(k1, .int), (k2, .int), (k3, .int), (k4, .int), (k5, .int), (k6, .long), (k7, .long)] U ∧ va_D (fun _ => True) [zO h th q1 (nI ts) (nI cn) q2 q3 q4 (nI lv) q5 (nI an) md q6 q7, (q1, .inl (k1, 18, .inl f1)), (q2, .inl (k2, 7200, .inl f2)), (q3, .inl (k3, 400, .inl f3)), (q4, .inl (k4, 400, .inl f4)), (q5, .inl (k5, 18, .inl f5)), (q6, .inl (k6, 4096, .inr (.inl f6))), (q7, .inl (k7, 6, .inr (.inl f7)))])) (va_Qi (fun (r : Int32) (u : Int32) => (¬ yLit p0 ∧ u = 1) ∨ (yLit p0 ∧ u = 0 ∧ ((r = 1 ∧ (∀ a, a < 262144 → zP f5 f6 an (-1) a → yT p0 a)) ∨ (r = 0 ∧ ¬ (∀ a, a < 262144 → zP f5 f6 an (-1) a → yT p0 a))))) (fun (u : Int32) (t : State) => va_P (dC, dI) vwCl [zO h u q1 (nI ts) (nI cn) q2 q3 q4 (nI lv) q5 (nI an) md q6 q7, (q1, .inl (k1, 18, .inl f1)), (q2, .inl (k2, 7200, .inl f2)), (q3, .inl (k3, 400, .inl f3)), (q4, .inl (k4, 400, .inl f4)), (q5, .inl (k5, 18, .inl f5)), (q6, .inl (k6, 4096, .inr (.inl f6))), (q7, .inl (k7, 6, .inr (.inl f7)))] t.heap ∧ va_K (dC, dI) vwCl [(k1, .int), (k2, .int), (k3, .int), (k4, .int), (k5, .int), (k6, .long), (k7, .long)] t ∧ va_D (va_A [zO h th q1 (nI ts) (nI cn) q2 q3 q4 (nI lv) q5 (nI an) md q6 q7, (q1, .inl (k1, 18, .inl f1)), (q2, .inl (k2, 7200, .inl f2)), (q3, .inl (k3, 400, .inl f3)), (q4, .inl (k4, 400, .inl f4)), (q5, .inl (k5, 18, .inl f5)), (q6, .inl (k6, 4096, .inr (.inl f6))), (q7, .inl (k7, 6, .inr (.inl f7)))] sz) [zO h u q1 (nI ts) (nI cn) q2 q3 q4 (nI lv) q5 (nI an) md q6 q7, (q1, .inl (k1, 18, .inl f1)), (q2, .inl (k2, 7200, .inl f2)), (q3, .inl (k3, 400, .inl f3)), (q4, .inl (k4, 400, .inl f4)), (q5, .inl (k5, 18, .inl f5)), (q6, .inl (k6, 4096, .inr (.inl f6))), (q7, .inl (k7, 6, .inr (.inl f7)))]) (va_A [zO h th q1 (nI ts) (nI cn) q2 q3 q4 (nI lv) q5 (nI an) md q6 q7, (q1, .inl (k1, 18, .inl f1)), (q2, .inl (k2, 7200, .inl f2)), (q3, .inl (k3, 400, .inl f3)), (q4, .inl (k4, 400, .inl f4)), (q5, .inl (k5, 18, .inl f5)), (q6, .inl (k6, 4096, .inr (.inl f6))), (q7, .inl (k7, 6, .inr (.inl f7)))] sz)) 0 0 (va_A [zO h th q1 (nI ts) (nI cn) q2 q3 q4 (nI lv) q5 (nI an) md q6 q7, (q1, .inl (k1, 18, .inl f1)), (q2, .inl (k2, 7200, .inl f2)), (q3, .inl (k3, 400, .inl f3)), (q4, .inl (k4, 400, .inl f4)), (q5, .inl (k5, 18, .inl f5)), (q6, .inl (k6, 4096, .inr (.inl f6))), (q7, .inl (k7, 6, .inr (.inl f7)))] sz) := by
  refine Met.ofW (cc := cX1_forced) (maxL := 4) (ret := (some .boolean)) (by decide) rfl ?_
  intro p e s m args below meth c s₁ B hml hv
  obtain ⟨rfl, hsz, hP, hK, hD0⟩ := hv
  have hx := B.exec
  have hb := B.bytes
  have hr := B.returns
  have hts := atoms_spec (ws := wsX1_forced) B.pre
  have htA : ∀ w ∈ wsA, w.before _ s = true := fun w h => hts w (List.mem_cons_of_mem _ h)
  have hown : s.vm.findClass RX1 = some m.cls := findClass_of_methodNamed B.named
  have hlocks := B.notSynchronized
  subst hsz
  have hD := hD0.self (sz := s.heap.size)
  generalize hAe : va_A [zO h th q1 (nI ts) (nI cn) q2 q3 q4 (nI lv) q5 (nI an) md q6 q7, (q1, .inl (k1, 18, .inl f1)), (q2, .inl (k2, 7200, .inl f2)), (q3, .inl (k3, 400, .inl f3)), (q4, .inl (k4, 400, .inl f4)), (q5, .inl (k5, 18, .inl f5)), (q6, .inl (k6, 4096, .inr (.inl f6))), (q7, .inl (k7, 6, .inr (.inl f7)))] s.heap.size = A at hD ⊢
  have hA : ∀ q : Nat, s.heap.size ≤ q → A q := fun q h => by rw [← hAe]; exact Or.inr h
  have hS : va_S A s.heap s.heap [] := va_S.rf
  have hP : va_P (dC, dI) vwCl [zO h th q1 (nI ts) (nI cn) q2 q3 q4 (nI lv) q5 (nI an) md q6 q7, (q1, .inl (k1, 18, .inl f1)), (q2, .inl (k2, 7200, .inl f2)), (q3, .inl (k3, 400, .inl f3)), (q4, .inl (k4, 400, .inl f4)), (q5, .inl (k5, 18, .inl f5)), (q6, .inl (k6, 4096, .inr (.inl f6))), (q7, .inl (k7, 6, .inr (.inl f7)))] s.heap := hP
  have hl := lv_entry ([.ref h, .int p0]) (n := 4) (Nat.le_of_ble_eq_true rfl)
  rw [lg_entry_eq]
  generalize (lg_sl ([.ref h, .int p0]) ++ List.replicate (4 - (lg_sl ([.ref h, .int p0])).length) Slot.unset).toArray = ls at hl ⊢
  have hl : lv_has ls 4 [(0, .ref h), (1, .int p0)] := hl
  refine lv_aload_n hx hb dX1_forced_0 rfl (lv_at hl 0 rfl) ?_
  refine lv_iload_n hx hb dX1_forced_1 rfl (lv_at hl 1 rfl) ?_
  have hPc := hP.sub (ws' := []) [] rfl
  have hDc := hD.sub (ws' := []) [] (by decide) rfl
  have hKc := hK.sub (tys' := []) [] rfl
  have hFc := va_free (wc := []) hD hS hA [] rfl
  refine va_calli (va_runS (As := [.int p0]) (rest := [.ref h]) ⟨hx, hb, hml, hown, htA⟩ (r_isLiteral l dC dI p0 s.heap.size) (va_cwS 1 htA gX1_73 rfl rfl rfl (by decide +kernel) ⟨Nat.le_of_ble_eq_true rfl, Nat.le_of_ble_eq_true rfl⟩) ⟨fun a U g mk q => by obtain ⟨q0, q1, qP, qK, qD⟩ := q; exact ⟨q0, q1, qP, va_K.moved (u := U) (U := U.calling g mk a) (Vm.Alike.refl U.vm) qK, qD⟩, fun U hU hW => ⟨rfl, by rw [hU], by rw [hU]; exact hPc, va_K.moved hW.alike hKc, hDc.weaken (fun _ _ _ _ => trivial)⟩⟩ rfl rfl hl.1 rfl (lv_room (Nat.le_of_ble_eq_true rfl)) dX1_forced_2 ⟨Nat.zero_le _, Nat.zero_le _⟩) hS (fun q _ h => hFc q h) hFc (fun rl u t H1 locs ht hvm hw hB hz1 hk1 hS => ?_)
  obtain ⟨hP1, hK1, hD1⟩ := hB
  rw [ht] at hP1
  try dsimp only at hw hP1 hD1
  obtain ⟨hP, hD⟩ := va_join (wr := [zO h th q1 (nI ts) (nI cn) q2 q3 q4 (nI lv) q5 (nI an) md q6 q7, (q1, .inl (k1, 18, .inl f1)), (q2, .inl (k2, 7200, .inl f2)), (q3, .inl (k3, 400, .inl f3)), (q4, .inl (k4, 400, .inl f4)), (q5, .inl (k5, 18, .inl f5)), (q6, .inl (k6, 4096, .inr (.inl f6))), (q7, .inl (k7, 6, .inr (.inl f7)))]) (w1 := []) hP hD [] [0, 1, 2, 3, 4, 5, 6, 7] rfl rfl (by decide) (by decide) hk1 hFc hP1 hD1
  generalize H1 = H at hP hS ⊢
  have hP : va_P (dC, dI) vwCl [zO h th q1 (nI ts) (nI cn) q2 q3 q4 (nI lv) q5 (nI an) md q6 q7, (q1, .inl (k1, 18, .inl f1)), (q2, .inl (k2, 7200, .inl f2)), (q3, .inl (k3, 400, .inl f3)), (q4, .inl (k4, 400, .inl f4)), (q5, .inl (k5, 18, .inl f5)), (q6, .inl (k6, 4096, .inr (.inl f6))), (q7, .inl (k7, 6, .inr (.inl f7)))] H := hP.sub [0, 1, 2, 3, 4, 5, 6, 7] rfl
  have hD : va_D A [zO h th q1 (nI ts) (nI cn) q2 q3 q4 (nI lv) q5 (nI an) md q6 q7, (q1, .inl (k1, 18, .inl f1)), (q2, .inl (k2, 7200, .inl f2)), (q3, .inl (k3, 400, .inl f3)), (q4, .inl (k4, 400, .inl f4)), (q5, .inl (k5, 18, .inl f5)), (q6, .inl (k6, 4096, .inr (.inl f6))), (q7, .inl (k7, 6, .inr (.inl f7)))] := hD.sub [0, 1, 2, 3, 4, 5, 6, 7] (by decide) rfl
  rcases hw with ⟨rfl, hl1⟩ | ⟨rfl, hl1⟩
  · refine lv_if_ne (tgt := 12) hx hb dX1_forced_5 (by decide) (fun cb_73 => ?_) (fun cb_73 => ?_)
    · refine lv_iconst (v := 0) hx hb dX1_forced_12 (by decide) ?_
      refine lv_iconst (v := 0) hx hb dX1_forced_13 (by decide) ?_
      have hPc := hP.sub (ws' := [zO h th q1 (nI ts) (nI cn) q2 q3 q4 (nI lv) q5 (nI an) md q6 q7]) [0] rfl
      have hDc := hD.sub (ws' := [zO h th q1 (nI ts) (nI cn) q2 q3 q4 (nI lv) q5 (nI an) md q6 q7]) [0] (by decide) rfl
      have hKc := hK.sub (tys' := []) [] rfl
      have hFc := va_free (wc := [zO h th q1 (nI ts) (nI cn) q2 q3 q4 (nI lv) q5 (nI an) md q6 q7]) hD hS hA [0] rfl
      refine va_calli (va_runV (As := [.int 0, .int 0]) (rest := []) ⟨hx, hb, hml, hown, htA⟩ (r_throwing l dC dI h q1 q2 q3 q4 q5 q6 q7   th (nI ts) (nI cn) (nI lv) (nI an) md 0 0 H.size) (cwV 2 htA gX1_80 rfl rfl rfl (by decide +kernel) ⟨Nat.le_of_ble_eq_true rfl, Nat.le_of_ble_eq_true rfl⟩) ⟨fun a U g mk q => by obtain ⟨q0, q1, qP, qK, qD⟩ := q; exact ⟨q0, q1, qP, va_K.moved (u := U) (U := U.calling g mk a) (Vm.Alike.refl U.vm) qK, qD⟩, va_recv hKc hPc (ci := 1) (q0 := 0) rfl rfl, fun U hU hW => ⟨rfl, by rw [hU], by rw [hU]; exact hPc, va_K.moved hW.alike hKc, hDc.weaken (fun _ _ _ _ => trivial)⟩⟩ rfl rfl hl.1 rfl (lv_room (Nat.le_of_ble_eq_true rfl)) dX1_forced_14 ⟨Nat.zero_le _, Nat.zero_le _⟩) hS (fun q _ h => hFc q h) hFc (fun rth u t H1 locs ht hvm hw hB hz1 hk1 hS => ?_)
      obtain ⟨hP1, hK1, hD1⟩ := hB
      rw [ht] at hP1
      try dsimp only at hw hP1 hD1
      obtain ⟨hP, hD⟩ := va_join (wr := [(q1, .inl (k1, 18, .inl f1)), (q2, .inl (k2, 7200, .inl f2)), (q3, .inl (k3, 400, .inl f3)), (q4, .inl (k4, 400, .inl f4)), (q5, .inl (k5, 18, .inl f5)), (q6, .inl (k6, 4096, .inr (.inl f6))), (q7, .inl (k7, 6, .inr (.inl f7)))]) (w1 := [zO h u q1 (nI ts) (nI cn) q2 q3 q4 (nI lv) q5 (nI an) md q6 q7]) hP hD [0] [1, 2, 3, 4, 5, 6, 7] rfl rfl (by decide) (by decide) hk1 hFc hP1 hD1
      generalize H1 = H at hP hS ⊢
      have hP : va_P (dC, dI) vwCl [zO h u q1 (nI ts) (nI cn) q2 q3 q4 (nI lv) q5 (nI an) md q6 q7, (q1, .inl (k1, 18, .inl f1)), (q2, .inl (k2, 7200, .inl f2)), (q3, .inl (k3, 400, .inl f3)), (q4, .inl (k4, 400, .inl f4)), (q5, .inl (k5, 18, .inl f5)), (q6, .inl (k6, 4096, .inr (.inl f6))), (q7, .inl (k7, 6, .inr (.inl f7)))] H := hP.sub [7, 0, 1, 2, 3, 4, 5, 6] rfl
      have hD : va_D A [zO h u q1 (nI ts) (nI cn) q2 q3 q4 (nI lv) q5 (nI an) md q6 q7, (q1, .inl (k1, 18, .inl f1)), (q2, .inl (k2, 7200, .inl f2)), (q3, .inl (k3, 400, .inl f3)), (q4, .inl (k4, 400, .inl f4)), (q5, .inl (k5, 18, .inl f5)), (q6, .inl (k6, 4096, .inr (.inl f6))), (q7, .inl (k7, 6, .inr (.inl f7)))] := hD.sub [7, 0, 1, 2, 3, 4, 5, 6] (by decide) rfl
      obtain ⟨hu9, hr9⟩ : u = 0 ∧ rth = 0 := by
        rcases hw with h | h | h
        · exact absurd rfl h.1
        · exact absurd rfl h.2.1
        · exact h.2.2
      subst hu9
      subst hr9
      refine lv_if_eq (tgt := 22) hx hb dX1_forced_17 (by decide) (fun cb_76 => ?_) (fun cb_76 => ?_)
      · refine lv_iconst (v := 1) hx hb dX1_forced_22 (by decide) ?_
        refine lv_istore_n (lv' := [(2, .int 1), (0, .ref h), (1, .int p0)]) hx hb dX1_forced_23 rfl hl (by decide) rfl (fun ls hl => ?_)
        refine lv_iconst (v := 0) hx hb dX1_forced_24 (by decide) ?_
        refine lv_istore_n (lv' := [(3, .int 0), (2, .int 1), (0, .ref h), (1, .int p0)]) hx hb dX1_forced_25 rfl hl (by decide) rfl (fun ls hl => ?_)
        have loop : ∀ (fu w : Nat) (x2 : Int32), w ≤ 4096 → 4097 ≤ w + fu → ((x2 = 1 ∧ ∀ a, a < 64 * w → zP f5 f6 an (-1) a → yT p0 a) ∨ (x2 = 0 ∧ ¬ (∀ a, a < 262144 → zP f5 f6 an (-1) a → yT p0 a))) → ∀ (H : Heap) (locs : List Loc), va_P (dC, dI) vwCl [zO h 0 q1 (nI ts) (nI cn) q2 q3 q4 (nI lv) q5 (nI an) md q6 q7, (q1, .inl (k1, 18, .inl f1)), (q2, .inl (k2, 7200, .inl f2)), (q3, .inl (k3, 400, .inl f3)), (q4, .inl (k4, 400, .inl f4)), (q5, .inl (k5, 18, .inl f5)), (q6, .inl (k6, 4096, .inr (.inl f6))), (q7, .inl (k7, 6, .inr (.inl f7)))] H → va_D A [zO h 0 q1 (nI ts) (nI cn) q2 q3 q4 (nI lv) q5 (nI an) md q6 q7, (q1, .inl (k1, 18, .inl f1)), (q2, .inl (k2, 7200, .inl f2)), (q3, .inl (k3, 400, .inl f3)), (q4, .inl (k4, 400, .inl f4)), (q5, .inl (k5, 18, .inl f5)), (q6, .inl (k6, 4096, .inr (.inl f6))), (q7, .inl (k7, 6, .inr (.inl f7)))] → va_S A s.heap H locs → ∀ (ls : Array Slot), lv_has ls 4 [(3, .int (nI w)), (2, .int x2), (0, .ref h), (1, .int p0)] → W p l e (headSpec wsX1_forced ({ frames := 3, cells := 0, slots := 0, locals := 120 })).room s m ([.ref h, .int p0] : List Value).toArray below meth c H locs 0 0 (MQ below (va_Qi (fun (r : Int32) (u : Int32) => (¬ yLit p0 ∧ u = 1) ∨ (yLit p0 ∧ u = 0 ∧ ((r = 1 ∧ (∀ a, a < 262144 → zP f5 f6 an (-1) a → yT p0 a)) ∨ (r = 0 ∧ ¬ (∀ a, a < 262144 → zP f5 f6 an (-1) a → yT p0 a))))) (fun (u : Int32) (t : State) => va_P (dC, dI) vwCl [zO h u q1 (nI ts) (nI cn) q2 q3 q4 (nI lv) q5 (nI an) md q6 q7, (q1, .inl (k1, 18, .inl f1)), (q2, .inl (k2, 7200, .inl f2)), (q3, .inl (k3, 400, .inl f3)), (q4, .inl (k4, 400, .inl f4)), (q5, .inl (k5, 18, .inl f5)), (q6, .inl (k6, 4096, .inr (.inl f6))), (q7, .inl (k7, 6, .inr (.inl f7)))] t.heap ∧ va_K (dC, dI) vwCl [(k1, .int), (k2, .int), (k3, .int), (k4, .int), (k5, .int), (k6, .long), (k7, .long)] t ∧ va_D A [zO h u q1 (nI ts) (nI cn) q2 q3 q4 (nI lv) q5 (nI an) md q6 q7, (q1, .inl (k1, 18, .inl f1)), (q2, .inl (k2, 7200, .inl f2)), (q3, .inl (k3, 400, .inl f3)), (q4, .inl (k4, 400, .inl f4)), (q5, .inl (k5, 18, .inl f5)), (q6, .inl (k6, 4096, .inr (.inl f6))), (q7, .inl (k7, 6, .inr (.inl f7)))]) A) ([.ref h, .int p0] : List Value).toArray s 0 0 A) (F0 m 26 ls []) := by
          intro fu
          induction fu with
          | zero =>
            intro w x2 h1 h2
            exact absurd h2 (by omega)
          | succ fu ih =>
            intro w x2 hw hin hI H locs hP hD hS ls hl
            refine lv_iload_n hx hb dX1_forced_26 rfl (lv_at hl 0 rfl) ?_
            refine lv_sipush (v := 4096) hx hb dX1_forced_27 (by decide) ?_
            refine lv_icmp_ge (tgt := 71) hx hb dX1_forced_30 (by decide) (fun cb_77 => ?_) (fun cb_77 => ?_)
            · have hwe : w = 4096 := by
                rcases Nat.lt_or_ge w 4096 with q | q
                · exact absurd cb_77 (nI_ge (b := 4096) q (by omega))
                · omega
              rcases hI with ⟨rfl, hI⟩ | ⟨rfl, hI⟩
              · refine lv_iload_n hx hb dX1_forced_71 rfl (lv_at hl 1 rfl) ?_
                exact W.zret (v := 1) (ty := .boolean) hx hb hr (by decide) (fun t ht hW => ⟨⟨1, 0, rfl, Or.inr ⟨hl1, rfl, Or.inl ⟨rfl, fun a h1 h2 => hI a (by omega) h2⟩⟩, by rw [ht]; exact hP, va_K.moved hW.alike hK, hD⟩, hS.F ht⟩) hS.2.2 dX1_forced_72
              · refine lv_iload_n hx hb dX1_forced_71 rfl (lv_at hl 1 rfl) ?_
                exact W.zret (v := 0) (ty := .boolean) hx hb hr (by decide) (fun t ht hW => ⟨⟨0, 0, rfl, Or.inr ⟨hl1, rfl, Or.inr ⟨rfl, hI⟩⟩, by rw [ht]; exact hP, va_K.moved hW.alike hK, hD⟩, hS.F ht⟩) hS.2.2 dX1_forced_72
            · have hlt : w < 4096 := by
                rcases Nat.lt_or_ge w 4096 with q | q
                · exact q
                · exact absurd (nI_le (a := 4096) q (by omega)) cb_77
              rcases hI with ⟨rfl, hI⟩ | ⟨rfl, hI⟩
              · refine lv_iload_n hx hb dX1_forced_33 rfl (lv_at hl 1 rfl) ?_
                refine lv_if_eq (tgt := 71) hx hb dX1_forced_34 (by decide) (fun cb_78 => ?_) (fun cb_78 => ?_)
                · exact absurd cb_78 (by decide)
                · refine lv_aload_n hx hb dX1_forced_37 rfl (lv_at hl 2 rfl) ?_
                  refine lv_iload_n hx hb dX1_forced_38 rfl (lv_at hl 0 rfl) ?_
                  refine lv_iconst (v := (-1)) hx hb dX1_forced_39 (by decide) ?_
                  have hPc := hP.sub (ws' := [zO h 0 q1 (nI ts) (nI cn) q2 q3 q4 (nI lv) q5 (nI an) md q6 q7, (q5, .inl (k5, 18, .inl f5)), (q6, .inl (k6, 4096, .inr (.inl f6))), (q7, .inl (k7, 6, .inr (.inl f7)))]) [0, 5, 6, 7] rfl
                  have hDc := hD.sub (ws' := [zO h 0 q1 (nI ts) (nI cn) q2 q3 q4 (nI lv) q5 (nI an) md q6 q7, (q5, .inl (k5, 18, .inl f5)), (q6, .inl (k6, 4096, .inr (.inl f6))), (q7, .inl (k7, 6, .inr (.inl f7)))]) [0, 5, 6, 7] (by decide) rfl
                  have hKc := hK.sub (tys' := [(k5, .int), (k6, .long), (k7, .long)]) [4, 5, 6] rfl
                  have hFc := va_free (wc := [zO h 0 q1 (nI ts) (nI cn) q2 q3 q4 (nI lv) q5 (nI an) md q6 q7, (q5, .inl (k5, 18, .inl f5)), (q6, .inl (k6, 4096, .inr (.inl f6))), (q7, .inl (k7, 6, .inr (.inl f7)))]) hD hS hA [0, 5, 6, 7] rfl
                  refine va_calll (va_runV (As := [.int (nI w), .int (-1)]) (rest := []) ⟨hx, hb, hml, hown, htA⟩ (r_word l dC dI h q1 q2 q3 q4 q5 q6 q7 k5 k6 k7 f5 f6 f7 0 (nI ts) (nI cn) (nI lv) an md w (-1) H.size hlt han hlit h7) (cwV 2 htA gX1_70 rfl rfl rfl (by decide +kernel) ⟨Nat.le_of_ble_eq_true rfl, Nat.le_of_ble_eq_true rfl⟩) ⟨fun a U g mk q => by obtain ⟨q0, q1, qP, qK, qD⟩ := q; exact ⟨q0, q1, qP, va_K.moved (u := U) (U := U.calling g mk a) (Vm.Alike.refl U.vm) qK, qD⟩, va_recv hKc hPc (ci := 1) (q0 := 0) rfl rfl, fun U hU hW => ⟨rfl, by rw [hU], by rw [hU]; exact hPc, va_K.moved hW.alike hKc, hDc.weaken (fun _ _ _ _ => trivial)⟩⟩ rfl rfl hl.1 rfl (lv_room (Nat.le_of_ble_eq_true rfl)) dX1_forced_40 ⟨Nat.zero_le _, Nat.zero_le _⟩) hS (fun q _ h => hFc q h) hFc (fun rw u t H1 locs ht hvm hw hB hz1 hk1 hS => ?_)
                  obtain ⟨hP1, hK1, hD1⟩ := hB
                  rw [ht] at hP1
                  try dsimp only at hw hP1 hD1
                  obtain ⟨hP, hD⟩ := va_join (wr := [(q1, .inl (k1, 18, .inl f1)), (q2, .inl (k2, 7200, .inl f2)), (q3, .inl (k3, 400, .inl f3)), (q4, .inl (k4, 400, .inl f4))]) (w1 := [zO h 0 q1 (nI ts) (nI cn) q2 q3 q4 (nI lv) q5 (nI an) md q6 q7, (q5, .inl (k5, 18, .inl f5)), (q6, .inl (k6, 4096, .inr (.inl f6))), (q7, .inl (k7, 6, .inr (.inl f7)))]) hP hD [0, 5, 6, 7] [1, 2, 3, 4] rfl rfl (by decide) (by decide) hk1 hFc hP1 hD1
                  generalize H1 = H at hP hS ⊢
                  have hP : va_P (dC, dI) vwCl [zO h 0 q1 (nI ts) (nI cn) q2 q3 q4 (nI lv) q5 (nI an) md q6 q7, (q1, .inl (k1, 18, .inl f1)), (q2, .inl (k2, 7200, .inl f2)), (q3, .inl (k3, 400, .inl f3)), (q4, .inl (k4, 400, .inl f4)), (q5, .inl (k5, 18, .inl f5)), (q6, .inl (k6, 4096, .inr (.inl f6))), (q7, .inl (k7, 6, .inr (.inl f7)))] H := hP.sub [4, 0, 1, 2, 3, 5, 6, 7] rfl
                  have hD : va_D A [zO h 0 q1 (nI ts) (nI cn) q2 q3 q4 (nI lv) q5 (nI an) md q6 q7, (q1, .inl (k1, 18, .inl f1)), (q2, .inl (k2, 7200, .inl f2)), (q3, .inl (k3, 400, .inl f3)), (q4, .inl (k4, 400, .inl f4)), (q5, .inl (k5, 18, .inl f5)), (q6, .inl (k6, 4096, .inr (.inl f6))), (q7, .inl (k7, 6, .inr (.inl f7)))] := hD.sub [4, 0, 1, 2, 3, 5, 6, 7] (by decide) rfl
                  have hw1 := hw
                  refine lv_aload_n hx hb dX1_forced_43 rfl (lv_at hl 2 rfl) ?_
                  refine lv_iload_n hx hb dX1_forced_44 rfl (lv_at hl 3 rfl) ?_
                  refine lv_iload_n hx hb dX1_forced_45 rfl (lv_at hl 0 rfl) ?_
                  have hPc := hP.sub (ws' := [zO h 0 q1 (nI ts) (nI cn) q2 q3 q4 (nI lv) q5 (nI an) md q6 q7, (q7, .inl (k7, 6, .inr (.inl f7)))]) [0, 7] rfl
                  have hDc := hD.sub (ws' := [zO h 0 q1 (nI ts) (nI cn) q2 q3 q4 (nI lv) q5 (nI an) md q6 q7, (q7, .inl (k7, 6, .inr (.inl f7)))]) [0, 7] (by decide) rfl
                  have hKc := hK.sub (tys' := [(k7, .long)]) [6] rfl
                  have hFc := va_free (wc := [zO h 0 q1 (nI ts) (nI cn) q2 q3 q4 (nI lv) q5 (nI an) md q6 q7, (q7, .inl (k7, 6, .inr (.inl f7)))]) hD hS hA [0, 7] rfl
                  refine va_calll (va_runV (As := [.int p0, .int (nI w)]) (rest := [.long rw]) ⟨hx, hb, hml, hown, htA⟩ (r_truth l dC dI h q1 q2 q3 q4 q5 q6 q7 k7 f7 0 (nI ts) (nI cn) (nI lv) (nI an) md p0 w H.size hlt hl1 h7) (cwV 2 htA gX1_56 rfl rfl rfl (by decide +kernel) ⟨Nat.le_of_ble_eq_true rfl, Nat.le_of_ble_eq_true rfl⟩) ⟨fun a U g mk q => by obtain ⟨q0, q1, qP, qK, qD⟩ := q; exact ⟨q0, q1, qP, va_K.moved (u := U) (U := U.calling g mk a) (Vm.Alike.refl U.vm) qK, qD⟩, va_recv hKc hPc (ci := 1) (q0 := 0) rfl rfl, fun U hU hW => ⟨rfl, by rw [hU], by rw [hU]; exact hPc, va_K.moved hW.alike hKc, hDc.weaken (fun _ _ _ _ => trivial)⟩⟩ rfl rfl hl.1 rfl (lv_room (Nat.le_of_ble_eq_true rfl)) dX1_forced_46 ⟨Nat.zero_le _, Nat.zero_le _⟩) hS (fun q _ h => hFc q h) hFc (fun rt u t H1 locs ht hvm hw hB hz1 hk1 hS => ?_)
                  obtain u9 := u
                  obtain ⟨hP1, hK1, hD1⟩ := hB
                  rw [ht] at hP1
                  try dsimp only at hw hP1 hD1
                  obtain ⟨hP, hD⟩ := va_join (wr := [(q1, .inl (k1, 18, .inl f1)), (q2, .inl (k2, 7200, .inl f2)), (q3, .inl (k3, 400, .inl f3)), (q4, .inl (k4, 400, .inl f4)), (q5, .inl (k5, 18, .inl f5)), (q6, .inl (k6, 4096, .inr (.inl f6)))]) (w1 := [zO h 0 q1 (nI ts) (nI cn) q2 q3 q4 (nI lv) q5 (nI an) md q6 q7, (q7, .inl (k7, 6, .inr (.inl f7)))]) hP hD [0, 7] [1, 2, 3, 4, 5, 6] rfl rfl (by decide) (by decide) hk1 hFc hP1 hD1
                  generalize H1 = H at hP hS ⊢
                  have hP : va_P (dC, dI) vwCl [zO h 0 q1 (nI ts) (nI cn) q2 q3 q4 (nI lv) q5 (nI an) md q6 q7, (q1, .inl (k1, 18, .inl f1)), (q2, .inl (k2, 7200, .inl f2)), (q3, .inl (k3, 400, .inl f3)), (q4, .inl (k4, 400, .inl f4)), (q5, .inl (k5, 18, .inl f5)), (q6, .inl (k6, 4096, .inr (.inl f6))), (q7, .inl (k7, 6, .inr (.inl f7)))] H := hP.sub [6, 0, 1, 2, 3, 4, 5, 7] rfl
                  have hD : va_D A [zO h 0 q1 (nI ts) (nI cn) q2 q3 q4 (nI lv) q5 (nI an) md q6 q7, (q1, .inl (k1, 18, .inl f1)), (q2, .inl (k2, 7200, .inl f2)), (q3, .inl (k3, 400, .inl f3)), (q4, .inl (k4, 400, .inl f4)), (q5, .inl (k5, 18, .inl f5)), (q6, .inl (k6, 4096, .inr (.inl f6))), (q7, .inl (k7, 6, .inr (.inl f7)))] := hD.sub [6, 0, 1, 2, 3, 4, 5, 7] (by decide) rfl
                  have hz := zW_z (zW_and hw1 (zW_not hw))
                  refine lv_ldc2 (own := RX1) (v := (-1)) hx hb hown (htA _ lkX1_54) dX1_forced_49 ?_
                  refine lv_lxor hx hb dX1_forced_52 ?_
                  refine lv_land hx hb dX1_forced_53 ?_
                  refine lv_lconst (v := 0) hx hb dX1_forced_54 (by decide) ?_
                  refine W.lcmp hx hb dX1_forced_55 ?_
                  refine lv_if_ne (tgt := 63) hx hb dX1_forced_56 (by decide) (fun cb_79 => ?_) (fun cb_79 => ?_)
                  · refine lv_iconst (v := 0) hx hb dX1_forced_63 (by decide) ?_
                    refine lv_istore_n (lv' := [(2, .int 0), (3, .int (nI w)), (0, .ref h), (1, .int p0)]) hx hb dX1_forced_64 rfl hl (by decide) rfl (fun ls hl => ?_)
                    refine lv_iinc (v := nI (w + 1)) (lv' := [(3, .int (nI (w + 1))), (2, .int 0), (0, .ref h), (1, .int p0)]) hx hb dX1_forced_65 hl (k := 1) rfl (nI_1 _) (by decide) rfl (fun ls hl => ?_)
                    refine lv_goto (tgt := 26) hx hb dX1_forced_68 (by decide) ?_
                    refine ih (w + 1) 0 hlt (by omega) (Or.inr ⟨rfl, fun q => ?_⟩) _ _ hP hD hS ls (lv_sub hl [0, 1, 2, 3] rfl)
                    exact cb_79 ((lg_cmp_eq _ _).mpr (hz.mpr (fun k hk z => z.2 (q (64 * w + k) (by omega) z.1))))
                  · refine lv_iconst (v := 1) hx hb dX1_forced_59 (by decide) ?_
                    refine lv_goto (tgt := 64) hx hb dX1_forced_60 (by decide) ?_
                    refine lv_istore_n (lv' := [(2, .int 1), (3, .int (nI w)), (0, .ref h), (1, .int p0)]) hx hb dX1_forced_64 rfl hl (by decide) rfl (fun ls hl => ?_)
                    refine lv_iinc (v := nI (w + 1)) (lv' := [(3, .int (nI (w + 1))), (2, .int 1), (0, .ref h), (1, .int p0)]) hx hb dX1_forced_65 hl (k := 1) rfl (nI_1 _) (by decide) rfl (fun ls hl => ?_)
                    refine lv_goto (tgt := 26) hx hb dX1_forced_68 (by decide) ?_
                    refine ih (w + 1) 1 hlt (by omega) (Or.inl ⟨rfl, fun a h1 h2 => ?_⟩) _ _ hP hD hS ls (lv_sub hl [0, 1, 2, 3] rfl)
                    rcases Nat.lt_or_ge a (64 * w) with q | q
                    · exact hI a q h2
                    · have hz := hz.mp ((lg_cmp_eq _ _).mp cb_79) (a - 64 * w) (by omega)
                      rw [show 64 * w + (a - 64 * w) = a by omega] at hz
                      by_cases e : yT p0 a
                      · exact e
                      · exact absurd ⟨h2, e⟩ hz
              · refine lv_iload_n hx hb dX1_forced_33 rfl (lv_at hl 1 rfl) ?_
                refine lv_if_eq (tgt := 71) hx hb dX1_forced_34 (by decide) (fun cb_80 => ?_) (fun cb_80 => ?_)
                · refine lv_iload_n hx hb dX1_forced_71 rfl (lv_at hl 1 rfl) ?_
                  exact W.zret (v := 0) (ty := .boolean) hx hb hr (by decide) (fun t ht hW => ⟨⟨0, 0, rfl, Or.inr ⟨hl1, rfl, Or.inr ⟨rfl, hI⟩⟩, by rw [ht]; exact hP, va_K.moved hW.alike hK, hD⟩, hS.F ht⟩) hS.2.2 dX1_forced_72
                · exact absurd rfl cb_80
        refine loop 4097 0 1 (by omega) (by omega) (Or.inl ⟨rfl, fun a ha => absurd ha (by omega)⟩) _ _ hP hD hS ls (lv_sub hl [0, 1, 2, 3] rfl)
      · exact absurd rfl cb_76
    · exact absurd cb_73 (by decide)
  · refine lv_if_ne (tgt := 12) hx hb dX1_forced_5 (by decide) (fun cb_74 => ?_) (fun cb_74 => ?_)
    · exact absurd rfl cb_74
    · refine lv_iconst (v := 1) hx hb dX1_forced_8 (by decide) ?_
      refine lv_goto (tgt := 13) hx hb dX1_forced_9 (by decide) ?_
      refine lv_iconst (v := 0) hx hb dX1_forced_13 (by decide) ?_
      have hPc := hP.sub (ws' := [zO h th q1 (nI ts) (nI cn) q2 q3 q4 (nI lv) q5 (nI an) md q6 q7]) [0] rfl
      have hDc := hD.sub (ws' := [zO h th q1 (nI ts) (nI cn) q2 q3 q4 (nI lv) q5 (nI an) md q6 q7]) [0] (by decide) rfl
      have hKc := hK.sub (tys' := []) [] rfl
      have hFc := va_free (wc := [zO h th q1 (nI ts) (nI cn) q2 q3 q4 (nI lv) q5 (nI an) md q6 q7]) hD hS hA [0] rfl
      refine va_calli (va_runV (As := [.int 1, .int 0]) (rest := []) ⟨hx, hb, hml, hown, htA⟩ (r_throwing l dC dI h q1 q2 q3 q4 q5 q6 q7   th (nI ts) (nI cn) (nI lv) (nI an) md 1 0 H.size) (cwV 2 htA gX1_80 rfl rfl rfl (by decide +kernel) ⟨Nat.le_of_ble_eq_true rfl, Nat.le_of_ble_eq_true rfl⟩) ⟨fun a U g mk q => by obtain ⟨q0, q1, qP, qK, qD⟩ := q; exact ⟨q0, q1, qP, va_K.moved (u := U) (U := U.calling g mk a) (Vm.Alike.refl U.vm) qK, qD⟩, va_recv hKc hPc (ci := 1) (q0 := 0) rfl rfl, fun U hU hW => ⟨rfl, by rw [hU], by rw [hU]; exact hPc, va_K.moved hW.alike hKc, hDc.weaken (fun _ _ _ _ => trivial)⟩⟩ rfl rfl hl.1 rfl (lv_room (Nat.le_of_ble_eq_true rfl)) dX1_forced_14 ⟨Nat.zero_le _, Nat.zero_le _⟩) hS (fun q _ h => hFc q h) hFc (fun rth u t H1 locs ht hvm hw hB hz1 hk1 hS => ?_)
      obtain ⟨hP1, hK1, hD1⟩ := hB
      rw [ht] at hP1
      try dsimp only at hw hP1 hD1
      obtain ⟨hP, hD⟩ := va_join (wr := [(q1, .inl (k1, 18, .inl f1)), (q2, .inl (k2, 7200, .inl f2)), (q3, .inl (k3, 400, .inl f3)), (q4, .inl (k4, 400, .inl f4)), (q5, .inl (k5, 18, .inl f5)), (q6, .inl (k6, 4096, .inr (.inl f6))), (q7, .inl (k7, 6, .inr (.inl f7)))]) (w1 := [zO h u q1 (nI ts) (nI cn) q2 q3 q4 (nI lv) q5 (nI an) md q6 q7]) hP hD [0] [1, 2, 3, 4, 5, 6, 7] rfl rfl (by decide) (by decide) hk1 hFc hP1 hD1
      generalize H1 = H at hP hS ⊢
      have hP : va_P (dC, dI) vwCl [zO h u q1 (nI ts) (nI cn) q2 q3 q4 (nI lv) q5 (nI an) md q6 q7, (q1, .inl (k1, 18, .inl f1)), (q2, .inl (k2, 7200, .inl f2)), (q3, .inl (k3, 400, .inl f3)), (q4, .inl (k4, 400, .inl f4)), (q5, .inl (k5, 18, .inl f5)), (q6, .inl (k6, 4096, .inr (.inl f6))), (q7, .inl (k7, 6, .inr (.inl f7)))] H := hP.sub [7, 0, 1, 2, 3, 4, 5, 6] rfl
      have hD : va_D A [zO h u q1 (nI ts) (nI cn) q2 q3 q4 (nI lv) q5 (nI an) md q6 q7, (q1, .inl (k1, 18, .inl f1)), (q2, .inl (k2, 7200, .inl f2)), (q3, .inl (k3, 400, .inl f3)), (q4, .inl (k4, 400, .inl f4)), (q5, .inl (k5, 18, .inl f5)), (q6, .inl (k6, 4096, .inr (.inl f6))), (q7, .inl (k7, 6, .inr (.inl f7)))] := hD.sub [7, 0, 1, 2, 3, 4, 5, 6] (by decide) rfl
      obtain ⟨hu9, hr9⟩ : u = 1 ∧ rth = 1 := by
        rcases hw with h | h | h
        · exact h.2
        · exact absurd h.1 (by decide)
        · exact absurd h.1 (by decide)
      subst hu9
      subst hr9
      refine lv_if_eq (tgt := 22) hx hb dX1_forced_17 (by decide) (fun cb_75 => ?_) (fun cb_75 => ?_)
      · exact absurd cb_75 (by decide)
      · refine lv_iconst (v := 0) hx hb dX1_forced_20 (by decide) ?_
        exact W.zret (v := 0) (ty := .boolean) hx hb hr (by decide) (fun t ht hW => ⟨⟨0, 1, rfl, Or.inl ⟨hl1, rfl⟩, by rw [ht]; exact hP, va_K.moved hW.alike hK, hD⟩, hS.F ht⟩) hS.2.2 dX1_forced_21
set_option maxHeartbeats 4000000 in
set_option maxRecDepth 100000 in
theorem r_blames (l : Launch) (dC : Nat → ClassId) (dI : Nat → Nat → Nat) (h : Nat) (q1 : Nat) (q2 : Nat) (q3 : Nat) (q4 : Nat) (q5 : Nat) (q6 : Nat) (q7 : Nat) (k1 : ClassId) (k2 : ClassId) (k3 : ClassId) (k4 : ClassId) (k5 : ClassId) (k6 : ClassId) (k7 : ClassId) (f1 : Nat → Int32) (f2 : Nat → Int32) (f3 : Nat → Int32) (f4 : Nat → Int32) (f5 : Nat → Int32) (f6 : Nat → Int64) (f7 : Nat → Int64) (th : Int32) (ts : Nat) (cn : Nat) (lv : Nat) (an : Nat) (md : Int32) (p0 : Int32) (sz : Nat) (han : an ≤ 18) (hlit : ∀ j, j < an → yLit (f5 j)) (h7 : zIn f7) : Met l yX1_blames wsX1_blames ({ frames := 3, cells := 0, slots := 0, locals := 120 }) (va_Pc [.ref h, .int p0] (fun U => U.heap.size = sz ∧ va_P (dC, dI) vwCl [zO h th q1 (nI ts) (nI cn) q2 q3 q4 (nI lv) q5 (nI an) md q6 q7, (q1, .inl (k1, 18, .inl f1)), (q2, .inl (k2, 7200, .inl f2)), (q3, .inl (k3, 400, .inl f3)), (q4, .inl (k4, 400, .inl f4)), (q5, .inl (k5, 18, .inl f5)), (q6, .inl (k6, 4096, .inr (.inl f6))), (q7, .inl (k7, 6, .inr (.inl f7)))] U.heap ∧ va_K (dC, dI) vwCl [(k1, .int), (k2, .int), (k3, .int), (k4, .int), (k5, .int), (k6, .long), (k7, .long)] U ∧ va_D (fun _ => True) [zO h th q1 (nI ts) (nI cn) q2 q3 q4 (nI lv) q5 (nI an) md q6 q7, (q1, .inl (k1, 18, .inl f1)), (q2, .inl (k2, 7200, .inl f2)), (q3, .inl (k3, 400, .inl f3)), (q4, .inl (k4, 400, .inl f4)), (q5, .inl (k5, 18, .inl f5)), (q6, .inl (k6, 4096, .inr (.inl f6))), (q7, .inl (k7, 6, .inr (.inl f7)))])) (va_Qi (fun (r : Int32) (u : Int32) => ((p0 < 0 ∨ nI an ≤ p0) ∧ u = 1) ∨ (¬ (p0 < 0 ∨ nI an ≤ p0) ∧ u = 0 ∧ ((r = 1 ∧ (¬ ∃ a, a < 262144 ∧ zP f5 f6 an (-1) a) ∧ (∃ a, a < 262144 ∧ zP f5 f6 an p0 a)) ∨ (r = 0 ∧ ¬ ((¬ ∃ a, a < 262144 ∧ zP f5 f6 an (-1) a) ∧ (∃ a, a < 262144 ∧ zP f5 f6 an p0 a)))))) (fun (u : Int32) (t : State) => va_P (dC, dI) vwCl [zO h u q1 (nI ts) (nI cn) q2 q3 q4 (nI lv) q5 (nI an) md q6 q7, (q1, .inl (k1, 18, .inl f1)), (q2, .inl (k2, 7200, .inl f2)), (q3, .inl (k3, 400, .inl f3)), (q4, .inl (k4, 400, .inl f4)), (q5, .inl (k5, 18, .inl f5)), (q6, .inl (k6, 4096, .inr (.inl f6))), (q7, .inl (k7, 6, .inr (.inl f7)))] t.heap ∧ va_K (dC, dI) vwCl [(k1, .int), (k2, .int), (k3, .int), (k4, .int), (k5, .int), (k6, .long), (k7, .long)] t ∧ va_D (va_A [zO h th q1 (nI ts) (nI cn) q2 q3 q4 (nI lv) q5 (nI an) md q6 q7, (q1, .inl (k1, 18, .inl f1)), (q2, .inl (k2, 7200, .inl f2)), (q3, .inl (k3, 400, .inl f3)), (q4, .inl (k4, 400, .inl f4)), (q5, .inl (k5, 18, .inl f5)), (q6, .inl (k6, 4096, .inr (.inl f6))), (q7, .inl (k7, 6, .inr (.inl f7)))] sz) [zO h u q1 (nI ts) (nI cn) q2 q3 q4 (nI lv) q5 (nI an) md q6 q7, (q1, .inl (k1, 18, .inl f1)), (q2, .inl (k2, 7200, .inl f2)), (q3, .inl (k3, 400, .inl f3)), (q4, .inl (k4, 400, .inl f4)), (q5, .inl (k5, 18, .inl f5)), (q6, .inl (k6, 4096, .inr (.inl f6))), (q7, .inl (k7, 6, .inr (.inl f7)))]) (va_A [zO h th q1 (nI ts) (nI cn) q2 q3 q4 (nI lv) q5 (nI an) md q6 q7, (q1, .inl (k1, 18, .inl f1)), (q2, .inl (k2, 7200, .inl f2)), (q3, .inl (k3, 400, .inl f3)), (q4, .inl (k4, 400, .inl f4)), (q5, .inl (k5, 18, .inl f5)), (q6, .inl (k6, 4096, .inr (.inl f6))), (q7, .inl (k7, 6, .inr (.inl f7)))] sz)) 0 0 (va_A [zO h th q1 (nI ts) (nI cn) q2 q3 q4 (nI lv) q5 (nI an) md q6 q7, (q1, .inl (k1, 18, .inl f1)), (q2, .inl (k2, 7200, .inl f2)), (q3, .inl (k3, 400, .inl f3)), (q4, .inl (k4, 400, .inl f4)), (q5, .inl (k5, 18, .inl f5)), (q6, .inl (k6, 4096, .inr (.inl f6))), (q7, .inl (k7, 6, .inr (.inl f7)))] sz) := by
  refine Met.ofW (cc := cX1_blames) (maxL := 2) (ret := (some .boolean)) (by decide) rfl ?_
  intro p e s m args below meth c s₁ B hml hv
  obtain ⟨rfl, hsz, hP, hK, hD0⟩ := hv
  have hx := B.exec
  have hb := B.bytes
  have hr := B.returns
  have hts := atoms_spec (ws := wsX1_blames) B.pre
  have htA : ∀ w ∈ wsA, w.before _ s = true := fun w h => hts w (List.mem_cons_of_mem _ h)
  have hown : s.vm.findClass RX1 = some m.cls := findClass_of_methodNamed B.named
  have hlocks := B.notSynchronized
  subst hsz
  have hD := hD0.self (sz := s.heap.size)
  generalize hAe : va_A [zO h th q1 (nI ts) (nI cn) q2 q3 q4 (nI lv) q5 (nI an) md q6 q7, (q1, .inl (k1, 18, .inl f1)), (q2, .inl (k2, 7200, .inl f2)), (q3, .inl (k3, 400, .inl f3)), (q4, .inl (k4, 400, .inl f4)), (q5, .inl (k5, 18, .inl f5)), (q6, .inl (k6, 4096, .inr (.inl f6))), (q7, .inl (k7, 6, .inr (.inl f7)))] s.heap.size = A at hD ⊢
  have hA : ∀ q : Nat, s.heap.size ≤ q → A q := fun q h => by rw [← hAe]; exact Or.inr h
  have hS : va_S A s.heap s.heap [] := va_S.rf
  have hP : va_P (dC, dI) vwCl [zO h th q1 (nI ts) (nI cn) q2 q3 q4 (nI lv) q5 (nI an) md q6 q7, (q1, .inl (k1, 18, .inl f1)), (q2, .inl (k2, 7200, .inl f2)), (q3, .inl (k3, 400, .inl f3)), (q4, .inl (k4, 400, .inl f4)), (q5, .inl (k5, 18, .inl f5)), (q6, .inl (k6, 4096, .inr (.inl f6))), (q7, .inl (k7, 6, .inr (.inl f7)))] s.heap := hP
  have hl := lv_entry ([.ref h, .int p0]) (n := 2) (Nat.le_of_ble_eq_true rfl)
  rw [lg_entry_eq]
  generalize (lg_sl ([.ref h, .int p0]) ++ List.replicate (2 - (lg_sl ([.ref h, .int p0])).length) Slot.unset).toArray = ls at hl ⊢
  have hl : lv_has ls 2 [(0, .ref h), (1, .int p0)] := hl
  refine lv_aload_n hx hb dX1_blames_0 rfl (lv_at hl 0 rfl) ?_
  refine lv_iload_n hx hb dX1_blames_1 rfl (lv_at hl 1 rfl) ?_
  refine lv_if_lt (tgt := 13) hx hb dX1_blames_2 (by decide) (fun cb_81 => ?_) (fun cb_81 => ?_)
  · refine lv_iconst (v := 1) hx hb dX1_blames_13 (by decide) ?_
    refine lv_goto (tgt := 18) hx hb dX1_blames_14 (by decide) ?_
    refine lv_iconst (v := 0) hx hb dX1_blames_18 (by decide) ?_
    have hPc := hP.sub (ws' := [zO h th q1 (nI ts) (nI cn) q2 q3 q4 (nI lv) q5 (nI an) md q6 q7]) [0] rfl
    have hDc := hD.sub (ws' := [zO h th q1 (nI ts) (nI cn) q2 q3 q4 (nI lv) q5 (nI an) md q6 q7]) [0] (by decide) rfl
    have hKc := hK.sub (tys' := []) [] rfl
    have hFc := va_free (wc := [zO h th q1 (nI ts) (nI cn) q2 q3 q4 (nI lv) q5 (nI an) md q6 q7]) hD hS hA [0] rfl
    refine va_calli (va_runV (As := [.int 1, .int 0]) (rest := []) ⟨hx, hb, hml, hown, htA⟩ (r_throwing l dC dI h q1 q2 q3 q4 q5 q6 q7   th (nI ts) (nI cn) (nI lv) (nI an) md 1 0 s.heap.size) (cwV 2 htA gX1_80 rfl rfl rfl (by decide +kernel) ⟨Nat.le_of_ble_eq_true rfl, Nat.le_of_ble_eq_true rfl⟩) ⟨fun a U g mk q => by obtain ⟨q0, q1, qP, qK, qD⟩ := q; exact ⟨q0, q1, qP, va_K.moved (u := U) (U := U.calling g mk a) (Vm.Alike.refl U.vm) qK, qD⟩, va_recv hKc hPc (ci := 1) (q0 := 0) rfl rfl, fun U hU hW => ⟨rfl, by rw [hU], by rw [hU]; exact hPc, va_K.moved hW.alike hKc, hDc.weaken (fun _ _ _ _ => trivial)⟩⟩ rfl rfl hl.1 rfl (lv_room (Nat.le_of_ble_eq_true rfl)) dX1_blames_19 ⟨Nat.zero_le _, Nat.zero_le _⟩) hS (fun q _ h => hFc q h) hFc (fun rth u t H1 locs ht hvm hw hB hz1 hk1 hS => ?_)
    obtain ⟨hP1, hK1, hD1⟩ := hB
    rw [ht] at hP1
    try dsimp only at hw hP1 hD1
    obtain ⟨hP, hD⟩ := va_join (wr := [(q1, .inl (k1, 18, .inl f1)), (q2, .inl (k2, 7200, .inl f2)), (q3, .inl (k3, 400, .inl f3)), (q4, .inl (k4, 400, .inl f4)), (q5, .inl (k5, 18, .inl f5)), (q6, .inl (k6, 4096, .inr (.inl f6))), (q7, .inl (k7, 6, .inr (.inl f7)))]) (w1 := [zO h u q1 (nI ts) (nI cn) q2 q3 q4 (nI lv) q5 (nI an) md q6 q7]) hP hD [0] [1, 2, 3, 4, 5, 6, 7] rfl rfl (by decide) (by decide) hk1 hFc hP1 hD1
    generalize H1 = H at hP hS ⊢
    have hP : va_P (dC, dI) vwCl [zO h u q1 (nI ts) (nI cn) q2 q3 q4 (nI lv) q5 (nI an) md q6 q7, (q1, .inl (k1, 18, .inl f1)), (q2, .inl (k2, 7200, .inl f2)), (q3, .inl (k3, 400, .inl f3)), (q4, .inl (k4, 400, .inl f4)), (q5, .inl (k5, 18, .inl f5)), (q6, .inl (k6, 4096, .inr (.inl f6))), (q7, .inl (k7, 6, .inr (.inl f7)))] H := hP.sub [7, 0, 1, 2, 3, 4, 5, 6] rfl
    have hD : va_D A [zO h u q1 (nI ts) (nI cn) q2 q3 q4 (nI lv) q5 (nI an) md q6 q7, (q1, .inl (k1, 18, .inl f1)), (q2, .inl (k2, 7200, .inl f2)), (q3, .inl (k3, 400, .inl f3)), (q4, .inl (k4, 400, .inl f4)), (q5, .inl (k5, 18, .inl f5)), (q6, .inl (k6, 4096, .inr (.inl f6))), (q7, .inl (k7, 6, .inr (.inl f7)))] := hD.sub [7, 0, 1, 2, 3, 4, 5, 6] (by decide) rfl
    obtain ⟨hu9, hr9⟩ : u = 1 ∧ rth = 1 := by
      rcases hw with h | h | h
      · exact h.2
      · exact absurd h.1 (by decide)
      · exact absurd h.1 (by decide)
    subst hu9
    subst hr9
    refine lv_if_eq (tgt := 27) hx hb dX1_blames_22 (by decide) (fun cb_82 => ?_) (fun cb_82 => ?_)
    · exact absurd cb_82 (by decide)
    · refine lv_iconst (v := 0) hx hb dX1_blames_25 (by decide) ?_
      exact W.zret (v := 0) (ty := .boolean) hx hb hr (by decide) (fun t ht hW => ⟨⟨0, 1, rfl, Or.inl ⟨Or.inl cb_81, rfl⟩, by rw [ht]; exact hP, va_K.moved hW.alike hK, hD⟩, hS.F ht⟩) hS.2.2 dX1_blames_26
  · refine lv_iload_n hx hb dX1_blames_5 rfl (lv_at hl 1 rfl) ?_
    refine lv_aload_n hx hb dX1_blames_6 rfl (lv_at hl 0 rfl) ?_
    refine va_get (D := (dC, dI)) (ci := 1) (v := .int (nI an)) (C := RX1) (T := TX1) (N := 13) hx hb htA inX1 hown hK hP 0 rfl rfl 9 (by decide) (htA _ lkX1_67) (fun _ h9 => h9) rfl dX1_blames_7 ?_
    refine lv_icmp_lt (tgt := 17) hx hb dX1_blames_10 (by decide) (fun cb_83 => ?_) (fun cb_83 => ?_)
    · have hok : ¬ (p0 < 0 ∨ nI an ≤ p0) := fun q => q.elim cb_81 (fun z => absurd cb_83 (Int32.not_lt.mpr z))
      refine lv_iconst (v := 0) hx hb dX1_blames_17 (by decide) ?_
      refine lv_iconst (v := 0) hx hb dX1_blames_18 (by decide) ?_
      have hPc := hP.sub (ws' := [zO h th q1 (nI ts) (nI cn) q2 q3 q4 (nI lv) q5 (nI an) md q6 q7]) [0] rfl
      have hDc := hD.sub (ws' := [zO h th q1 (nI ts) (nI cn) q2 q3 q4 (nI lv) q5 (nI an) md q6 q7]) [0] (by decide) rfl
      have hKc := hK.sub (tys' := []) [] rfl
      have hFc := va_free (wc := [zO h th q1 (nI ts) (nI cn) q2 q3 q4 (nI lv) q5 (nI an) md q6 q7]) hD hS hA [0] rfl
      refine va_calli (va_runV (As := [.int 0, .int 0]) (rest := []) ⟨hx, hb, hml, hown, htA⟩ (r_throwing l dC dI h q1 q2 q3 q4 q5 q6 q7   th (nI ts) (nI cn) (nI lv) (nI an) md 0 0 s.heap.size) (cwV 2 htA gX1_80 rfl rfl rfl (by decide +kernel) ⟨Nat.le_of_ble_eq_true rfl, Nat.le_of_ble_eq_true rfl⟩) ⟨fun a U g mk q => by obtain ⟨q0, q1, qP, qK, qD⟩ := q; exact ⟨q0, q1, qP, va_K.moved (u := U) (U := U.calling g mk a) (Vm.Alike.refl U.vm) qK, qD⟩, va_recv hKc hPc (ci := 1) (q0 := 0) rfl rfl, fun U hU hW => ⟨rfl, by rw [hU], by rw [hU]; exact hPc, va_K.moved hW.alike hKc, hDc.weaken (fun _ _ _ _ => trivial)⟩⟩ rfl rfl hl.1 rfl (lv_room (Nat.le_of_ble_eq_true rfl)) dX1_blames_19 ⟨Nat.zero_le _, Nat.zero_le _⟩) hS (fun q _ h => hFc q h) hFc (fun rth u t H1 locs ht hvm hw hB hz1 hk1 hS => ?_)
      obtain ⟨hP1, hK1, hD1⟩ := hB
      rw [ht] at hP1
      try dsimp only at hw hP1 hD1
      obtain ⟨hP, hD⟩ := va_join (wr := [(q1, .inl (k1, 18, .inl f1)), (q2, .inl (k2, 7200, .inl f2)), (q3, .inl (k3, 400, .inl f3)), (q4, .inl (k4, 400, .inl f4)), (q5, .inl (k5, 18, .inl f5)), (q6, .inl (k6, 4096, .inr (.inl f6))), (q7, .inl (k7, 6, .inr (.inl f7)))]) (w1 := [zO h u q1 (nI ts) (nI cn) q2 q3 q4 (nI lv) q5 (nI an) md q6 q7]) hP hD [0] [1, 2, 3, 4, 5, 6, 7] rfl rfl (by decide) (by decide) hk1 hFc hP1 hD1
      generalize H1 = H at hP hS ⊢
      have hP : va_P (dC, dI) vwCl [zO h u q1 (nI ts) (nI cn) q2 q3 q4 (nI lv) q5 (nI an) md q6 q7, (q1, .inl (k1, 18, .inl f1)), (q2, .inl (k2, 7200, .inl f2)), (q3, .inl (k3, 400, .inl f3)), (q4, .inl (k4, 400, .inl f4)), (q5, .inl (k5, 18, .inl f5)), (q6, .inl (k6, 4096, .inr (.inl f6))), (q7, .inl (k7, 6, .inr (.inl f7)))] H := hP.sub [7, 0, 1, 2, 3, 4, 5, 6] rfl
      have hD : va_D A [zO h u q1 (nI ts) (nI cn) q2 q3 q4 (nI lv) q5 (nI an) md q6 q7, (q1, .inl (k1, 18, .inl f1)), (q2, .inl (k2, 7200, .inl f2)), (q3, .inl (k3, 400, .inl f3)), (q4, .inl (k4, 400, .inl f4)), (q5, .inl (k5, 18, .inl f5)), (q6, .inl (k6, 4096, .inr (.inl f6))), (q7, .inl (k7, 6, .inr (.inl f7)))] := hD.sub [7, 0, 1, 2, 3, 4, 5, 6] (by decide) rfl
      obtain ⟨hu9, hr9⟩ : u = 0 ∧ rth = 0 := by
        rcases hw with h | h | h
        · exact absurd rfl h.1
        · exact absurd rfl h.2.1
        · exact h.2.2
      subst hu9
      subst hr9
      refine lv_if_eq (tgt := 27) hx hb dX1_blames_22 (by decide) (fun cb_85 => ?_) (fun cb_85 => ?_)
      · refine lv_aload_n hx hb dX1_blames_27 rfl (lv_at hl 0 rfl) ?_
        refine lv_iconst (v := (-1)) hx hb dX1_blames_28 (by decide) ?_
        have hPc := hP.sub (ws' := [zO h 0 q1 (nI ts) (nI cn) q2 q3 q4 (nI lv) q5 (nI an) md q6 q7, (q5, .inl (k5, 18, .inl f5)), (q6, .inl (k6, 4096, .inr (.inl f6))), (q7, .inl (k7, 6, .inr (.inl f7)))]) [0, 5, 6, 7] rfl
        have hDc := hD.sub (ws' := [zO h 0 q1 (nI ts) (nI cn) q2 q3 q4 (nI lv) q5 (nI an) md q6 q7, (q5, .inl (k5, 18, .inl f5)), (q6, .inl (k6, 4096, .inr (.inl f6))), (q7, .inl (k7, 6, .inr (.inl f7)))]) [0, 5, 6, 7] (by decide) rfl
        have hKc := hK.sub (tys' := [(k5, .int), (k6, .long), (k7, .long)]) [4, 5, 6] rfl
        have hFc := va_free (wc := [zO h 0 q1 (nI ts) (nI cn) q2 q3 q4 (nI lv) q5 (nI an) md q6 q7, (q5, .inl (k5, 18, .inl f5)), (q6, .inl (k6, 4096, .inr (.inl f6))), (q7, .inl (k7, 6, .inr (.inl f7)))]) hD hS hA [0, 5, 6, 7] rfl
        refine va_calli (va_runV (As := [.int (-1)]) (rest := []) ⟨hx, hb, hml, hown, htA⟩ (r_some l dC dI h q1 q2 q3 q4 q5 q6 q7 k5 k6 k7 f5 f6 f7 0 (nI ts) (nI cn) (nI lv) an md (-1) H.size han hlit h7) (cwV 1 htA gX1_91 rfl rfl rfl (by decide +kernel) ⟨Nat.le_of_ble_eq_true rfl, Nat.le_of_ble_eq_true rfl⟩) ⟨fun a U g mk q => by obtain ⟨q0, q1, qP, qK, qD⟩ := q; exact ⟨q0, q1, qP, va_K.moved (u := U) (U := U.calling g mk a) (Vm.Alike.refl U.vm) qK, qD⟩, va_recv hKc hPc (ci := 1) (q0 := 0) rfl rfl, fun U hU hW => ⟨rfl, by rw [hU], by rw [hU]; exact hPc, va_K.moved hW.alike hKc, hDc.weaken (fun _ _ _ _ => trivial)⟩⟩ rfl rfl hl.1 rfl (lv_room (Nat.le_of_ble_eq_true rfl)) dX1_blames_29 ⟨Nat.zero_le _, Nat.zero_le _⟩) hS (fun q _ h => hFc q h) hFc (fun rs u t H1 locs ht hvm hw hB hz1 hk1 hS => ?_)
        obtain ⟨hP1, hK1, hD1⟩ := hB
        rw [ht] at hP1
        try dsimp only at hw hP1 hD1
        obtain ⟨hP, hD⟩ := va_join (wr := [(q1, .inl (k1, 18, .inl f1)), (q2, .inl (k2, 7200, .inl f2)), (q3, .inl (k3, 400, .inl f3)), (q4, .inl (k4, 400, .inl f4))]) (w1 := [zO h 0 q1 (nI ts) (nI cn) q2 q3 q4 (nI lv) q5 (nI an) md q6 q7, (q5, .inl (k5, 18, .inl f5)), (q6, .inl (k6, 4096, .inr (.inl f6))), (q7, .inl (k7, 6, .inr (.inl f7)))]) hP hD [0, 5, 6, 7] [1, 2, 3, 4] rfl rfl (by decide) (by decide) hk1 hFc hP1 hD1
        generalize H1 = H at hP hS ⊢
        have hP : va_P (dC, dI) vwCl [zO h 0 q1 (nI ts) (nI cn) q2 q3 q4 (nI lv) q5 (nI an) md q6 q7, (q1, .inl (k1, 18, .inl f1)), (q2, .inl (k2, 7200, .inl f2)), (q3, .inl (k3, 400, .inl f3)), (q4, .inl (k4, 400, .inl f4)), (q5, .inl (k5, 18, .inl f5)), (q6, .inl (k6, 4096, .inr (.inl f6))), (q7, .inl (k7, 6, .inr (.inl f7)))] H := hP.sub [4, 0, 1, 2, 3, 5, 6, 7] rfl
        have hD : va_D A [zO h 0 q1 (nI ts) (nI cn) q2 q3 q4 (nI lv) q5 (nI an) md q6 q7, (q1, .inl (k1, 18, .inl f1)), (q2, .inl (k2, 7200, .inl f2)), (q3, .inl (k3, 400, .inl f3)), (q4, .inl (k4, 400, .inl f4)), (q5, .inl (k5, 18, .inl f5)), (q6, .inl (k6, 4096, .inr (.inl f6))), (q7, .inl (k7, 6, .inr (.inl f7)))] := hD.sub [4, 0, 1, 2, 3, 5, 6, 7] (by decide) rfl
        rcases hw with ⟨rfl, h1⟩ | ⟨rfl, h1⟩
        · refine lv_if_ne (tgt := 47) hx hb dX1_blames_32 (by decide) (fun cb_86 => ?_) (fun cb_86 => ?_)
          · refine lv_iconst (v := 0) hx hb dX1_blames_47 (by decide) ?_
            exact W.zret (v := 0) (ty := .boolean) hx hb hr (by decide) (fun t ht hW => ⟨⟨0, 0, rfl, Or.inr ⟨hok, rfl, Or.inr ⟨rfl, fun q => q.1 h1⟩⟩, by rw [ht]; exact hP, va_K.moved hW.alike hK, hD⟩, hS.F ht⟩) hS.2.2 dX1_blames_48
          · exact absurd cb_86 (by decide)
        · refine lv_if_ne (tgt := 47) hx hb dX1_blames_32 (by decide) (fun cb_87 => ?_) (fun cb_87 => ?_)
          · exact absurd rfl cb_87
          · refine lv_aload_n hx hb dX1_blames_35 rfl (lv_at hl 0 rfl) ?_
            refine lv_iload_n hx hb dX1_blames_36 rfl (lv_at hl 1 rfl) ?_
            have hPc := hP.sub (ws' := [zO h 0 q1 (nI ts) (nI cn) q2 q3 q4 (nI lv) q5 (nI an) md q6 q7, (q5, .inl (k5, 18, .inl f5)), (q6, .inl (k6, 4096, .inr (.inl f6))), (q7, .inl (k7, 6, .inr (.inl f7)))]) [0, 5, 6, 7] rfl
            have hDc := hD.sub (ws' := [zO h 0 q1 (nI ts) (nI cn) q2 q3 q4 (nI lv) q5 (nI an) md q6 q7, (q5, .inl (k5, 18, .inl f5)), (q6, .inl (k6, 4096, .inr (.inl f6))), (q7, .inl (k7, 6, .inr (.inl f7)))]) [0, 5, 6, 7] (by decide) rfl
            have hKc := hK.sub (tys' := [(k5, .int), (k6, .long), (k7, .long)]) [4, 5, 6] rfl
            have hFc := va_free (wc := [zO h 0 q1 (nI ts) (nI cn) q2 q3 q4 (nI lv) q5 (nI an) md q6 q7, (q5, .inl (k5, 18, .inl f5)), (q6, .inl (k6, 4096, .inr (.inl f6))), (q7, .inl (k7, 6, .inr (.inl f7)))]) hD hS hA [0, 5, 6, 7] rfl
            refine va_calli (va_runV (As := [.int p0]) (rest := []) ⟨hx, hb, hml, hown, htA⟩ (r_some l dC dI h q1 q2 q3 q4 q5 q6 q7 k5 k6 k7 f5 f6 f7 0 (nI ts) (nI cn) (nI lv) an md p0 H.size han hlit h7) (cwV 1 htA gX1_91 rfl rfl rfl (by decide +kernel) ⟨Nat.le_of_ble_eq_true rfl, Nat.le_of_ble_eq_true rfl⟩) ⟨fun a U g mk q => by obtain ⟨q0, q1, qP, qK, qD⟩ := q; exact ⟨q0, q1, qP, va_K.moved (u := U) (U := U.calling g mk a) (Vm.Alike.refl U.vm) qK, qD⟩, va_recv hKc hPc (ci := 1) (q0 := 0) rfl rfl, fun U hU hW => ⟨rfl, by rw [hU], by rw [hU]; exact hPc, va_K.moved hW.alike hKc, hDc.weaken (fun _ _ _ _ => trivial)⟩⟩ rfl rfl hl.1 rfl (lv_room (Nat.le_of_ble_eq_true rfl)) dX1_blames_37 ⟨Nat.zero_le _, Nat.zero_le _⟩) hS (fun q _ h => hFc q h) hFc (fun rs2 u t H1 locs ht hvm hw hB hz1 hk1 hS => ?_)
            obtain u9 := u
            obtain ⟨hP1, hK1, hD1⟩ := hB
            rw [ht] at hP1
            try dsimp only at hw hP1 hD1
            obtain ⟨hP, hD⟩ := va_join (wr := [(q1, .inl (k1, 18, .inl f1)), (q2, .inl (k2, 7200, .inl f2)), (q3, .inl (k3, 400, .inl f3)), (q4, .inl (k4, 400, .inl f4))]) (w1 := [zO h 0 q1 (nI ts) (nI cn) q2 q3 q4 (nI lv) q5 (nI an) md q6 q7, (q5, .inl (k5, 18, .inl f5)), (q6, .inl (k6, 4096, .inr (.inl f6))), (q7, .inl (k7, 6, .inr (.inl f7)))]) hP hD [0, 5, 6, 7] [1, 2, 3, 4] rfl rfl (by decide) (by decide) hk1 hFc hP1 hD1
            generalize H1 = H at hP hS ⊢
            have hP : va_P (dC, dI) vwCl [zO h 0 q1 (nI ts) (nI cn) q2 q3 q4 (nI lv) q5 (nI an) md q6 q7, (q1, .inl (k1, 18, .inl f1)), (q2, .inl (k2, 7200, .inl f2)), (q3, .inl (k3, 400, .inl f3)), (q4, .inl (k4, 400, .inl f4)), (q5, .inl (k5, 18, .inl f5)), (q6, .inl (k6, 4096, .inr (.inl f6))), (q7, .inl (k7, 6, .inr (.inl f7)))] H := hP.sub [4, 0, 1, 2, 3, 5, 6, 7] rfl
            have hD : va_D A [zO h 0 q1 (nI ts) (nI cn) q2 q3 q4 (nI lv) q5 (nI an) md q6 q7, (q1, .inl (k1, 18, .inl f1)), (q2, .inl (k2, 7200, .inl f2)), (q3, .inl (k3, 400, .inl f3)), (q4, .inl (k4, 400, .inl f4)), (q5, .inl (k5, 18, .inl f5)), (q6, .inl (k6, 4096, .inr (.inl f6))), (q7, .inl (k7, 6, .inr (.inl f7)))] := hD.sub [4, 0, 1, 2, 3, 5, 6, 7] (by decide) rfl
            rcases hw with ⟨rfl, h2⟩ | ⟨rfl, h2⟩
            · refine lv_if_eq (tgt := 47) hx hb dX1_blames_40 (by decide) (fun cb_88 => ?_) (fun cb_88 => ?_)
              · exact absurd cb_88 (by decide)
              · refine lv_iconst (v := 1) hx hb dX1_blames_43 (by decide) ?_
                refine lv_goto (tgt := 48) hx hb dX1_blames_44 (by decide) ?_
                exact W.zret (v := 1) (ty := .boolean) hx hb hr (by decide) (fun t ht hW => ⟨⟨1, 0, rfl, Or.inr ⟨hok, rfl, Or.inl ⟨rfl, h1, h2⟩⟩, by rw [ht]; exact hP, va_K.moved hW.alike hK, hD⟩, hS.F ht⟩) hS.2.2 dX1_blames_48
            · refine lv_if_eq (tgt := 47) hx hb dX1_blames_40 (by decide) (fun cb_89 => ?_) (fun cb_89 => ?_)
              · refine lv_iconst (v := 0) hx hb dX1_blames_47 (by decide) ?_
                exact W.zret (v := 0) (ty := .boolean) hx hb hr (by decide) (fun t ht hW => ⟨⟨0, 0, rfl, Or.inr ⟨hok, rfl, Or.inr ⟨rfl, fun q => h2 q.2⟩⟩, by rw [ht]; exact hP, va_K.moved hW.alike hK, hD⟩, hS.F ht⟩) hS.2.2 dX1_blames_48
              · exact absurd rfl cb_89
      · exact absurd rfl cb_85
    · refine lv_iconst (v := 1) hx hb dX1_blames_13 (by decide) ?_
      refine lv_goto (tgt := 18) hx hb dX1_blames_14 (by decide) ?_
      refine lv_iconst (v := 0) hx hb dX1_blames_18 (by decide) ?_
      have hPc := hP.sub (ws' := [zO h th q1 (nI ts) (nI cn) q2 q3 q4 (nI lv) q5 (nI an) md q6 q7]) [0] rfl
      have hDc := hD.sub (ws' := [zO h th q1 (nI ts) (nI cn) q2 q3 q4 (nI lv) q5 (nI an) md q6 q7]) [0] (by decide) rfl
      have hKc := hK.sub (tys' := []) [] rfl
      have hFc := va_free (wc := [zO h th q1 (nI ts) (nI cn) q2 q3 q4 (nI lv) q5 (nI an) md q6 q7]) hD hS hA [0] rfl
      refine va_calli (va_runV (As := [.int 1, .int 0]) (rest := []) ⟨hx, hb, hml, hown, htA⟩ (r_throwing l dC dI h q1 q2 q3 q4 q5 q6 q7   th (nI ts) (nI cn) (nI lv) (nI an) md 1 0 s.heap.size) (cwV 2 htA gX1_80 rfl rfl rfl (by decide +kernel) ⟨Nat.le_of_ble_eq_true rfl, Nat.le_of_ble_eq_true rfl⟩) ⟨fun a U g mk q => by obtain ⟨q0, q1, qP, qK, qD⟩ := q; exact ⟨q0, q1, qP, va_K.moved (u := U) (U := U.calling g mk a) (Vm.Alike.refl U.vm) qK, qD⟩, va_recv hKc hPc (ci := 1) (q0 := 0) rfl rfl, fun U hU hW => ⟨rfl, by rw [hU], by rw [hU]; exact hPc, va_K.moved hW.alike hKc, hDc.weaken (fun _ _ _ _ => trivial)⟩⟩ rfl rfl hl.1 rfl (lv_room (Nat.le_of_ble_eq_true rfl)) dX1_blames_19 ⟨Nat.zero_le _, Nat.zero_le _⟩) hS (fun q _ h => hFc q h) hFc (fun rth u t H1 locs ht hvm hw hB hz1 hk1 hS => ?_)
      obtain ⟨hP1, hK1, hD1⟩ := hB
      rw [ht] at hP1
      try dsimp only at hw hP1 hD1
      obtain ⟨hP, hD⟩ := va_join (wr := [(q1, .inl (k1, 18, .inl f1)), (q2, .inl (k2, 7200, .inl f2)), (q3, .inl (k3, 400, .inl f3)), (q4, .inl (k4, 400, .inl f4)), (q5, .inl (k5, 18, .inl f5)), (q6, .inl (k6, 4096, .inr (.inl f6))), (q7, .inl (k7, 6, .inr (.inl f7)))]) (w1 := [zO h u q1 (nI ts) (nI cn) q2 q3 q4 (nI lv) q5 (nI an) md q6 q7]) hP hD [0] [1, 2, 3, 4, 5, 6, 7] rfl rfl (by decide) (by decide) hk1 hFc hP1 hD1
      generalize H1 = H at hP hS ⊢
      have hP : va_P (dC, dI) vwCl [zO h u q1 (nI ts) (nI cn) q2 q3 q4 (nI lv) q5 (nI an) md q6 q7, (q1, .inl (k1, 18, .inl f1)), (q2, .inl (k2, 7200, .inl f2)), (q3, .inl (k3, 400, .inl f3)), (q4, .inl (k4, 400, .inl f4)), (q5, .inl (k5, 18, .inl f5)), (q6, .inl (k6, 4096, .inr (.inl f6))), (q7, .inl (k7, 6, .inr (.inl f7)))] H := hP.sub [7, 0, 1, 2, 3, 4, 5, 6] rfl
      have hD : va_D A [zO h u q1 (nI ts) (nI cn) q2 q3 q4 (nI lv) q5 (nI an) md q6 q7, (q1, .inl (k1, 18, .inl f1)), (q2, .inl (k2, 7200, .inl f2)), (q3, .inl (k3, 400, .inl f3)), (q4, .inl (k4, 400, .inl f4)), (q5, .inl (k5, 18, .inl f5)), (q6, .inl (k6, 4096, .inr (.inl f6))), (q7, .inl (k7, 6, .inr (.inl f7)))] := hD.sub [7, 0, 1, 2, 3, 4, 5, 6] (by decide) rfl
      obtain ⟨hu9, hr9⟩ : u = 1 ∧ rth = 1 := by
        rcases hw with h | h | h
        · exact h.2
        · exact absurd h.1 (by decide)
        · exact absurd h.1 (by decide)
      subst hu9
      subst hr9
      refine lv_if_eq (tgt := 27) hx hb dX1_blames_22 (by decide) (fun cb_84 => ?_) (fun cb_84 => ?_)
      · exact absurd cb_84 (by decide)
      · refine lv_iconst (v := 0) hx hb dX1_blames_25 (by decide) ?_
        exact W.zret (v := 0) (ty := .boolean) hx hb hr (by decide) (fun t ht hW => ⟨⟨0, 1, rfl, Or.inl ⟨Or.inr (Int32.not_lt.mp cb_83), rfl⟩, by rw [ht]; exact hP, va_K.moved hW.alike hK, hD⟩, hS.F ht⟩) hS.2.2 dX1_blames_26
set_option maxHeartbeats 4000000 in
set_option maxRecDepth 100000 in
theorem r_value (l : Launch) (dC : Nat → ClassId) (dI : Nat → Nat → Nat) (h : Nat) (q1 : Nat) (q2 : Nat) (q3 : Nat) (q4 : Nat) (q5 : Nat) (q6 : Nat) (q7 : Nat) (k1 : ClassId) (k2 : ClassId) (k3 : ClassId) (k4 : ClassId) (k5 : ClassId) (k6 : ClassId) (k7 : ClassId) (f1 : Nat → Int32) (f2 : Nat → Int32) (f3 : Nat → Int32) (f4 : Nat → Int32) (f5 : Nat → Int32) (f6 : Nat → Int64) (f7 : Nat → Int64) (th : Int32) (ts : Nat) (cn : Nat) (lv : Nat) (an : Nat) (md : Int32) (p0 : Int32) (sz : Nat)  : Met l yX1_value wsX1_value ({ frames := 1, cells := 0, slots := 0, locals := 40 }) (va_Pc [.ref h, .int p0] (fun U => U.heap.size = sz ∧ va_P (dC, dI) vwCl [zO h th q1 (nI ts) (nI cn) q2 q3 q4 (nI lv) q5 (nI an) md q6 q7, (q1, .inl (k1, 18, .inl f1)), (q2, .inl (k2, 7200, .inl f2)), (q3, .inl (k3, 400, .inl f3)), (q4, .inl (k4, 400, .inl f4)), (q5, .inl (k5, 18, .inl f5)), (q6, .inl (k6, 4096, .inr (.inl f6))), (q7, .inl (k7, 6, .inr (.inl f7)))] U.heap ∧ va_K (dC, dI) vwCl [(k1, .int), (k2, .int), (k3, .int), (k4, .int), (k5, .int), (k6, .long), (k7, .long)] U ∧ va_D (fun _ => True) [zO h th q1 (nI ts) (nI cn) q2 q3 q4 (nI lv) q5 (nI an) md q6 q7, (q1, .inl (k1, 18, .inl f1)), (q2, .inl (k2, 7200, .inl f2)), (q3, .inl (k3, 400, .inl f3)), (q4, .inl (k4, 400, .inl f4)), (q5, .inl (k5, 18, .inl f5)), (q6, .inl (k6, 4096, .inr (.inl f6))), (q7, .inl (k7, 6, .inr (.inl f7)))])) (va_Qi (fun (r : Int32) (u : Int32) => ((p0 < 1 ∨ 18 < p0) ∧ u = 1) ∨ (¬ (p0 < 1 ∨ 18 < p0) ∧ md < 0 ∧ u = 2) ∨ (¬ (p0 < 1 ∨ 18 < p0) ∧ ¬ md < 0 ∧ u = 0 ∧ r = (md >>> ((p0 - 1) &&& 31)) &&& 1)) (fun (u : Int32) (t : State) => va_P (dC, dI) vwCl [zO h u q1 (nI ts) (nI cn) q2 q3 q4 (nI lv) q5 (nI an) md q6 q7, (q1, .inl (k1, 18, .inl f1)), (q2, .inl (k2, 7200, .inl f2)), (q3, .inl (k3, 400, .inl f3)), (q4, .inl (k4, 400, .inl f4)), (q5, .inl (k5, 18, .inl f5)), (q6, .inl (k6, 4096, .inr (.inl f6))), (q7, .inl (k7, 6, .inr (.inl f7)))] t.heap ∧ va_K (dC, dI) vwCl [(k1, .int), (k2, .int), (k3, .int), (k4, .int), (k5, .int), (k6, .long), (k7, .long)] t ∧ va_D (va_A [zO h th q1 (nI ts) (nI cn) q2 q3 q4 (nI lv) q5 (nI an) md q6 q7, (q1, .inl (k1, 18, .inl f1)), (q2, .inl (k2, 7200, .inl f2)), (q3, .inl (k3, 400, .inl f3)), (q4, .inl (k4, 400, .inl f4)), (q5, .inl (k5, 18, .inl f5)), (q6, .inl (k6, 4096, .inr (.inl f6))), (q7, .inl (k7, 6, .inr (.inl f7)))] sz) [zO h u q1 (nI ts) (nI cn) q2 q3 q4 (nI lv) q5 (nI an) md q6 q7, (q1, .inl (k1, 18, .inl f1)), (q2, .inl (k2, 7200, .inl f2)), (q3, .inl (k3, 400, .inl f3)), (q4, .inl (k4, 400, .inl f4)), (q5, .inl (k5, 18, .inl f5)), (q6, .inl (k6, 4096, .inr (.inl f6))), (q7, .inl (k7, 6, .inr (.inl f7)))]) (va_A [zO h th q1 (nI ts) (nI cn) q2 q3 q4 (nI lv) q5 (nI an) md q6 q7, (q1, .inl (k1, 18, .inl f1)), (q2, .inl (k2, 7200, .inl f2)), (q3, .inl (k3, 400, .inl f3)), (q4, .inl (k4, 400, .inl f4)), (q5, .inl (k5, 18, .inl f5)), (q6, .inl (k6, 4096, .inr (.inl f6))), (q7, .inl (k7, 6, .inr (.inl f7)))] sz)) 0 0 (va_A [zO h th q1 (nI ts) (nI cn) q2 q3 q4 (nI lv) q5 (nI an) md q6 q7, (q1, .inl (k1, 18, .inl f1)), (q2, .inl (k2, 7200, .inl f2)), (q3, .inl (k3, 400, .inl f3)), (q4, .inl (k4, 400, .inl f4)), (q5, .inl (k5, 18, .inl f5)), (q6, .inl (k6, 4096, .inr (.inl f6))), (q7, .inl (k7, 6, .inr (.inl f7)))] sz) := by
  refine Met.ofW (cc := cX1_value) (maxL := 2) (ret := (some .int)) (by decide) rfl ?_
  intro p e s m args below meth c s₁ B hml hv
  obtain ⟨rfl, hsz, hP, hK, hD0⟩ := hv
  have hx := B.exec
  have hb := B.bytes
  have hr := B.returns
  have hts := atoms_spec (ws := wsX1_value) B.pre
  have htA : ∀ w ∈ wsA, w.before _ s = true := fun w h => hts w (List.mem_cons_of_mem _ h)
  have hown : s.vm.findClass RX1 = some m.cls := findClass_of_methodNamed B.named
  have hlocks := B.notSynchronized
  subst hsz
  have hD := hD0.self (sz := s.heap.size)
  generalize hAe : va_A [zO h th q1 (nI ts) (nI cn) q2 q3 q4 (nI lv) q5 (nI an) md q6 q7, (q1, .inl (k1, 18, .inl f1)), (q2, .inl (k2, 7200, .inl f2)), (q3, .inl (k3, 400, .inl f3)), (q4, .inl (k4, 400, .inl f4)), (q5, .inl (k5, 18, .inl f5)), (q6, .inl (k6, 4096, .inr (.inl f6))), (q7, .inl (k7, 6, .inr (.inl f7)))] s.heap.size = A at hD ⊢
  have hA : ∀ q : Nat, s.heap.size ≤ q → A q := fun q h => by rw [← hAe]; exact Or.inr h
  have hS : va_S A s.heap s.heap [] := va_S.rf
  have hP : va_P (dC, dI) vwCl [zO h th q1 (nI ts) (nI cn) q2 q3 q4 (nI lv) q5 (nI an) md q6 q7, (q1, .inl (k1, 18, .inl f1)), (q2, .inl (k2, 7200, .inl f2)), (q3, .inl (k3, 400, .inl f3)), (q4, .inl (k4, 400, .inl f4)), (q5, .inl (k5, 18, .inl f5)), (q6, .inl (k6, 4096, .inr (.inl f6))), (q7, .inl (k7, 6, .inr (.inl f7)))] s.heap := hP
  have hl := lv_entry ([.ref h, .int p0]) (n := 2) (Nat.le_of_ble_eq_true rfl)
  rw [lg_entry_eq]
  generalize (lg_sl ([.ref h, .int p0]) ++ List.replicate (2 - (lg_sl ([.ref h, .int p0])).length) Slot.unset).toArray = ls at hl ⊢
  have hl : lv_has ls 2 [(0, .ref h), (1, .int p0)] := hl
  refine lv_aload_n hx hb dX1_value_0 rfl (lv_at hl 0 rfl) ?_
  refine lv_iload_n hx hb dX1_value_1 rfl (lv_at hl 1 rfl) ?_
  refine lv_iconst (v := 1) hx hb dX1_value_2 (by decide) ?_
  refine lv_icmp_lt (tgt := 12) hx hb dX1_value_3 (by decide) (fun cb_90 => ?_) (fun cb_90 => ?_)
  · refine lv_iconst (v := 1) hx hb dX1_value_12 (by decide) ?_
    refine lv_goto (tgt := 17) hx hb dX1_value_13 (by decide) ?_
    refine lv_aload_n hx hb dX1_value_17 rfl (lv_at hl 0 rfl) ?_
    refine va_get (D := (dC, dI)) (ci := 1) (v := .int md) (C := RX1) (T := TX1) (N := 13) hx hb htA inX1 hown hK hP 0 rfl rfl 10 (by decide) (htA _ lkX1_25) (fun _ h9 => h9) rfl dX1_value_18 ?_
    refine lv_if_ge (tgt := 28) hx hb dX1_value_21 (by decide) (fun cb_91 => ?_) (fun cb_91 => ?_)
    · have hm : ¬ md < 0 := Int32.not_lt.mpr cb_91
      refine lv_iconst (v := 0) hx hb dX1_value_28 (by decide) ?_
      have hPc := hP.sub (ws' := [zO h th q1 (nI ts) (nI cn) q2 q3 q4 (nI lv) q5 (nI an) md q6 q7]) [0] rfl
      have hDc := hD.sub (ws' := [zO h th q1 (nI ts) (nI cn) q2 q3 q4 (nI lv) q5 (nI an) md q6 q7]) [0] (by decide) rfl
      have hKc := hK.sub (tys' := []) [] rfl
      have hFc := va_free (wc := [zO h th q1 (nI ts) (nI cn) q2 q3 q4 (nI lv) q5 (nI an) md q6 q7]) hD hS hA [0] rfl
      refine va_calli (va_runV (As := [.int 1, .int 0]) (rest := []) ⟨hx, hb, hml, hown, htA⟩ (r_throwing l dC dI h q1 q2 q3 q4 q5 q6 q7   th (nI ts) (nI cn) (nI lv) (nI an) md 1 0 s.heap.size) (cwV 2 htA gX1_80 rfl rfl rfl (by decide +kernel) ⟨Nat.le_of_ble_eq_true rfl, Nat.le_of_ble_eq_true rfl⟩) ⟨fun a U g mk q => by obtain ⟨q0, q1, qP, qK, qD⟩ := q; exact ⟨q0, q1, qP, va_K.moved (u := U) (U := U.calling g mk a) (Vm.Alike.refl U.vm) qK, qD⟩, va_recv hKc hPc (ci := 1) (q0 := 0) rfl rfl, fun U hU hW => ⟨rfl, by rw [hU], by rw [hU]; exact hPc, va_K.moved hW.alike hKc, hDc.weaken (fun _ _ _ _ => trivial)⟩⟩ rfl rfl hl.1 rfl (lv_room (Nat.le_of_ble_eq_true rfl)) dX1_value_29 ⟨Nat.zero_le _, Nat.zero_le _⟩) hS (fun q _ h => hFc q h) hFc (fun rth u t H1 locs ht hvm hw hB hz1 hk1 hS => ?_)
      obtain ⟨hP1, hK1, hD1⟩ := hB
      rw [ht] at hP1
      try dsimp only at hw hP1 hD1
      obtain ⟨hP, hD⟩ := va_join (wr := [(q1, .inl (k1, 18, .inl f1)), (q2, .inl (k2, 7200, .inl f2)), (q3, .inl (k3, 400, .inl f3)), (q4, .inl (k4, 400, .inl f4)), (q5, .inl (k5, 18, .inl f5)), (q6, .inl (k6, 4096, .inr (.inl f6))), (q7, .inl (k7, 6, .inr (.inl f7)))]) (w1 := [zO h u q1 (nI ts) (nI cn) q2 q3 q4 (nI lv) q5 (nI an) md q6 q7]) hP hD [0] [1, 2, 3, 4, 5, 6, 7] rfl rfl (by decide) (by decide) hk1 hFc hP1 hD1
      generalize H1 = H at hP hS ⊢
      have hP : va_P (dC, dI) vwCl [zO h u q1 (nI ts) (nI cn) q2 q3 q4 (nI lv) q5 (nI an) md q6 q7, (q1, .inl (k1, 18, .inl f1)), (q2, .inl (k2, 7200, .inl f2)), (q3, .inl (k3, 400, .inl f3)), (q4, .inl (k4, 400, .inl f4)), (q5, .inl (k5, 18, .inl f5)), (q6, .inl (k6, 4096, .inr (.inl f6))), (q7, .inl (k7, 6, .inr (.inl f7)))] H := hP.sub [7, 0, 1, 2, 3, 4, 5, 6] rfl
      have hD : va_D A [zO h u q1 (nI ts) (nI cn) q2 q3 q4 (nI lv) q5 (nI an) md q6 q7, (q1, .inl (k1, 18, .inl f1)), (q2, .inl (k2, 7200, .inl f2)), (q3, .inl (k3, 400, .inl f3)), (q4, .inl (k4, 400, .inl f4)), (q5, .inl (k5, 18, .inl f5)), (q6, .inl (k6, 4096, .inr (.inl f6))), (q7, .inl (k7, 6, .inr (.inl f7)))] := hD.sub [7, 0, 1, 2, 3, 4, 5, 6] (by decide) rfl
      obtain ⟨hu9, hr9⟩ : u = 1 ∧ rth = 1 := by
        rcases hw with h | h | h
        · exact h.2
        · exact absurd h.1 (by decide)
        · exact absurd h.1 (by decide)
      subst hu9
      subst hr9
      refine lv_if_eq (tgt := 37) hx hb dX1_value_32 (by decide) (fun cb_93 => ?_) (fun cb_93 => ?_)
      · exact absurd cb_93 (by decide)
      · refine lv_iconst (v := 0) hx hb dX1_value_35 (by decide) ?_
        exact W.iret (v := 0) hx hb hr (fun t ht hW => ⟨⟨0, 1, rfl, Or.inl ⟨Or.inl cb_90, rfl⟩, by rw [ht]; exact hP, va_K.moved hW.alike hK, hD⟩, hS.F ht⟩) hS.2.2 dX1_value_36
    · have hm : md < 0 := Int32.not_le.mp cb_91
      refine lv_iconst (v := 1) hx hb dX1_value_24 (by decide) ?_
      refine lv_goto (tgt := 29) hx hb dX1_value_25 (by decide) ?_
      have hPc := hP.sub (ws' := [zO h th q1 (nI ts) (nI cn) q2 q3 q4 (nI lv) q5 (nI an) md q6 q7]) [0] rfl
      have hDc := hD.sub (ws' := [zO h th q1 (nI ts) (nI cn) q2 q3 q4 (nI lv) q5 (nI an) md q6 q7]) [0] (by decide) rfl
      have hKc := hK.sub (tys' := []) [] rfl
      have hFc := va_free (wc := [zO h th q1 (nI ts) (nI cn) q2 q3 q4 (nI lv) q5 (nI an) md q6 q7]) hD hS hA [0] rfl
      refine va_calli (va_runV (As := [.int 1, .int 1]) (rest := []) ⟨hx, hb, hml, hown, htA⟩ (r_throwing l dC dI h q1 q2 q3 q4 q5 q6 q7   th (nI ts) (nI cn) (nI lv) (nI an) md 1 1 s.heap.size) (cwV 2 htA gX1_80 rfl rfl rfl (by decide +kernel) ⟨Nat.le_of_ble_eq_true rfl, Nat.le_of_ble_eq_true rfl⟩) ⟨fun a U g mk q => by obtain ⟨q0, q1, qP, qK, qD⟩ := q; exact ⟨q0, q1, qP, va_K.moved (u := U) (U := U.calling g mk a) (Vm.Alike.refl U.vm) qK, qD⟩, va_recv hKc hPc (ci := 1) (q0 := 0) rfl rfl, fun U hU hW => ⟨rfl, by rw [hU], by rw [hU]; exact hPc, va_K.moved hW.alike hKc, hDc.weaken (fun _ _ _ _ => trivial)⟩⟩ rfl rfl hl.1 rfl (lv_room (Nat.le_of_ble_eq_true rfl)) dX1_value_29 ⟨Nat.zero_le _, Nat.zero_le _⟩) hS (fun q _ h => hFc q h) hFc (fun rth u t H1 locs ht hvm hw hB hz1 hk1 hS => ?_)
      obtain ⟨hP1, hK1, hD1⟩ := hB
      rw [ht] at hP1
      try dsimp only at hw hP1 hD1
      obtain ⟨hP, hD⟩ := va_join (wr := [(q1, .inl (k1, 18, .inl f1)), (q2, .inl (k2, 7200, .inl f2)), (q3, .inl (k3, 400, .inl f3)), (q4, .inl (k4, 400, .inl f4)), (q5, .inl (k5, 18, .inl f5)), (q6, .inl (k6, 4096, .inr (.inl f6))), (q7, .inl (k7, 6, .inr (.inl f7)))]) (w1 := [zO h u q1 (nI ts) (nI cn) q2 q3 q4 (nI lv) q5 (nI an) md q6 q7]) hP hD [0] [1, 2, 3, 4, 5, 6, 7] rfl rfl (by decide) (by decide) hk1 hFc hP1 hD1
      generalize H1 = H at hP hS ⊢
      have hP : va_P (dC, dI) vwCl [zO h u q1 (nI ts) (nI cn) q2 q3 q4 (nI lv) q5 (nI an) md q6 q7, (q1, .inl (k1, 18, .inl f1)), (q2, .inl (k2, 7200, .inl f2)), (q3, .inl (k3, 400, .inl f3)), (q4, .inl (k4, 400, .inl f4)), (q5, .inl (k5, 18, .inl f5)), (q6, .inl (k6, 4096, .inr (.inl f6))), (q7, .inl (k7, 6, .inr (.inl f7)))] H := hP.sub [7, 0, 1, 2, 3, 4, 5, 6] rfl
      have hD : va_D A [zO h u q1 (nI ts) (nI cn) q2 q3 q4 (nI lv) q5 (nI an) md q6 q7, (q1, .inl (k1, 18, .inl f1)), (q2, .inl (k2, 7200, .inl f2)), (q3, .inl (k3, 400, .inl f3)), (q4, .inl (k4, 400, .inl f4)), (q5, .inl (k5, 18, .inl f5)), (q6, .inl (k6, 4096, .inr (.inl f6))), (q7, .inl (k7, 6, .inr (.inl f7)))] := hD.sub [7, 0, 1, 2, 3, 4, 5, 6] (by decide) rfl
      obtain ⟨hu9, hr9⟩ : u = 1 ∧ rth = 1 := by
        rcases hw with h | h | h
        · exact h.2
        · exact absurd h.1 (by decide)
        · exact absurd h.1 (by decide)
      subst hu9
      subst hr9
      refine lv_if_eq (tgt := 37) hx hb dX1_value_32 (by decide) (fun cb_92 => ?_) (fun cb_92 => ?_)
      · exact absurd cb_92 (by decide)
      · refine lv_iconst (v := 0) hx hb dX1_value_35 (by decide) ?_
        exact W.iret (v := 0) hx hb hr (fun t ht hW => ⟨⟨0, 1, rfl, Or.inl ⟨Or.inl cb_90, rfl⟩, by rw [ht]; exact hP, va_K.moved hW.alike hK, hD⟩, hS.F ht⟩) hS.2.2 dX1_value_36
  · refine lv_iload_n hx hb dX1_value_6 rfl (lv_at hl 1 rfl) ?_
    refine lv_bipush (v := 18) hx hb dX1_value_7 (by decide) ?_
    refine lv_icmp_le (tgt := 16) hx hb dX1_value_9 (by decide) (fun cb_94 => ?_) (fun cb_94 => ?_)
    · have hok : ¬ (p0 < 1 ∨ 18 < p0) := fun q => q.elim cb_90 (fun z => absurd cb_94 (Int32.not_le.mpr z))
      refine lv_iconst (v := 0) hx hb dX1_value_16 (by decide) ?_
      refine lv_aload_n hx hb dX1_value_17 rfl (lv_at hl 0 rfl) ?_
      refine va_get (D := (dC, dI)) (ci := 1) (v := .int md) (C := RX1) (T := TX1) (N := 13) hx hb htA inX1 hown hK hP 0 rfl rfl 10 (by decide) (htA _ lkX1_25) (fun _ h9 => h9) rfl dX1_value_18 ?_
      refine lv_if_ge (tgt := 28) hx hb dX1_value_21 (by decide) (fun cb_98 => ?_) (fun cb_98 => ?_)
      · have hm : ¬ md < 0 := Int32.not_lt.mpr cb_98
        refine lv_iconst (v := 0) hx hb dX1_value_28 (by decide) ?_
        have hPc := hP.sub (ws' := [zO h th q1 (nI ts) (nI cn) q2 q3 q4 (nI lv) q5 (nI an) md q6 q7]) [0] rfl
        have hDc := hD.sub (ws' := [zO h th q1 (nI ts) (nI cn) q2 q3 q4 (nI lv) q5 (nI an) md q6 q7]) [0] (by decide) rfl
        have hKc := hK.sub (tys' := []) [] rfl
        have hFc := va_free (wc := [zO h th q1 (nI ts) (nI cn) q2 q3 q4 (nI lv) q5 (nI an) md q6 q7]) hD hS hA [0] rfl
        refine va_calli (va_runV (As := [.int 0, .int 0]) (rest := []) ⟨hx, hb, hml, hown, htA⟩ (r_throwing l dC dI h q1 q2 q3 q4 q5 q6 q7   th (nI ts) (nI cn) (nI lv) (nI an) md 0 0 s.heap.size) (cwV 2 htA gX1_80 rfl rfl rfl (by decide +kernel) ⟨Nat.le_of_ble_eq_true rfl, Nat.le_of_ble_eq_true rfl⟩) ⟨fun a U g mk q => by obtain ⟨q0, q1, qP, qK, qD⟩ := q; exact ⟨q0, q1, qP, va_K.moved (u := U) (U := U.calling g mk a) (Vm.Alike.refl U.vm) qK, qD⟩, va_recv hKc hPc (ci := 1) (q0 := 0) rfl rfl, fun U hU hW => ⟨rfl, by rw [hU], by rw [hU]; exact hPc, va_K.moved hW.alike hKc, hDc.weaken (fun _ _ _ _ => trivial)⟩⟩ rfl rfl hl.1 rfl (lv_room (Nat.le_of_ble_eq_true rfl)) dX1_value_29 ⟨Nat.zero_le _, Nat.zero_le _⟩) hS (fun q _ h => hFc q h) hFc (fun rth u t H1 locs ht hvm hw hB hz1 hk1 hS => ?_)
        obtain ⟨hP1, hK1, hD1⟩ := hB
        rw [ht] at hP1
        try dsimp only at hw hP1 hD1
        obtain ⟨hP, hD⟩ := va_join (wr := [(q1, .inl (k1, 18, .inl f1)), (q2, .inl (k2, 7200, .inl f2)), (q3, .inl (k3, 400, .inl f3)), (q4, .inl (k4, 400, .inl f4)), (q5, .inl (k5, 18, .inl f5)), (q6, .inl (k6, 4096, .inr (.inl f6))), (q7, .inl (k7, 6, .inr (.inl f7)))]) (w1 := [zO h u q1 (nI ts) (nI cn) q2 q3 q4 (nI lv) q5 (nI an) md q6 q7]) hP hD [0] [1, 2, 3, 4, 5, 6, 7] rfl rfl (by decide) (by decide) hk1 hFc hP1 hD1
        generalize H1 = H at hP hS ⊢
        have hP : va_P (dC, dI) vwCl [zO h u q1 (nI ts) (nI cn) q2 q3 q4 (nI lv) q5 (nI an) md q6 q7, (q1, .inl (k1, 18, .inl f1)), (q2, .inl (k2, 7200, .inl f2)), (q3, .inl (k3, 400, .inl f3)), (q4, .inl (k4, 400, .inl f4)), (q5, .inl (k5, 18, .inl f5)), (q6, .inl (k6, 4096, .inr (.inl f6))), (q7, .inl (k7, 6, .inr (.inl f7)))] H := hP.sub [7, 0, 1, 2, 3, 4, 5, 6] rfl
        have hD : va_D A [zO h u q1 (nI ts) (nI cn) q2 q3 q4 (nI lv) q5 (nI an) md q6 q7, (q1, .inl (k1, 18, .inl f1)), (q2, .inl (k2, 7200, .inl f2)), (q3, .inl (k3, 400, .inl f3)), (q4, .inl (k4, 400, .inl f4)), (q5, .inl (k5, 18, .inl f5)), (q6, .inl (k6, 4096, .inr (.inl f6))), (q7, .inl (k7, 6, .inr (.inl f7)))] := hD.sub [7, 0, 1, 2, 3, 4, 5, 6] (by decide) rfl
        obtain ⟨hu9, hr9⟩ : u = 0 ∧ rth = 0 := by
          rcases hw with h | h | h
          · exact absurd rfl h.1
          · exact absurd rfl h.2.1
          · exact h.2.2
        subst hu9
        subst hr9
        refine lv_if_eq (tgt := 37) hx hb dX1_value_32 (by decide) (fun cb_100 => ?_) (fun cb_100 => ?_)
        · refine lv_aload_n hx hb dX1_value_37 rfl (lv_at hl 0 rfl) ?_
          refine va_get (D := (dC, dI)) (ci := 1) (v := .int md) (C := RX1) (T := TX1) (N := 13) hx hb htA inX1 hown hK hP 0 rfl rfl 10 (by decide) (htA _ lkX1_25) (fun _ h9 => h9) rfl dX1_value_38 ?_
          refine lv_iload_n hx hb dX1_value_41 rfl (lv_at hl 1 rfl) ?_
          refine lv_iconst (v := 1) hx hb dX1_value_42 (by decide) ?_
          refine lv_isub hx hb dX1_value_43 ?_
          refine lv_ishr hx hb dX1_value_44 ?_
          refine lv_iconst (v := 1) hx hb dX1_value_45 (by decide) ?_
          refine lv_iand hx hb dX1_value_46 ?_
          exact W.iret (v := (md >>> ((p0 - 1) &&& 31)) &&& 1) hx hb hr (fun t ht hW => ⟨⟨(md >>> ((p0 - 1) &&& 31)) &&& 1, 0, rfl, Or.inr (Or.inr ⟨hok, hm, rfl, rfl⟩), by rw [ht]; exact hP, va_K.moved hW.alike hK, hD⟩, hS.F ht⟩) hS.2.2 dX1_value_47
        · exact absurd rfl cb_100
      · have hm : md < 0 := Int32.not_le.mp cb_98
        refine lv_iconst (v := 1) hx hb dX1_value_24 (by decide) ?_
        refine lv_goto (tgt := 29) hx hb dX1_value_25 (by decide) ?_
        have hPc := hP.sub (ws' := [zO h th q1 (nI ts) (nI cn) q2 q3 q4 (nI lv) q5 (nI an) md q6 q7]) [0] rfl
        have hDc := hD.sub (ws' := [zO h th q1 (nI ts) (nI cn) q2 q3 q4 (nI lv) q5 (nI an) md q6 q7]) [0] (by decide) rfl
        have hKc := hK.sub (tys' := []) [] rfl
        have hFc := va_free (wc := [zO h th q1 (nI ts) (nI cn) q2 q3 q4 (nI lv) q5 (nI an) md q6 q7]) hD hS hA [0] rfl
        refine va_calli (va_runV (As := [.int 0, .int 1]) (rest := []) ⟨hx, hb, hml, hown, htA⟩ (r_throwing l dC dI h q1 q2 q3 q4 q5 q6 q7   th (nI ts) (nI cn) (nI lv) (nI an) md 0 1 s.heap.size) (cwV 2 htA gX1_80 rfl rfl rfl (by decide +kernel) ⟨Nat.le_of_ble_eq_true rfl, Nat.le_of_ble_eq_true rfl⟩) ⟨fun a U g mk q => by obtain ⟨q0, q1, qP, qK, qD⟩ := q; exact ⟨q0, q1, qP, va_K.moved (u := U) (U := U.calling g mk a) (Vm.Alike.refl U.vm) qK, qD⟩, va_recv hKc hPc (ci := 1) (q0 := 0) rfl rfl, fun U hU hW => ⟨rfl, by rw [hU], by rw [hU]; exact hPc, va_K.moved hW.alike hKc, hDc.weaken (fun _ _ _ _ => trivial)⟩⟩ rfl rfl hl.1 rfl (lv_room (Nat.le_of_ble_eq_true rfl)) dX1_value_29 ⟨Nat.zero_le _, Nat.zero_le _⟩) hS (fun q _ h => hFc q h) hFc (fun rth u t H1 locs ht hvm hw hB hz1 hk1 hS => ?_)
        obtain ⟨hP1, hK1, hD1⟩ := hB
        rw [ht] at hP1
        try dsimp only at hw hP1 hD1
        obtain ⟨hP, hD⟩ := va_join (wr := [(q1, .inl (k1, 18, .inl f1)), (q2, .inl (k2, 7200, .inl f2)), (q3, .inl (k3, 400, .inl f3)), (q4, .inl (k4, 400, .inl f4)), (q5, .inl (k5, 18, .inl f5)), (q6, .inl (k6, 4096, .inr (.inl f6))), (q7, .inl (k7, 6, .inr (.inl f7)))]) (w1 := [zO h u q1 (nI ts) (nI cn) q2 q3 q4 (nI lv) q5 (nI an) md q6 q7]) hP hD [0] [1, 2, 3, 4, 5, 6, 7] rfl rfl (by decide) (by decide) hk1 hFc hP1 hD1
        generalize H1 = H at hP hS ⊢
        have hP : va_P (dC, dI) vwCl [zO h u q1 (nI ts) (nI cn) q2 q3 q4 (nI lv) q5 (nI an) md q6 q7, (q1, .inl (k1, 18, .inl f1)), (q2, .inl (k2, 7200, .inl f2)), (q3, .inl (k3, 400, .inl f3)), (q4, .inl (k4, 400, .inl f4)), (q5, .inl (k5, 18, .inl f5)), (q6, .inl (k6, 4096, .inr (.inl f6))), (q7, .inl (k7, 6, .inr (.inl f7)))] H := hP.sub [7, 0, 1, 2, 3, 4, 5, 6] rfl
        have hD : va_D A [zO h u q1 (nI ts) (nI cn) q2 q3 q4 (nI lv) q5 (nI an) md q6 q7, (q1, .inl (k1, 18, .inl f1)), (q2, .inl (k2, 7200, .inl f2)), (q3, .inl (k3, 400, .inl f3)), (q4, .inl (k4, 400, .inl f4)), (q5, .inl (k5, 18, .inl f5)), (q6, .inl (k6, 4096, .inr (.inl f6))), (q7, .inl (k7, 6, .inr (.inl f7)))] := hD.sub [7, 0, 1, 2, 3, 4, 5, 6] (by decide) rfl
        obtain ⟨hu9, hr9⟩ : u = 2 ∧ rth = 1 := by
          rcases hw with h | h | h
          · exact absurd rfl h.1
          · exact h.2.2
          · exact absurd h.2.1 (by decide)
        subst hu9
        subst hr9
        refine lv_if_eq (tgt := 37) hx hb dX1_value_32 (by decide) (fun cb_99 => ?_) (fun cb_99 => ?_)
        · exact absurd cb_99 (by decide)
        · refine lv_iconst (v := 0) hx hb dX1_value_35 (by decide) ?_
          exact W.iret (v := 0) hx hb hr (fun t ht hW => ⟨⟨0, 2, rfl, Or.inr (Or.inl ⟨hok, hm, rfl⟩), by rw [ht]; exact hP, va_K.moved hW.alike hK, hD⟩, hS.F ht⟩) hS.2.2 dX1_value_36
    · refine lv_iconst (v := 1) hx hb dX1_value_12 (by decide) ?_
      refine lv_goto (tgt := 17) hx hb dX1_value_13 (by decide) ?_
      refine lv_aload_n hx hb dX1_value_17 rfl (lv_at hl 0 rfl) ?_
      refine va_get (D := (dC, dI)) (ci := 1) (v := .int md) (C := RX1) (T := TX1) (N := 13) hx hb htA inX1 hown hK hP 0 rfl rfl 10 (by decide) (htA _ lkX1_25) (fun _ h9 => h9) rfl dX1_value_18 ?_
      refine lv_if_ge (tgt := 28) hx hb dX1_value_21 (by decide) (fun cb_95 => ?_) (fun cb_95 => ?_)
      · have hm : ¬ md < 0 := Int32.not_lt.mpr cb_95
        refine lv_iconst (v := 0) hx hb dX1_value_28 (by decide) ?_
        have hPc := hP.sub (ws' := [zO h th q1 (nI ts) (nI cn) q2 q3 q4 (nI lv) q5 (nI an) md q6 q7]) [0] rfl
        have hDc := hD.sub (ws' := [zO h th q1 (nI ts) (nI cn) q2 q3 q4 (nI lv) q5 (nI an) md q6 q7]) [0] (by decide) rfl
        have hKc := hK.sub (tys' := []) [] rfl
        have hFc := va_free (wc := [zO h th q1 (nI ts) (nI cn) q2 q3 q4 (nI lv) q5 (nI an) md q6 q7]) hD hS hA [0] rfl
        refine va_calli (va_runV (As := [.int 1, .int 0]) (rest := []) ⟨hx, hb, hml, hown, htA⟩ (r_throwing l dC dI h q1 q2 q3 q4 q5 q6 q7   th (nI ts) (nI cn) (nI lv) (nI an) md 1 0 s.heap.size) (cwV 2 htA gX1_80 rfl rfl rfl (by decide +kernel) ⟨Nat.le_of_ble_eq_true rfl, Nat.le_of_ble_eq_true rfl⟩) ⟨fun a U g mk q => by obtain ⟨q0, q1, qP, qK, qD⟩ := q; exact ⟨q0, q1, qP, va_K.moved (u := U) (U := U.calling g mk a) (Vm.Alike.refl U.vm) qK, qD⟩, va_recv hKc hPc (ci := 1) (q0 := 0) rfl rfl, fun U hU hW => ⟨rfl, by rw [hU], by rw [hU]; exact hPc, va_K.moved hW.alike hKc, hDc.weaken (fun _ _ _ _ => trivial)⟩⟩ rfl rfl hl.1 rfl (lv_room (Nat.le_of_ble_eq_true rfl)) dX1_value_29 ⟨Nat.zero_le _, Nat.zero_le _⟩) hS (fun q _ h => hFc q h) hFc (fun rth u t H1 locs ht hvm hw hB hz1 hk1 hS => ?_)
        obtain ⟨hP1, hK1, hD1⟩ := hB
        rw [ht] at hP1
        try dsimp only at hw hP1 hD1
        obtain ⟨hP, hD⟩ := va_join (wr := [(q1, .inl (k1, 18, .inl f1)), (q2, .inl (k2, 7200, .inl f2)), (q3, .inl (k3, 400, .inl f3)), (q4, .inl (k4, 400, .inl f4)), (q5, .inl (k5, 18, .inl f5)), (q6, .inl (k6, 4096, .inr (.inl f6))), (q7, .inl (k7, 6, .inr (.inl f7)))]) (w1 := [zO h u q1 (nI ts) (nI cn) q2 q3 q4 (nI lv) q5 (nI an) md q6 q7]) hP hD [0] [1, 2, 3, 4, 5, 6, 7] rfl rfl (by decide) (by decide) hk1 hFc hP1 hD1
        generalize H1 = H at hP hS ⊢
        have hP : va_P (dC, dI) vwCl [zO h u q1 (nI ts) (nI cn) q2 q3 q4 (nI lv) q5 (nI an) md q6 q7, (q1, .inl (k1, 18, .inl f1)), (q2, .inl (k2, 7200, .inl f2)), (q3, .inl (k3, 400, .inl f3)), (q4, .inl (k4, 400, .inl f4)), (q5, .inl (k5, 18, .inl f5)), (q6, .inl (k6, 4096, .inr (.inl f6))), (q7, .inl (k7, 6, .inr (.inl f7)))] H := hP.sub [7, 0, 1, 2, 3, 4, 5, 6] rfl
        have hD : va_D A [zO h u q1 (nI ts) (nI cn) q2 q3 q4 (nI lv) q5 (nI an) md q6 q7, (q1, .inl (k1, 18, .inl f1)), (q2, .inl (k2, 7200, .inl f2)), (q3, .inl (k3, 400, .inl f3)), (q4, .inl (k4, 400, .inl f4)), (q5, .inl (k5, 18, .inl f5)), (q6, .inl (k6, 4096, .inr (.inl f6))), (q7, .inl (k7, 6, .inr (.inl f7)))] := hD.sub [7, 0, 1, 2, 3, 4, 5, 6] (by decide) rfl
        obtain ⟨hu9, hr9⟩ : u = 1 ∧ rth = 1 := by
          rcases hw with h | h | h
          · exact h.2
          · exact absurd h.1 (by decide)
          · exact absurd h.1 (by decide)
        subst hu9
        subst hr9
        refine lv_if_eq (tgt := 37) hx hb dX1_value_32 (by decide) (fun cb_97 => ?_) (fun cb_97 => ?_)
        · exact absurd cb_97 (by decide)
        · refine lv_iconst (v := 0) hx hb dX1_value_35 (by decide) ?_
          exact W.iret (v := 0) hx hb hr (fun t ht hW => ⟨⟨0, 1, rfl, Or.inl ⟨Or.inr (Int32.not_le.mp cb_94), rfl⟩, by rw [ht]; exact hP, va_K.moved hW.alike hK, hD⟩, hS.F ht⟩) hS.2.2 dX1_value_36
      · have hm : md < 0 := Int32.not_le.mp cb_95
        refine lv_iconst (v := 1) hx hb dX1_value_24 (by decide) ?_
        refine lv_goto (tgt := 29) hx hb dX1_value_25 (by decide) ?_
        have hPc := hP.sub (ws' := [zO h th q1 (nI ts) (nI cn) q2 q3 q4 (nI lv) q5 (nI an) md q6 q7]) [0] rfl
        have hDc := hD.sub (ws' := [zO h th q1 (nI ts) (nI cn) q2 q3 q4 (nI lv) q5 (nI an) md q6 q7]) [0] (by decide) rfl
        have hKc := hK.sub (tys' := []) [] rfl
        have hFc := va_free (wc := [zO h th q1 (nI ts) (nI cn) q2 q3 q4 (nI lv) q5 (nI an) md q6 q7]) hD hS hA [0] rfl
        refine va_calli (va_runV (As := [.int 1, .int 1]) (rest := []) ⟨hx, hb, hml, hown, htA⟩ (r_throwing l dC dI h q1 q2 q3 q4 q5 q6 q7   th (nI ts) (nI cn) (nI lv) (nI an) md 1 1 s.heap.size) (cwV 2 htA gX1_80 rfl rfl rfl (by decide +kernel) ⟨Nat.le_of_ble_eq_true rfl, Nat.le_of_ble_eq_true rfl⟩) ⟨fun a U g mk q => by obtain ⟨q0, q1, qP, qK, qD⟩ := q; exact ⟨q0, q1, qP, va_K.moved (u := U) (U := U.calling g mk a) (Vm.Alike.refl U.vm) qK, qD⟩, va_recv hKc hPc (ci := 1) (q0 := 0) rfl rfl, fun U hU hW => ⟨rfl, by rw [hU], by rw [hU]; exact hPc, va_K.moved hW.alike hKc, hDc.weaken (fun _ _ _ _ => trivial)⟩⟩ rfl rfl hl.1 rfl (lv_room (Nat.le_of_ble_eq_true rfl)) dX1_value_29 ⟨Nat.zero_le _, Nat.zero_le _⟩) hS (fun q _ h => hFc q h) hFc (fun rth u t H1 locs ht hvm hw hB hz1 hk1 hS => ?_)
        obtain ⟨hP1, hK1, hD1⟩ := hB
        rw [ht] at hP1
        try dsimp only at hw hP1 hD1
        obtain ⟨hP, hD⟩ := va_join (wr := [(q1, .inl (k1, 18, .inl f1)), (q2, .inl (k2, 7200, .inl f2)), (q3, .inl (k3, 400, .inl f3)), (q4, .inl (k4, 400, .inl f4)), (q5, .inl (k5, 18, .inl f5)), (q6, .inl (k6, 4096, .inr (.inl f6))), (q7, .inl (k7, 6, .inr (.inl f7)))]) (w1 := [zO h u q1 (nI ts) (nI cn) q2 q3 q4 (nI lv) q5 (nI an) md q6 q7]) hP hD [0] [1, 2, 3, 4, 5, 6, 7] rfl rfl (by decide) (by decide) hk1 hFc hP1 hD1
        generalize H1 = H at hP hS ⊢
        have hP : va_P (dC, dI) vwCl [zO h u q1 (nI ts) (nI cn) q2 q3 q4 (nI lv) q5 (nI an) md q6 q7, (q1, .inl (k1, 18, .inl f1)), (q2, .inl (k2, 7200, .inl f2)), (q3, .inl (k3, 400, .inl f3)), (q4, .inl (k4, 400, .inl f4)), (q5, .inl (k5, 18, .inl f5)), (q6, .inl (k6, 4096, .inr (.inl f6))), (q7, .inl (k7, 6, .inr (.inl f7)))] H := hP.sub [7, 0, 1, 2, 3, 4, 5, 6] rfl
        have hD : va_D A [zO h u q1 (nI ts) (nI cn) q2 q3 q4 (nI lv) q5 (nI an) md q6 q7, (q1, .inl (k1, 18, .inl f1)), (q2, .inl (k2, 7200, .inl f2)), (q3, .inl (k3, 400, .inl f3)), (q4, .inl (k4, 400, .inl f4)), (q5, .inl (k5, 18, .inl f5)), (q6, .inl (k6, 4096, .inr (.inl f6))), (q7, .inl (k7, 6, .inr (.inl f7)))] := hD.sub [7, 0, 1, 2, 3, 4, 5, 6] (by decide) rfl
        obtain ⟨hu9, hr9⟩ : u = 1 ∧ rth = 1 := by
          rcases hw with h | h | h
          · exact h.2
          · exact absurd h.1 (by decide)
          · exact absurd h.1 (by decide)
        subst hu9
        subst hr9
        refine lv_if_eq (tgt := 37) hx hb dX1_value_32 (by decide) (fun cb_96 => ?_) (fun cb_96 => ?_)
        · exact absurd cb_96 (by decide)
        · refine lv_iconst (v := 0) hx hb dX1_value_35 (by decide) ?_
          exact W.iret (v := 0) hx hb hr (fun t ht hW => ⟨⟨0, 1, rfl, Or.inl ⟨Or.inr (Int32.not_le.mp cb_94), rfl⟩, by rw [ht]; exact hP, va_K.moved hW.alike hK, hD⟩, hS.F ht⟩) hS.2.2 dX1_value_36
set_option maxHeartbeats 4000000 in
set_option maxRecDepth 100000 in
theorem r_look (l : Launch) (dC : Nat → ClassId) (dI : Nat → Nat → Nat) (h : Nat) (q1 : Nat) (q2 : Nat) (q3 : Nat) (q4 : Nat) (q5 : Nat) (q6 : Nat) (q7 : Nat) (k1 : ClassId) (k2 : ClassId) (k3 : ClassId) (k4 : ClassId) (k5 : ClassId) (k6 : ClassId) (k7 : ClassId) (f1 : Nat → Int32) (f2 : Nat → Int32) (f3 : Nat → Int32) (f4 : Nat → Int32) (f5 : Nat → Int32) (f6 : Nat → Int64) (f7 : Nat → Int64) (th : Int32) (ts : Nat) (cn : Nat) (lv : Nat) (an : Nat) (md : Int32) (p0 : Int32) (sz : Nat)  : Met l yX1_look wsX1_look ({ frames := 1, cells := 0, slots := 0, locals := 40 }) (va_Pc [.ref h, .int p0] (fun U => U.heap.size = sz ∧ va_P (dC, dI) vwCl [zO h th q1 (nI ts) (nI cn) q2 q3 q4 (nI lv) q5 (nI an) md q6 q7, (q1, .inl (k1, 18, .inl f1)), (q2, .inl (k2, 7200, .inl f2)), (q3, .inl (k3, 400, .inl f3)), (q4, .inl (k4, 400, .inl f4)), (q5, .inl (k5, 18, .inl f5)), (q6, .inl (k6, 4096, .inr (.inl f6))), (q7, .inl (k7, 6, .inr (.inl f7)))] U.heap ∧ va_K (dC, dI) vwCl [(k1, .int), (k2, .int), (k3, .int), (k4, .int), (k5, .int), (k6, .long), (k7, .long)] U ∧ va_D (fun _ => True) [zO h th q1 (nI ts) (nI cn) q2 q3 q4 (nI lv) q5 (nI an) md q6 q7, (q1, .inl (k1, 18, .inl f1)), (q2, .inl (k2, 7200, .inl f2)), (q3, .inl (k3, 400, .inl f3)), (q4, .inl (k4, 400, .inl f4)), (q5, .inl (k5, 18, .inl f5)), (q6, .inl (k6, 4096, .inr (.inl f6))), (q7, .inl (k7, 6, .inr (.inl f7)))])) (va_Qi (fun (r : Int32) (u : Int32) => ((p0 < 0 ∨ 4 < p0) ∧ u = 1) ∨ (¬ (p0 < 0 ∨ 4 < p0) ∧ u = 0 ∧ ((p0 = 0 ∧ r = nI cn) ∨ (p0 = 1 ∧ r = nI lv) ∨ (p0 = 2 ∧ r = nI an) ∨ (p0 = 3 ∧ r = nI ts) ∨ (¬ p0 = 0 ∧ ¬ p0 = 1 ∧ ¬ p0 = 2 ∧ ¬ p0 = 3 ∧ md < 0 ∧ r = 0) ∨ (¬ p0 = 0 ∧ ¬ p0 = 1 ∧ ¬ p0 = 2 ∧ ¬ p0 = 3 ∧ ¬ md < 0 ∧ r = 1)))) (fun (u : Int32) (t : State) => va_P (dC, dI) vwCl [zO h u q1 (nI ts) (nI cn) q2 q3 q4 (nI lv) q5 (nI an) md q6 q7, (q1, .inl (k1, 18, .inl f1)), (q2, .inl (k2, 7200, .inl f2)), (q3, .inl (k3, 400, .inl f3)), (q4, .inl (k4, 400, .inl f4)), (q5, .inl (k5, 18, .inl f5)), (q6, .inl (k6, 4096, .inr (.inl f6))), (q7, .inl (k7, 6, .inr (.inl f7)))] t.heap ∧ va_K (dC, dI) vwCl [(k1, .int), (k2, .int), (k3, .int), (k4, .int), (k5, .int), (k6, .long), (k7, .long)] t ∧ va_D (va_A [zO h th q1 (nI ts) (nI cn) q2 q3 q4 (nI lv) q5 (nI an) md q6 q7, (q1, .inl (k1, 18, .inl f1)), (q2, .inl (k2, 7200, .inl f2)), (q3, .inl (k3, 400, .inl f3)), (q4, .inl (k4, 400, .inl f4)), (q5, .inl (k5, 18, .inl f5)), (q6, .inl (k6, 4096, .inr (.inl f6))), (q7, .inl (k7, 6, .inr (.inl f7)))] sz) [zO h u q1 (nI ts) (nI cn) q2 q3 q4 (nI lv) q5 (nI an) md q6 q7, (q1, .inl (k1, 18, .inl f1)), (q2, .inl (k2, 7200, .inl f2)), (q3, .inl (k3, 400, .inl f3)), (q4, .inl (k4, 400, .inl f4)), (q5, .inl (k5, 18, .inl f5)), (q6, .inl (k6, 4096, .inr (.inl f6))), (q7, .inl (k7, 6, .inr (.inl f7)))]) (va_A [zO h th q1 (nI ts) (nI cn) q2 q3 q4 (nI lv) q5 (nI an) md q6 q7, (q1, .inl (k1, 18, .inl f1)), (q2, .inl (k2, 7200, .inl f2)), (q3, .inl (k3, 400, .inl f3)), (q4, .inl (k4, 400, .inl f4)), (q5, .inl (k5, 18, .inl f5)), (q6, .inl (k6, 4096, .inr (.inl f6))), (q7, .inl (k7, 6, .inr (.inl f7)))] sz)) 0 0 (va_A [zO h th q1 (nI ts) (nI cn) q2 q3 q4 (nI lv) q5 (nI an) md q6 q7, (q1, .inl (k1, 18, .inl f1)), (q2, .inl (k2, 7200, .inl f2)), (q3, .inl (k3, 400, .inl f3)), (q4, .inl (k4, 400, .inl f4)), (q5, .inl (k5, 18, .inl f5)), (q6, .inl (k6, 4096, .inr (.inl f6))), (q7, .inl (k7, 6, .inr (.inl f7)))] sz) := by
  refine Met.ofW (cc := cX1_look) (maxL := 2) (ret := (some .int)) (by decide) rfl ?_
  intro p e s m args below meth c s₁ B hml hv
  obtain ⟨rfl, hsz, hP, hK, hD0⟩ := hv
  have hx := B.exec
  have hb := B.bytes
  have hr := B.returns
  have hts := atoms_spec (ws := wsX1_look) B.pre
  have htA : ∀ w ∈ wsA, w.before _ s = true := fun w h => hts w (List.mem_cons_of_mem _ h)
  have hown : s.vm.findClass RX1 = some m.cls := findClass_of_methodNamed B.named
  have hlocks := B.notSynchronized
  subst hsz
  have hD := hD0.self (sz := s.heap.size)
  generalize hAe : va_A [zO h th q1 (nI ts) (nI cn) q2 q3 q4 (nI lv) q5 (nI an) md q6 q7, (q1, .inl (k1, 18, .inl f1)), (q2, .inl (k2, 7200, .inl f2)), (q3, .inl (k3, 400, .inl f3)), (q4, .inl (k4, 400, .inl f4)), (q5, .inl (k5, 18, .inl f5)), (q6, .inl (k6, 4096, .inr (.inl f6))), (q7, .inl (k7, 6, .inr (.inl f7)))] s.heap.size = A at hD ⊢
  have hA : ∀ q : Nat, s.heap.size ≤ q → A q := fun q h => by rw [← hAe]; exact Or.inr h
  have hS : va_S A s.heap s.heap [] := va_S.rf
  have hP : va_P (dC, dI) vwCl [zO h th q1 (nI ts) (nI cn) q2 q3 q4 (nI lv) q5 (nI an) md q6 q7, (q1, .inl (k1, 18, .inl f1)), (q2, .inl (k2, 7200, .inl f2)), (q3, .inl (k3, 400, .inl f3)), (q4, .inl (k4, 400, .inl f4)), (q5, .inl (k5, 18, .inl f5)), (q6, .inl (k6, 4096, .inr (.inl f6))), (q7, .inl (k7, 6, .inr (.inl f7)))] s.heap := hP
  have hl := lv_entry ([.ref h, .int p0]) (n := 2) (Nat.le_of_ble_eq_true rfl)
  rw [lg_entry_eq]
  generalize (lg_sl ([.ref h, .int p0]) ++ List.replicate (2 - (lg_sl ([.ref h, .int p0])).length) Slot.unset).toArray = ls at hl ⊢
  have hl : lv_has ls 2 [(0, .ref h), (1, .int p0)] := hl
  refine lv_aload_n hx hb dX1_look_0 rfl (lv_at hl 0 rfl) ?_
  refine lv_iload_n hx hb dX1_look_1 rfl (lv_at hl 1 rfl) ?_
  refine lv_if_lt (tgt := 10) hx hb dX1_look_2 (by decide) (fun cb_101 => ?_) (fun cb_101 => ?_)
  · refine lv_iconst (v := 1) hx hb dX1_look_10 (by decide) ?_
    refine lv_goto (tgt := 15) hx hb dX1_look_11 (by decide) ?_
    refine lv_iconst (v := 0) hx hb dX1_look_15 (by decide) ?_
    have hPc := hP.sub (ws' := [zO h th q1 (nI ts) (nI cn) q2 q3 q4 (nI lv) q5 (nI an) md q6 q7]) [0] rfl
    have hDc := hD.sub (ws' := [zO h th q1 (nI ts) (nI cn) q2 q3 q4 (nI lv) q5 (nI an) md q6 q7]) [0] (by decide) rfl
    have hKc := hK.sub (tys' := []) [] rfl
    have hFc := va_free (wc := [zO h th q1 (nI ts) (nI cn) q2 q3 q4 (nI lv) q5 (nI an) md q6 q7]) hD hS hA [0] rfl
    refine va_calli (va_runV (As := [.int 1, .int 0]) (rest := []) ⟨hx, hb, hml, hown, htA⟩ (r_throwing l dC dI h q1 q2 q3 q4 q5 q6 q7   th (nI ts) (nI cn) (nI lv) (nI an) md 1 0 s.heap.size) (cwV 2 htA gX1_80 rfl rfl rfl (by decide +kernel) ⟨Nat.le_of_ble_eq_true rfl, Nat.le_of_ble_eq_true rfl⟩) ⟨fun a U g mk q => by obtain ⟨q0, q1, qP, qK, qD⟩ := q; exact ⟨q0, q1, qP, va_K.moved (u := U) (U := U.calling g mk a) (Vm.Alike.refl U.vm) qK, qD⟩, va_recv hKc hPc (ci := 1) (q0 := 0) rfl rfl, fun U hU hW => ⟨rfl, by rw [hU], by rw [hU]; exact hPc, va_K.moved hW.alike hKc, hDc.weaken (fun _ _ _ _ => trivial)⟩⟩ rfl rfl hl.1 rfl (lv_room (Nat.le_of_ble_eq_true rfl)) dX1_look_16 ⟨Nat.zero_le _, Nat.zero_le _⟩) hS (fun q _ h => hFc q h) hFc (fun rth u t H1 locs ht hvm hw hB hz1 hk1 hS => ?_)
    obtain ⟨hP1, hK1, hD1⟩ := hB
    rw [ht] at hP1
    try dsimp only at hw hP1 hD1
    obtain ⟨hP, hD⟩ := va_join (wr := [(q1, .inl (k1, 18, .inl f1)), (q2, .inl (k2, 7200, .inl f2)), (q3, .inl (k3, 400, .inl f3)), (q4, .inl (k4, 400, .inl f4)), (q5, .inl (k5, 18, .inl f5)), (q6, .inl (k6, 4096, .inr (.inl f6))), (q7, .inl (k7, 6, .inr (.inl f7)))]) (w1 := [zO h u q1 (nI ts) (nI cn) q2 q3 q4 (nI lv) q5 (nI an) md q6 q7]) hP hD [0] [1, 2, 3, 4, 5, 6, 7] rfl rfl (by decide) (by decide) hk1 hFc hP1 hD1
    generalize H1 = H at hP hS ⊢
    have hP : va_P (dC, dI) vwCl [zO h u q1 (nI ts) (nI cn) q2 q3 q4 (nI lv) q5 (nI an) md q6 q7, (q1, .inl (k1, 18, .inl f1)), (q2, .inl (k2, 7200, .inl f2)), (q3, .inl (k3, 400, .inl f3)), (q4, .inl (k4, 400, .inl f4)), (q5, .inl (k5, 18, .inl f5)), (q6, .inl (k6, 4096, .inr (.inl f6))), (q7, .inl (k7, 6, .inr (.inl f7)))] H := hP.sub [7, 0, 1, 2, 3, 4, 5, 6] rfl
    have hD : va_D A [zO h u q1 (nI ts) (nI cn) q2 q3 q4 (nI lv) q5 (nI an) md q6 q7, (q1, .inl (k1, 18, .inl f1)), (q2, .inl (k2, 7200, .inl f2)), (q3, .inl (k3, 400, .inl f3)), (q4, .inl (k4, 400, .inl f4)), (q5, .inl (k5, 18, .inl f5)), (q6, .inl (k6, 4096, .inr (.inl f6))), (q7, .inl (k7, 6, .inr (.inl f7)))] := hD.sub [7, 0, 1, 2, 3, 4, 5, 6] (by decide) rfl
    obtain ⟨hu9, hr9⟩ : u = 1 ∧ rth = 1 := by
      rcases hw with h | h | h
      · exact h.2
      · exact absurd h.1 (by decide)
      · exact absurd h.1 (by decide)
    subst hu9
    subst hr9
    refine lv_if_eq (tgt := 24) hx hb dX1_look_19 (by decide) (fun cb_102 => ?_) (fun cb_102 => ?_)
    · exact absurd cb_102 (by decide)
    · refine lv_iconst (v := 0) hx hb dX1_look_22 (by decide) ?_
      exact W.iret (v := 0) hx hb hr (fun t ht hW => ⟨⟨0, 1, rfl, Or.inl ⟨Or.inl cb_101, rfl⟩, by rw [ht]; exact hP, va_K.moved hW.alike hK, hD⟩, hS.F ht⟩) hS.2.2 dX1_look_23
  · refine lv_iload_n hx hb dX1_look_5 rfl (lv_at hl 1 rfl) ?_
    refine lv_iconst (v := 4) hx hb dX1_look_6 (by decide) ?_
    refine lv_icmp_le (tgt := 14) hx hb dX1_look_7 (by decide) (fun cb_103 => ?_) (fun cb_103 => ?_)
    · have hok : ¬ (p0 < 0 ∨ 4 < p0) := fun q => q.elim cb_101 (fun z => absurd cb_103 (Int32.not_le.mpr z))
      refine lv_iconst (v := 0) hx hb dX1_look_14 (by decide) ?_
      refine lv_iconst (v := 0) hx hb dX1_look_15 (by decide) ?_
      have hPc := hP.sub (ws' := [zO h th q1 (nI ts) (nI cn) q2 q3 q4 (nI lv) q5 (nI an) md q6 q7]) [0] rfl
      have hDc := hD.sub (ws' := [zO h th q1 (nI ts) (nI cn) q2 q3 q4 (nI lv) q5 (nI an) md q6 q7]) [0] (by decide) rfl
      have hKc := hK.sub (tys' := []) [] rfl
      have hFc := va_free (wc := [zO h th q1 (nI ts) (nI cn) q2 q3 q4 (nI lv) q5 (nI an) md q6 q7]) hD hS hA [0] rfl
      refine va_calli (va_runV (As := [.int 0, .int 0]) (rest := []) ⟨hx, hb, hml, hown, htA⟩ (r_throwing l dC dI h q1 q2 q3 q4 q5 q6 q7   th (nI ts) (nI cn) (nI lv) (nI an) md 0 0 s.heap.size) (cwV 2 htA gX1_80 rfl rfl rfl (by decide +kernel) ⟨Nat.le_of_ble_eq_true rfl, Nat.le_of_ble_eq_true rfl⟩) ⟨fun a U g mk q => by obtain ⟨q0, q1, qP, qK, qD⟩ := q; exact ⟨q0, q1, qP, va_K.moved (u := U) (U := U.calling g mk a) (Vm.Alike.refl U.vm) qK, qD⟩, va_recv hKc hPc (ci := 1) (q0 := 0) rfl rfl, fun U hU hW => ⟨rfl, by rw [hU], by rw [hU]; exact hPc, va_K.moved hW.alike hKc, hDc.weaken (fun _ _ _ _ => trivial)⟩⟩ rfl rfl hl.1 rfl (lv_room (Nat.le_of_ble_eq_true rfl)) dX1_look_16 ⟨Nat.zero_le _, Nat.zero_le _⟩) hS (fun q _ h => hFc q h) hFc (fun rth u t H1 locs ht hvm hw hB hz1 hk1 hS => ?_)
      obtain ⟨hP1, hK1, hD1⟩ := hB
      rw [ht] at hP1
      try dsimp only at hw hP1 hD1
      obtain ⟨hP, hD⟩ := va_join (wr := [(q1, .inl (k1, 18, .inl f1)), (q2, .inl (k2, 7200, .inl f2)), (q3, .inl (k3, 400, .inl f3)), (q4, .inl (k4, 400, .inl f4)), (q5, .inl (k5, 18, .inl f5)), (q6, .inl (k6, 4096, .inr (.inl f6))), (q7, .inl (k7, 6, .inr (.inl f7)))]) (w1 := [zO h u q1 (nI ts) (nI cn) q2 q3 q4 (nI lv) q5 (nI an) md q6 q7]) hP hD [0] [1, 2, 3, 4, 5, 6, 7] rfl rfl (by decide) (by decide) hk1 hFc hP1 hD1
      generalize H1 = H at hP hS ⊢
      have hP : va_P (dC, dI) vwCl [zO h u q1 (nI ts) (nI cn) q2 q3 q4 (nI lv) q5 (nI an) md q6 q7, (q1, .inl (k1, 18, .inl f1)), (q2, .inl (k2, 7200, .inl f2)), (q3, .inl (k3, 400, .inl f3)), (q4, .inl (k4, 400, .inl f4)), (q5, .inl (k5, 18, .inl f5)), (q6, .inl (k6, 4096, .inr (.inl f6))), (q7, .inl (k7, 6, .inr (.inl f7)))] H := hP.sub [7, 0, 1, 2, 3, 4, 5, 6] rfl
      have hD : va_D A [zO h u q1 (nI ts) (nI cn) q2 q3 q4 (nI lv) q5 (nI an) md q6 q7, (q1, .inl (k1, 18, .inl f1)), (q2, .inl (k2, 7200, .inl f2)), (q3, .inl (k3, 400, .inl f3)), (q4, .inl (k4, 400, .inl f4)), (q5, .inl (k5, 18, .inl f5)), (q6, .inl (k6, 4096, .inr (.inl f6))), (q7, .inl (k7, 6, .inr (.inl f7)))] := hD.sub [7, 0, 1, 2, 3, 4, 5, 6] (by decide) rfl
      obtain ⟨hu9, hr9⟩ : u = 0 ∧ rth = 0 := by
        rcases hw with h | h | h
        · exact absurd rfl h.1
        · exact absurd rfl h.2.1
        · exact h.2.2
      subst hu9
      subst hr9
      refine lv_if_eq (tgt := 24) hx hb dX1_look_19 (by decide) (fun cb_105 => ?_) (fun cb_105 => ?_)
      · refine lv_iload_n hx hb dX1_look_24 rfl (lv_at hl 1 rfl) ?_
        refine lv_if_ne (tgt := 35) hx hb dX1_look_25 (by decide) (fun cb_106 => ?_) (fun cb_106 => ?_)
        · refine lv_iload_n hx hb dX1_look_35 rfl (lv_at hl 1 rfl) ?_
          refine lv_iconst (v := 1) hx hb dX1_look_36 (by decide) ?_
          refine lv_icmp_ne (tgt := 47) hx hb dX1_look_37 (by decide) (fun cb_107 => ?_) (fun cb_107 => ?_)
          · refine lv_iload_n hx hb dX1_look_47 rfl (lv_at hl 1 rfl) ?_
            refine lv_iconst (v := 2) hx hb dX1_look_48 (by decide) ?_
            refine lv_icmp_ne (tgt := 59) hx hb dX1_look_49 (by decide) (fun cb_108 => ?_) (fun cb_108 => ?_)
            · refine lv_iload_n hx hb dX1_look_59 rfl (lv_at hl 1 rfl) ?_
              refine lv_iconst (v := 3) hx hb dX1_look_60 (by decide) ?_
              refine lv_icmp_ne (tgt := 71) hx hb dX1_look_61 (by decide) (fun cb_109 => ?_) (fun cb_109 => ?_)
              · refine lv_aload_n hx hb dX1_look_71 rfl (lv_at hl 0 rfl) ?_
                refine va_get (D := (dC, dI)) (ci := 1) (v := .int md) (C := RX1) (T := TX1) (N := 13) hx hb htA inX1 hown hK hP 0 rfl rfl 10 (by decide) (htA _ lkX1_25) (fun _ h9 => h9) rfl dX1_look_72 ?_
                refine lv_if_ge (tgt := 82) hx hb dX1_look_75 (by decide) (fun cb_110 => ?_) (fun cb_110 => ?_)
                · refine lv_iconst (v := 1) hx hb dX1_look_82 (by decide) ?_
                  exact W.iret (v := 1) hx hb hr (fun t ht hW => ⟨⟨1, 0, rfl, Or.inr ⟨hok, rfl, Or.inr (Or.inr (Or.inr (Or.inr (Or.inr (⟨cb_106, cb_107, cb_108, cb_109, Int32.not_lt.mpr cb_110, rfl⟩)))))⟩, by rw [ht]; exact hP, va_K.moved hW.alike hK, hD⟩, hS.F ht⟩) hS.2.2 dX1_look_83
                · refine lv_iconst (v := 0) hx hb dX1_look_78 (by decide) ?_
                  refine lv_goto (tgt := 83) hx hb dX1_look_79 (by decide) ?_
                  exact W.iret (v := 0) hx hb hr (fun t ht hW => ⟨⟨0, 0, rfl, Or.inr ⟨hok, rfl, Or.inr (Or.inr (Or.inr (Or.inr (Or.inl ⟨cb_106, cb_107, cb_108, cb_109, Int32.not_le.mp cb_110, rfl⟩))))⟩, by rw [ht]; exact hP, va_K.moved hW.alike hK, hD⟩, hS.F ht⟩) hS.2.2 dX1_look_83
              · refine lv_aload_n hx hb dX1_look_64 rfl (lv_at hl 0 rfl) ?_
                refine va_get (D := (dC, dI)) (ci := 1) (v := .int (nI ts)) (C := RX1) (T := TX1) (N := 13) hx hb htA inX1 hown hK hP 0 rfl rfl 2 (by decide) (htA _ lkX1_77) (fun _ h9 => h9) rfl dX1_look_65 ?_
                refine lv_goto (tgt := 83) hx hb dX1_look_68 (by decide) ?_
                exact W.iret (v := nI ts) hx hb hr (fun t ht hW => ⟨⟨nI ts, 0, rfl, Or.inr ⟨hok, rfl, Or.inr (Or.inr (Or.inr (Or.inl ⟨cb_109, rfl⟩)))⟩, by rw [ht]; exact hP, va_K.moved hW.alike hK, hD⟩, hS.F ht⟩) hS.2.2 dX1_look_83
            · refine lv_aload_n hx hb dX1_look_52 rfl (lv_at hl 0 rfl) ?_
              refine va_get (D := (dC, dI)) (ci := 1) (v := .int (nI an)) (C := RX1) (T := TX1) (N := 13) hx hb htA inX1 hown hK hP 0 rfl rfl 9 (by decide) (htA _ lkX1_67) (fun _ h9 => h9) rfl dX1_look_53 ?_
              refine lv_goto (tgt := 83) hx hb dX1_look_56 (by decide) ?_
              exact W.iret (v := nI an) hx hb hr (fun t ht hW => ⟨⟨nI an, 0, rfl, Or.inr ⟨hok, rfl, Or.inr (Or.inr (Or.inl ⟨cb_108, rfl⟩))⟩, by rw [ht]; exact hP, va_K.moved hW.alike hK, hD⟩, hS.F ht⟩) hS.2.2 dX1_look_83
          · refine lv_aload_n hx hb dX1_look_40 rfl (lv_at hl 0 rfl) ?_
            refine va_get (D := (dC, dI)) (ci := 1) (v := .int (nI lv)) (C := RX1) (T := TX1) (N := 13) hx hb htA inX1 hown hK hP 0 rfl rfl 7 (by decide) (htA _ lkX1_84) (fun _ h9 => h9) rfl dX1_look_41 ?_
            refine lv_goto (tgt := 83) hx hb dX1_look_44 (by decide) ?_
            exact W.iret (v := nI lv) hx hb hr (fun t ht hW => ⟨⟨nI lv, 0, rfl, Or.inr ⟨hok, rfl, Or.inr (Or.inl ⟨cb_107, rfl⟩)⟩, by rw [ht]; exact hP, va_K.moved hW.alike hK, hD⟩, hS.F ht⟩) hS.2.2 dX1_look_83
        · refine lv_aload_n hx hb dX1_look_28 rfl (lv_at hl 0 rfl) ?_
          refine va_get (D := (dC, dI)) (ci := 1) (v := .int (nI cn)) (C := RX1) (T := TX1) (N := 13) hx hb htA inX1 hown hK hP 0 rfl rfl 3 (by decide) (htA _ lkX1_60) (fun _ h9 => h9) rfl dX1_look_29 ?_
          refine lv_goto (tgt := 83) hx hb dX1_look_32 (by decide) ?_
          exact W.iret (v := nI cn) hx hb hr (fun t ht hW => ⟨⟨nI cn, 0, rfl, Or.inr ⟨hok, rfl, Or.inl ⟨cb_106, rfl⟩⟩, by rw [ht]; exact hP, va_K.moved hW.alike hK, hD⟩, hS.F ht⟩) hS.2.2 dX1_look_83
      · exact absurd rfl cb_105
    · refine lv_iconst (v := 1) hx hb dX1_look_10 (by decide) ?_
      refine lv_goto (tgt := 15) hx hb dX1_look_11 (by decide) ?_
      refine lv_iconst (v := 0) hx hb dX1_look_15 (by decide) ?_
      have hPc := hP.sub (ws' := [zO h th q1 (nI ts) (nI cn) q2 q3 q4 (nI lv) q5 (nI an) md q6 q7]) [0] rfl
      have hDc := hD.sub (ws' := [zO h th q1 (nI ts) (nI cn) q2 q3 q4 (nI lv) q5 (nI an) md q6 q7]) [0] (by decide) rfl
      have hKc := hK.sub (tys' := []) [] rfl
      have hFc := va_free (wc := [zO h th q1 (nI ts) (nI cn) q2 q3 q4 (nI lv) q5 (nI an) md q6 q7]) hD hS hA [0] rfl
      refine va_calli (va_runV (As := [.int 1, .int 0]) (rest := []) ⟨hx, hb, hml, hown, htA⟩ (r_throwing l dC dI h q1 q2 q3 q4 q5 q6 q7   th (nI ts) (nI cn) (nI lv) (nI an) md 1 0 s.heap.size) (cwV 2 htA gX1_80 rfl rfl rfl (by decide +kernel) ⟨Nat.le_of_ble_eq_true rfl, Nat.le_of_ble_eq_true rfl⟩) ⟨fun a U g mk q => by obtain ⟨q0, q1, qP, qK, qD⟩ := q; exact ⟨q0, q1, qP, va_K.moved (u := U) (U := U.calling g mk a) (Vm.Alike.refl U.vm) qK, qD⟩, va_recv hKc hPc (ci := 1) (q0 := 0) rfl rfl, fun U hU hW => ⟨rfl, by rw [hU], by rw [hU]; exact hPc, va_K.moved hW.alike hKc, hDc.weaken (fun _ _ _ _ => trivial)⟩⟩ rfl rfl hl.1 rfl (lv_room (Nat.le_of_ble_eq_true rfl)) dX1_look_16 ⟨Nat.zero_le _, Nat.zero_le _⟩) hS (fun q _ h => hFc q h) hFc (fun rth u t H1 locs ht hvm hw hB hz1 hk1 hS => ?_)
      obtain ⟨hP1, hK1, hD1⟩ := hB
      rw [ht] at hP1
      try dsimp only at hw hP1 hD1
      obtain ⟨hP, hD⟩ := va_join (wr := [(q1, .inl (k1, 18, .inl f1)), (q2, .inl (k2, 7200, .inl f2)), (q3, .inl (k3, 400, .inl f3)), (q4, .inl (k4, 400, .inl f4)), (q5, .inl (k5, 18, .inl f5)), (q6, .inl (k6, 4096, .inr (.inl f6))), (q7, .inl (k7, 6, .inr (.inl f7)))]) (w1 := [zO h u q1 (nI ts) (nI cn) q2 q3 q4 (nI lv) q5 (nI an) md q6 q7]) hP hD [0] [1, 2, 3, 4, 5, 6, 7] rfl rfl (by decide) (by decide) hk1 hFc hP1 hD1
      generalize H1 = H at hP hS ⊢
      have hP : va_P (dC, dI) vwCl [zO h u q1 (nI ts) (nI cn) q2 q3 q4 (nI lv) q5 (nI an) md q6 q7, (q1, .inl (k1, 18, .inl f1)), (q2, .inl (k2, 7200, .inl f2)), (q3, .inl (k3, 400, .inl f3)), (q4, .inl (k4, 400, .inl f4)), (q5, .inl (k5, 18, .inl f5)), (q6, .inl (k6, 4096, .inr (.inl f6))), (q7, .inl (k7, 6, .inr (.inl f7)))] H := hP.sub [7, 0, 1, 2, 3, 4, 5, 6] rfl
      have hD : va_D A [zO h u q1 (nI ts) (nI cn) q2 q3 q4 (nI lv) q5 (nI an) md q6 q7, (q1, .inl (k1, 18, .inl f1)), (q2, .inl (k2, 7200, .inl f2)), (q3, .inl (k3, 400, .inl f3)), (q4, .inl (k4, 400, .inl f4)), (q5, .inl (k5, 18, .inl f5)), (q6, .inl (k6, 4096, .inr (.inl f6))), (q7, .inl (k7, 6, .inr (.inl f7)))] := hD.sub [7, 0, 1, 2, 3, 4, 5, 6] (by decide) rfl
      obtain ⟨hu9, hr9⟩ : u = 1 ∧ rth = 1 := by
        rcases hw with h | h | h
        · exact h.2
        · exact absurd h.1 (by decide)
        · exact absurd h.1 (by decide)
      subst hu9
      subst hr9
      refine lv_if_eq (tgt := 24) hx hb dX1_look_19 (by decide) (fun cb_104 => ?_) (fun cb_104 => ?_)
      · exact absurd cb_104 (by decide)
      · refine lv_iconst (v := 0) hx hb dX1_look_22 (by decide) ?_
        exact W.iret (v := 0) hx hb hr (fun t ht hW => ⟨⟨0, 1, rfl, Or.inl ⟨Or.inr (Int32.not_le.mp cb_103), rfl⟩, by rw [ht]; exact hP, va_K.moved hW.alike hK, hD⟩, hS.F ht⟩) hS.2.2 dX1_look_23
