set_option maxHeartbeats 4000000 in
set_option maxRecDepth 100000 in
theorem c_whereTrue (l : Launch) (dC : Nat → ClassId) (dI : Nat → Nat → Nat) (y : Int32) (n : Int32) (sz : Nat)  : Met l yX2_whereTrue wsX2_whereTrue ({ frames := 0, cells := 0, slots := 0, locals := 0 }) (va_Pc [.int y, .int n] (fun U => U.heap.size = sz ∧ va_P (dC, dI) vwCl [] U.heap ∧ va_K (dC, dI) vwCl [] U ∧ va_D (fun _ => True) [] ∧ yStat (va_A [] sz) U U.heap)) (va_Ql (fun (r : Int64) (u : Unit) => yLw 6 y n r) (fun (u : Unit) (t : State) => va_P (dC, dI) vwCl [] t.heap ∧ va_K (dC, dI) vwCl [] t ∧ va_D (va_A [] sz) []) (va_A [] sz)) 0 0 (va_A [] sz) := by
  refine Met.ofW (cc := cX2_whereTrue) (maxL := 5) (ret := (some .long)) (by decide) rfl ?_
  intro p e s m args below meth c s₁ B hml hv
  obtain ⟨rfl, hsz, hP, hK, hD0, hST⟩ := hv
  have hx := B.exec
  have hb := B.bytes
  have hr := B.returns
  have hts := atoms_spec (ws := wsX2_whereTrue) B.pre
  have htA : ∀ w ∈ wsA, w.before _ s = true := fun w h => hts w (List.mem_cons_of_mem _ h)
  have hown : s.vm.findClass RX2 = some m.cls := findClass_of_methodNamed B.named
  have hlocks := B.notSynchronized
  subst hsz
  have hD := hD0.self (sz := s.heap.size)
  generalize hAe : va_A [] s.heap.size = A at hD hST ⊢
  have hA : ∀ q : Nat, s.heap.size ≤ q → A q := fun q h => by rw [← hAe]; exact Or.inr h
  have hS : va_S A s.heap s.heap [] := va_S.rf
  have hP : va_P (dC, dI) vwCl [] s.heap := hP
  have hl := lv_entry ([.int y, .int n]) (n := 5) (Nat.le_of_ble_eq_true rfl)
  rw [lg_entry_eq]
  generalize (lg_sl ([.int y, .int n]) ++ List.replicate (5 - (lg_sl ([.int y, .int n])).length) Slot.unset).toArray = ls at hl ⊢
  have hl : lv_has ls 5 [(0, .int y), (1, .int n)] := hl
  obtain ⟨tw, hZ, hT⟩ := hST
  refine lv_lconst (v := 0) hx hb dX2_whereTrue_0 (by decide) ?_
  refine lv_lstore_n (lv' := [(2, .long 0), (0, .int y), (1, .int n)]) hx hb dX2_whereTrue_1 rfl hl (by decide) rfl (fun ls hl => ?_)
  refine lv_iconst (v := 0) hx hb dX2_whereTrue_2 (by decide) ?_
  refine lv_istore (lv' := [(4, .int 0), (2, .long 0), (0, .int y), (1, .int n)]) hx hb dX2_whereTrue_3 hl (by decide) rfl (fun ls hl => ?_)
  have loop : ∀ (fu v : Nat) (x2 : Int64), v ≤ 6 → 7 ≤ v + fu → yLw v y n x2 → ∀ (ls : Array Slot), lv_has ls 5 [(4, .int (nI v)), (2, .long x2), (0, .int y), (1, .int n)] → W p l e (headSpec wsX2_whereTrue ({ frames := 0, cells := 0, slots := 0, locals := 0 })).room s m ([.int y, .int n] : List Value).toArray below meth c s.heap [] 0 0 (MQ below (va_Ql (fun (r : Int64) (u : Unit) => yLw 6 y n r) (fun (u : Unit) (t : State) => va_P (dC, dI) vwCl [] t.heap ∧ va_K (dC, dI) vwCl [] t ∧ va_D A []) A) ([.int y, .int n] : List Value).toArray s 0 0 A) (F0 m 5 ls []) := by
    intro fu
    induction fu with
    | zero =>
      intro v x2 h1 h2
      exact absurd h2 (by omega)
    | succ fu ih =>
      intro v x2 hv hin hI ls hl
      refine lv_iload hx hb dX2_whereTrue_5 (lv_at hl 0 rfl) ?_
      refine va_gets (C := "ClauseYard$Search") (n := "WHERE_ONE") (d := "[J") (v := .ref tw) hx hb hZ hS hown (htA _ lkX2_72) (fun _ h9 => h9) dX2_whereTrue_7 ?_
      refine va_tlen hx hb hT hS (v := 6) rfl dX2_whereTrue_10 ?_
      refine lv_icmp_ge (tgt := 60) hx hb dX2_whereTrue_11 (by decide) (fun cb_25 => ?_) (fun cb_25 => ?_)
      · have hve : v = 6 := by
          rcases Nat.lt_or_ge v 6 with q | q
          · exact absurd cb_25 (nI_ge (b := 6) q (by omega))
          · omega
        subst hve
        refine lv_lload_n hx hb dX2_whereTrue_60 rfl (lv_at hl 1 rfl) ?_
        exact W.lret (v := x2) hx hb hr (fun t ht hW => ⟨⟨x2, (), rfl, hI, by rw [ht]; exact hP, va_K.moved hW.alike hK, hD⟩, hS.F ht⟩) hS.2.2 dX2_whereTrue_61
      · have hlt : v < 6 := by
          rcases Nat.lt_or_ge v 6 with q | q
          · exact q
          · exact absurd (nI_le (a := 6) q (by omega)) cb_25
        refine lv_iload_n hx hb dX2_whereTrue_14 rfl (lv_at hl 2 rfl) ?_
        refine lv_iload hx hb dX2_whereTrue_15 (lv_at hl 0 rfl) ?_
        refine lv_ishr hx hb dX2_whereTrue_17 ?_
        refine lv_iconst (v := 1) hx hb dX2_whereTrue_18 (by decide) ?_
        refine lv_iand hx hb dX2_whereTrue_19 ?_
        refine lv_if_eq (tgt := 32) hx hb dX2_whereTrue_20 (by decide) (fun cb_26 => ?_) (fun cb_26 => ?_)
        · have hy1 : yb y v = false := (y_shr1 (by omega)).mp cb_26
          refine lv_iload_n hx hb dX2_whereTrue_32 rfl (lv_at hl 3 rfl) ?_
          refine lv_iload hx hb dX2_whereTrue_33 (lv_at hl 0 rfl) ?_
          refine lv_ishr hx hb dX2_whereTrue_35 ?_
          refine lv_iconst (v := 1) hx hb dX2_whereTrue_36 (by decide) ?_
          refine lv_iand hx hb dX2_whereTrue_37 ?_
          refine lv_if_eq (tgt := 54) hx hb dX2_whereTrue_38 (by decide) (fun cb_27 => ?_) (fun cb_27 => ?_)
          · have hn1 : yb n v = false := (y_shr1 (by omega)).mp cb_27
            refine lv_iinc (v := nI (v + 1)) (lv' := [(4, .int (nI (v + 1))), (2, .long x2), (0, .int y), (1, .int n)]) hx hb dX2_whereTrue_54 hl (k := 0) rfl (nI_1 _) (by decide) rfl (fun ls hl => ?_)
            refine lv_goto (tgt := 5) hx hb dX2_whereTrue_57 (by decide) ?_
            refine ih (v + 1) _ hlt (by omega) (yLw_s hI (fun k hk => ?_)) ls (lv_sub hl [0, 1, 2, 3] rfl)
            rw [hy1, hn1]
            cases k.testBit v <;> simp
          · have hn1 : yb n v = true := by
              cases q : yb n v
              · exact absurd ((y_shr1 (by omega)).mpr q) cb_27
              · rfl
            refine lv_lload_n hx hb dX2_whereTrue_41 rfl (lv_at hl 1 rfl) ?_
            refine va_gets (C := "ClauseYard$Search") (n := "WHERE_ONE") (d := "[J") (v := .ref tw) hx hb hZ hS hown (htA _ lkX2_72) (fun _ h9 => h9) dX2_whereTrue_42 ?_
            refine lv_iload hx hb dX2_whereTrue_45 (lv_at hl 0 rfl) ?_
            refine va_tl hx hb hT hS (vp_in_nI hlt (by decide)) (v := .long (wO v)) (by show Value.long (wO (nI v).toNatClampNeg) = _; rw [nI_clamp (by omega)]) dX2_whereTrue_47 ?_
            refine lv_ldc2 (own := RX2) (v := (-1)) hx hb hown (htA _ lkX2_42) dX2_whereTrue_48 ?_
            refine lv_lxor hx hb dX2_whereTrue_51 ?_
            refine lv_lor hx hb dX2_whereTrue_52 ?_
            refine lv_lstore_n (lv' := [(2, .long (x2 ||| ((wO v) ^^^ (-1)))), (4, .int (nI v)), (0, .int y), (1, .int n)]) hx hb dX2_whereTrue_53 rfl hl (by decide) rfl (fun ls hl => ?_)
            refine lv_iinc (v := nI (v + 1)) (lv' := [(4, .int (nI (v + 1))), (2, .long (x2 ||| ((wO v) ^^^ (-1)))), (0, .int y), (1, .int n)]) hx hb dX2_whereTrue_54 hl (k := 1) rfl (nI_1 _) (by decide) rfl (fun ls hl => ?_)
            refine lv_goto (tgt := 5) hx hb dX2_whereTrue_57 (by decide) ?_
            refine ih (v + 1) _ hlt (by omega) (yLw_s hI (fun k hk => ?_)) ls (lv_sub hl [0, 1, 2, 3] rfl)
            rw [zb_or, zb_not _ hk, wO_in v hlt k hk, hy1, hn1]
            cases k.testBit v <;> simp
        · have hy1 : yb y v = true := by
            cases q : yb y v
            · exact absurd ((y_shr1 (by omega)).mpr q) cb_26
            · rfl
          refine lv_lload_n hx hb dX2_whereTrue_23 rfl (lv_at hl 1 rfl) ?_
          refine va_gets (C := "ClauseYard$Search") (n := "WHERE_ONE") (d := "[J") (v := .ref tw) hx hb hZ hS hown (htA _ lkX2_72) (fun _ h9 => h9) dX2_whereTrue_24 ?_
          refine lv_iload hx hb dX2_whereTrue_27 (lv_at hl 0 rfl) ?_
          refine va_tl hx hb hT hS (vp_in_nI hlt (by decide)) (v := .long (wO v)) (by show Value.long (wO (nI v).toNatClampNeg) = _; rw [nI_clamp (by omega)]) dX2_whereTrue_29 ?_
          refine lv_lor hx hb dX2_whereTrue_30 ?_
          refine lv_lstore_n (lv' := [(2, .long (x2 ||| (wO v))), (4, .int (nI v)), (0, .int y), (1, .int n)]) hx hb dX2_whereTrue_31 rfl hl (by decide) rfl (fun ls hl => ?_)
          refine lv_iload_n hx hb dX2_whereTrue_32 rfl (lv_at hl 3 rfl) ?_
          refine lv_iload hx hb dX2_whereTrue_33 (lv_at hl 1 rfl) ?_
          refine lv_ishr hx hb dX2_whereTrue_35 ?_
          refine lv_iconst (v := 1) hx hb dX2_whereTrue_36 (by decide) ?_
          refine lv_iand hx hb dX2_whereTrue_37 ?_
          refine lv_if_eq (tgt := 54) hx hb dX2_whereTrue_38 (by decide) (fun cb_28 => ?_) (fun cb_28 => ?_)
          · have hn1 : yb n v = false := (y_shr1 (by omega)).mp cb_28
            refine lv_iinc (v := nI (v + 1)) (lv' := [(4, .int (nI (v + 1))), (2, .long (x2 ||| (wO v))), (0, .int y), (1, .int n)]) hx hb dX2_whereTrue_54 hl (k := 1) rfl (nI_1 _) (by decide) rfl (fun ls hl => ?_)
            refine lv_goto (tgt := 5) hx hb dX2_whereTrue_57 (by decide) ?_
            refine ih (v + 1) _ hlt (by omega) (yLw_s hI (fun k hk => ?_)) ls (lv_sub hl [0, 1, 2, 3] rfl)
            rw [zb_or, wO_in v hlt k hk, hy1, hn1]
            cases k.testBit v <;> simp
          · have hn1 : yb n v = true := by
              cases q : yb n v
              · exact absurd ((y_shr1 (by omega)).mpr q) cb_28
              · rfl
            refine lv_lload_n hx hb dX2_whereTrue_41 rfl (lv_at hl 0 rfl) ?_
            refine va_gets (C := "ClauseYard$Search") (n := "WHERE_ONE") (d := "[J") (v := .ref tw) hx hb hZ hS hown (htA _ lkX2_72) (fun _ h9 => h9) dX2_whereTrue_42 ?_
            refine lv_iload hx hb dX2_whereTrue_45 (lv_at hl 1 rfl) ?_
            refine va_tl hx hb hT hS (vp_in_nI hlt (by decide)) (v := .long (wO v)) (by show Value.long (wO (nI v).toNatClampNeg) = _; rw [nI_clamp (by omega)]) dX2_whereTrue_47 ?_
            refine lv_ldc2 (own := RX2) (v := (-1)) hx hb hown (htA _ lkX2_42) dX2_whereTrue_48 ?_
            refine lv_lxor hx hb dX2_whereTrue_51 ?_
            refine lv_lor hx hb dX2_whereTrue_52 ?_
            refine lv_lstore_n (lv' := [(2, .long ((x2 ||| (wO v)) ||| ((wO v) ^^^ (-1)))), (4, .int (nI v)), (0, .int y), (1, .int n)]) hx hb dX2_whereTrue_53 rfl hl (by decide) rfl (fun ls hl => ?_)
            refine lv_iinc (v := nI (v + 1)) (lv' := [(4, .int (nI (v + 1))), (2, .long ((x2 ||| (wO v)) ||| ((wO v) ^^^ (-1)))), (0, .int y), (1, .int n)]) hx hb dX2_whereTrue_54 hl (k := 1) rfl (nI_1 _) (by decide) rfl (fun ls hl => ?_)
            refine lv_goto (tgt := 5) hx hb dX2_whereTrue_57 (by decide) ?_
            refine ih (v + 1) _ hlt (by omega) (yLw_s hI (fun k hk => ?_)) ls (lv_sub hl [0, 1, 2, 3] rfl)
            rw [zb_or, zb_or, zb_not _ hk, wO_in v hlt k hk, hy1, hn1]
            cases k.testBit v <;> simp
  exact loop 7 0 0 (by omega) (by omega) yLw_0 ls hl
set_option maxHeartbeats 4000000 in
set_option maxRecDepth 100000 in
theorem c_write (l : Launch) (dC : Nat → ClassId) (dI : Nat → Nat → Nat) (hs : Nat) (q1 : Nat) (q2 : Nat) (q7 : Nat) (q5 : Nat) (q6 : Nat) (k1 : ClassId) (k2 : ClassId) (k7 : ClassId) (f1 : Nat → Int32) (f2 : Nat → Int32) (f7 : Nat → Int64) (bY : Int32) (bN : Int32) (fd : Int64) (k : Nat) (y : Int32) (n : Int32) (sz : Nat) (hk : k < 420) : Met l yX2_write wsX2_write ({ frames := 1, cells := 0, slots := 0, locals := 30 }) (va_Pc [.ref hs, .int (nI k), .int y, .int n] (fun U => U.heap.size = sz ∧ va_P (dC, dI) vwCl [sO hs q1 q2 q7 q5 q6 bY bN fd, (q1, .inl (k1, 420, .inl f1)), (q2, .inl (k2, 420, .inl f2)), (q7, .inl (k7, 420, .inr (.inl f7)))] U.heap ∧ va_K (dC, dI) vwCl [(k1, .int), (k2, .int), (k7, .long)] U ∧ va_D (fun _ => True) [sO hs q1 q2 q7 q5 q6 bY bN fd, (q1, .inl (k1, 420, .inl f1)), (q2, .inl (k2, 420, .inl f2)), (q7, .inl (k7, 420, .inr (.inl f7)))] ∧ yStat (va_A [sO hs q1 q2 q7 q5 q6 bY bN fd, (q1, .inl (k1, 420, .inl f1)), (q2, .inl (k2, 420, .inl f2)), (q7, .inl (k7, 420, .inr (.inl f7)))] sz) U U.heap)) (va_Qv (fun (u : (Nat → Int32) × (Nat → Int32) × (Nat → Int64)) => u.1 = upd f1 k (y &&& 262080) ∧ u.2.1 = upd f2 k (n &&& 262080) ∧ ∃ w, yLw 6 y n w ∧ u.2.2 = vp_updL f7 k w) (fun (u : (Nat → Int32) × (Nat → Int32) × (Nat → Int64)) (t : State) => va_P (dC, dI) vwCl [sO hs q1 q2 q7 q5 q6 bY bN fd, (q1, .inl (k1, 420, .inl u.1)), (q2, .inl (k2, 420, .inl u.2.1)), (q7, .inl (k7, 420, .inr (.inl u.2.2)))] t.heap ∧ va_K (dC, dI) vwCl [(k1, .int), (k2, .int), (k7, .long)] t ∧ va_D (va_A [sO hs q1 q2 q7 q5 q6 bY bN fd, (q1, .inl (k1, 420, .inl f1)), (q2, .inl (k2, 420, .inl f2)), (q7, .inl (k7, 420, .inr (.inl f7)))] sz) [sO hs q1 q2 q7 q5 q6 bY bN fd, (q1, .inl (k1, 420, .inl u.1)), (q2, .inl (k2, 420, .inl u.2.1)), (q7, .inl (k7, 420, .inr (.inl u.2.2)))]) (va_A [sO hs q1 q2 q7 q5 q6 bY bN fd, (q1, .inl (k1, 420, .inl f1)), (q2, .inl (k2, 420, .inl f2)), (q7, .inl (k7, 420, .inr (.inl f7)))] sz)) 0 0 (va_A [sO hs q1 q2 q7 q5 q6 bY bN fd, (q1, .inl (k1, 420, .inl f1)), (q2, .inl (k2, 420, .inl f2)), (q7, .inl (k7, 420, .inr (.inl f7)))] sz) := by
  refine Met.ofW (cc := cX2_write) (maxL := 4) (ret := none) (by decide) rfl ?_
  intro p e s m args below meth c s₁ B hml hv
  obtain ⟨rfl, hsz, hP, hK, hD0, hST⟩ := hv
  have hx := B.exec
  have hb := B.bytes
  have hr := B.returns
  have hts := atoms_spec (ws := wsX2_write) B.pre
  have htA : ∀ w ∈ wsA, w.before _ s = true := fun w h => hts w (List.mem_cons_of_mem _ h)
  have hown : s.vm.findClass RX2 = some m.cls := findClass_of_methodNamed B.named
  have hlocks := B.notSynchronized
  subst hsz
  have hD := hD0.self (sz := s.heap.size)
  generalize hAe : va_A [sO hs q1 q2 q7 q5 q6 bY bN fd, (q1, .inl (k1, 420, .inl f1)), (q2, .inl (k2, 420, .inl f2)), (q7, .inl (k7, 420, .inr (.inl f7)))] s.heap.size = A at hD hST ⊢
  have hA : ∀ q : Nat, s.heap.size ≤ q → A q := fun q h => by rw [← hAe]; exact Or.inr h
  have hS : va_S A s.heap s.heap [] := va_S.rf
  have hP : va_P (dC, dI) vwCl [sO hs q1 q2 q7 q5 q6 bY bN fd, (q1, .inl (k1, 420, .inl f1)), (q2, .inl (k2, 420, .inl f2)), (q7, .inl (k7, 420, .inr (.inl f7)))] s.heap := hP
  have hl := lv_entry ([.ref hs, .int (nI k), .int y, .int n]) (n := 4) (Nat.le_of_ble_eq_true rfl)
  rw [lg_entry_eq]
  generalize (lg_sl ([.ref hs, .int (nI k), .int y, .int n]) ++ List.replicate (4 - (lg_sl ([.ref hs, .int (nI k), .int y, .int n])).length) Slot.unset).toArray = ls at hl ⊢
  have hl : lv_has ls 4 [(0, .ref hs), (1, .int (nI k)), (2, .int y), (3, .int n)] := hl
  refine lv_aload_n hx hb dX2_write_0 rfl (lv_at hl 0 rfl) ?_
  refine lv_iload_n hx hb dX2_write_1 rfl (lv_at hl 1 rfl) ?_
  refine lv_iload_n hx hb dX2_write_2 rfl (lv_at hl 2 rfl) ?_
  refine lv_ldc (own := RX2) (v := 262080) hx hb hown (htA _ lkX2_28) dX2_write_3 ?_
  refine lv_iand hx hb dX2_write_5 ?_
  refine lv_iload_n hx hb dX2_write_6 rfl (lv_at hl 3 rfl) ?_
  refine lv_ldc (own := RX2) (v := 262080) hx hb hown (htA _ lkX2_28) dX2_write_7 ?_
  refine lv_iand hx hb dX2_write_9 ?_
  refine lv_iload_n hx hb dX2_write_10 rfl (lv_at hl 2 rfl) ?_
  refine lv_iload_n hx hb dX2_write_11 rfl (lv_at hl 3 rfl) ?_
  have hPc := hP.sub (ws' := []) [] rfl
  have hDc := hD.sub (ws' := []) [] (by decide) rfl
  have hKc := hK.sub (tys' := []) [] rfl
  have hFc := va_free (wc := []) hD hS hA [] rfl
  refine va_calll (va_runS (As := [.int y, .int n]) (rest := [.int (n &&& 262080), .int (y &&& 262080), .int (nI k), .ref hs]) ⟨hx, hb, hml, hown, htA⟩ (c_whereTrue l dC dI y n s.heap.size) (va_cwS 2 htA gX2_29 rfl rfl rfl (by decide +kernel) ⟨Nat.le_of_ble_eq_true rfl, Nat.le_of_ble_eq_true rfl⟩) ⟨fun a U g mk q => by obtain ⟨q0, q1, qP, qK, qD, qS⟩ := q; exact ⟨q0, q1, qP, va_K.moved (u := U) (U := U.calling g mk a) (Vm.Alike.refl U.vm) qK, qD, yStat.moved (u := U) (U := U.calling g mk a) (Vm.Alike.refl U.vm) qS⟩, fun U hU hW => ⟨rfl, by rw [hU], by rw [hU]; exact hPc, va_K.moved hW.alike hKc, hDc.weaken (fun _ _ _ _ => trivial), by rw [hU]; exact ((yStat.moved hW.alike hST).kept hS.2.1).narrow (fun q9 h9 => hFc q9 h9)⟩⟩ rfl rfl hl.1 rfl (lv_room (Nat.le_of_ble_eq_true rfl)) dX2_write_12 ⟨Nat.zero_le _, Nat.zero_le _⟩) hS (fun q _ h => hFc q h) hFc (fun rw9 u t H1 locs ht hvm hw hB hz1 hk1 hS => ?_)
  obtain ⟨hP1, hK1, hD1⟩ := hB
  rw [ht] at hP1
  try dsimp only at hw hP1 hD1
  obtain ⟨hP, hD⟩ := va_join (wr := [sO hs q1 q2 q7 q5 q6 bY bN fd, (q1, .inl (k1, 420, .inl f1)), (q2, .inl (k2, 420, .inl f2)), (q7, .inl (k7, 420, .inr (.inl f7)))]) (w1 := []) hP hD [] [0, 1, 2, 3] rfl rfl (by decide) (by decide) hk1 hFc hP1 hD1
  generalize H1 = H at hP hS ⊢
  have hP : va_P (dC, dI) vwCl [sO hs q1 q2 q7 q5 q6 bY bN fd, (q1, .inl (k1, 420, .inl f1)), (q2, .inl (k2, 420, .inl f2)), (q7, .inl (k7, 420, .inr (.inl f7)))] H := hP.sub [0, 1, 2, 3] rfl
  have hD : va_D A [sO hs q1 q2 q7 q5 q6 bY bN fd, (q1, .inl (k1, 420, .inl f1)), (q2, .inl (k2, 420, .inl f2)), (q7, .inl (k7, 420, .inr (.inl f7)))] := hD.sub [0, 1, 2, 3] (by decide) rfl
  have hw0 := hw
  have hPc := hP.sub (ws' := [sO hs q1 q2 q7 q5 q6 bY bN fd, (q1, .inl (k1, 420, .inl f1)), (q2, .inl (k2, 420, .inl f2)), (q7, .inl (k7, 420, .inr (.inl f7)))]) [0, 1, 2, 3] rfl
  have hDc := hD.sub (ws' := [sO hs q1 q2 q7 q5 q6 bY bN fd, (q1, .inl (k1, 420, .inl f1)), (q2, .inl (k2, 420, .inl f2)), (q7, .inl (k7, 420, .inr (.inl f7)))]) [0, 1, 2, 3] (by decide) rfl
  have hKc := hK.sub (tys' := [(k1, .int), (k2, .int), (k7, .long)]) [0, 1, 2] rfl
  have hFc := va_free (wc := [sO hs q1 q2 q7 q5 q6 bY bN fd, (q1, .inl (k1, 420, .inl f1)), (q2, .inl (k2, 420, .inl f2)), (q7, .inl (k7, 420, .inr (.inl f7)))]) hD hS hA [0, 1, 2, 3] rfl
  refine va_callv (va_runV (As := [.int (nI k), .int (y &&& 262080), .int (n &&& 262080), .long rw9]) (rest := []) ⟨hx, hb, hml, hown, htA⟩ (c_writeParts l dC dI hs q1 q2 q7 q5 q6 k1 k2 k7 f1 f2 f7 bY bN fd k (y &&& 262080) (n &&& 262080) rw9 H.size hk) (cwV 4 htA gX2_33 rfl rfl rfl (by decide +kernel) ⟨Nat.le_of_ble_eq_true rfl, Nat.le_of_ble_eq_true rfl⟩) ⟨fun a U g mk q => by obtain ⟨q0, q1, qP, qK, qD⟩ := q; exact ⟨q0, q1, qP, va_K.moved (u := U) (U := U.calling g mk a) (Vm.Alike.refl U.vm) qK, qD⟩, va_recv hKc hPc (ci := 2) (q0 := 0) rfl rfl, fun U hU hW => ⟨rfl, by rw [hU], by rw [hU]; exact hPc, va_K.moved hW.alike hKc, hDc.weaken (fun _ _ _ _ => trivial)⟩⟩ rfl rfl hl.1 rfl (lv_room (Nat.le_of_ble_eq_true rfl)) dX2_write_15 ⟨Nat.zero_le _, Nat.zero_le _⟩) hS (fun q _ h => hFc q h) hFc (fun u t H1 locs ht hvm hw hB hz1 hk1 hS => ?_)
  obtain ⟨d1, d2, d7⟩ := u
  obtain ⟨hP1, hK1, hD1⟩ := hB
  rw [ht] at hP1
  try dsimp only at hw hP1 hD1
  obtain ⟨hP, hD⟩ := va_join (wr := []) (w1 := [sO hs q1 q2 q7 q5 q6 bY bN fd, (q1, .inl (k1, 420, .inl d1)), (q2, .inl (k2, 420, .inl d2)), (q7, .inl (k7, 420, .inr (.inl d7)))]) hP hD [0, 1, 2, 3] [] rfl rfl (by decide) (by decide) hk1 hFc hP1 hD1
  generalize H1 = H at hP hS ⊢
  have hP : va_P (dC, dI) vwCl [sO hs q1 q2 q7 q5 q6 bY bN fd, (q1, .inl (k1, 420, .inl d1)), (q2, .inl (k2, 420, .inl d2)), (q7, .inl (k7, 420, .inr (.inl d7)))] H := hP.sub [0, 1, 2, 3] rfl
  have hD : va_D A [sO hs q1 q2 q7 q5 q6 bY bN fd, (q1, .inl (k1, 420, .inl d1)), (q2, .inl (k2, 420, .inl d2)), (q7, .inl (k7, 420, .inr (.inl d7)))] := hD.sub [0, 1, 2, 3] (by decide) rfl
  exact W.vret hx hb hr (fun t ht hW => ⟨⟨(d1, d2, d7), rfl, ⟨hw.1, hw.2.1, rw9, hw0, hw.2.2⟩, by rw [ht]; exact hP, va_K.moved hW.alike hK, hD⟩, hS.F ht⟩) hS.2.2 dX2_write_18
set_option maxHeartbeats 4000000 in
set_option maxRecDepth 100000 in
theorem c_giveReasons (l : Launch) (dC : Nat → ClassId) (dI : Nat → Nat → Nat) (hs : Nat) (q1 : Nat) (q2 : Nat) (q7 : Nat) (q5 : Nat) (q6 : Nat) (k5 : ClassId) (k6 : ClassId) (f5 : Nat → Int32) (f6 : Nat → Int32) (bY : Int32) (bN : Int32) (fd : Int64) (st : Nat) (sz : Nat)  : Met l yX2_giveReasonsOfStart wsX2_giveReasonsOfStart ({ frames := 0, cells := 0, slots := 0, locals := 0 }) (va_Pc [.ref hs, .int (nI st)] (fun U => U.heap.size = sz ∧ va_P (dC, dI) vwCl [sO hs q1 q2 q7 q5 q6 bY bN fd, (q5, .inl (k5, 18, .inl f5)), (q6, .inl (k6, 18, .inl f6))] U.heap ∧ va_K (dC, dI) vwCl [(k5, .int), (k6, .int)] U ∧ va_D (fun _ => True) [sO hs q1 q2 q7 q5 q6 bY bN fd, (q5, .inl (k5, 18, .inl f5)), (q6, .inl (k6, 18, .inl f6))])) (va_Qv (fun (u : (Nat → Int32) × (Nat → Int32)) => ∀ v, 6 ≤ v → v < 18 → u.1 v = (262143 &&& (nI st ^^^ (-1))) &&& ((-2 : Int32) <<< (nI v &&& 31)) ∧ u.2 v = (nI st ^^^ (-1)) &&& ((1 : Int32) <<< (nI v &&& 31))) (fun (u : (Nat → Int32) × (Nat → Int32)) (t : State) => va_P (dC, dI) vwCl [sO hs q1 q2 q7 q5 q6 bY bN fd, (q5, .inl (k5, 18, .inl u.1)), (q6, .inl (k6, 18, .inl u.2))] t.heap ∧ va_K (dC, dI) vwCl [(k5, .int), (k6, .int)] t ∧ va_D (va_A [sO hs q1 q2 q7 q5 q6 bY bN fd, (q5, .inl (k5, 18, .inl f5)), (q6, .inl (k6, 18, .inl f6))] sz) [sO hs q1 q2 q7 q5 q6 bY bN fd, (q5, .inl (k5, 18, .inl u.1)), (q6, .inl (k6, 18, .inl u.2))]) (va_A [sO hs q1 q2 q7 q5 q6 bY bN fd, (q5, .inl (k5, 18, .inl f5)), (q6, .inl (k6, 18, .inl f6))] sz)) 0 0 (va_A [sO hs q1 q2 q7 q5 q6 bY bN fd, (q5, .inl (k5, 18, .inl f5)), (q6, .inl (k6, 18, .inl f6))] sz) := by
  refine Met.ofW (cc := cX2_giveReasonsOfStart) (maxL := 3) (ret := none) (by decide) rfl ?_
  intro p e s m args below meth c s₁ B hml hv
  obtain ⟨rfl, hsz, hP, hK, hD0⟩ := hv
  have hx := B.exec
  have hb := B.bytes
  have hr := B.returns
  have hts := atoms_spec (ws := wsX2_giveReasonsOfStart) B.pre
  have htA : ∀ w ∈ wsA, w.before _ s = true := fun w h => hts w (List.mem_cons_of_mem _ h)
  have hown : s.vm.findClass RX2 = some m.cls := findClass_of_methodNamed B.named
  have hlocks := B.notSynchronized
  subst hsz
  have hD := hD0.self (sz := s.heap.size)
  generalize hAe : va_A [sO hs q1 q2 q7 q5 q6 bY bN fd, (q5, .inl (k5, 18, .inl f5)), (q6, .inl (k6, 18, .inl f6))] s.heap.size = A at hD ⊢
  have hA : ∀ q : Nat, s.heap.size ≤ q → A q := fun q h => by rw [← hAe]; exact Or.inr h
  have hS : va_S A s.heap s.heap [] := va_S.rf
  have hP : va_P (dC, dI) vwCl [sO hs q1 q2 q7 q5 q6 bY bN fd, (q5, .inl (k5, 18, .inl f5)), (q6, .inl (k6, 18, .inl f6))] s.heap := hP
  have hl := lv_entry ([.ref hs, .int (nI st)]) (n := 3) (Nat.le_of_ble_eq_true rfl)
  rw [lg_entry_eq]
  generalize (lg_sl ([.ref hs, .int (nI st)]) ++ List.replicate (3 - (lg_sl ([.ref hs, .int (nI st)])).length) Slot.unset).toArray = ls at hl ⊢
  have hl : lv_has ls 3 [(0, .ref hs), (1, .int (nI st))] := hl
  refine lv_bipush (v := 6) hx hb dX2_giveReasonsOfStart_0 (by decide) ?_
  refine lv_istore_n (lv' := [(2, .int 6), (0, .ref hs), (1, .int (nI st))]) hx hb dX2_giveReasonsOfStart_2 rfl hl (by decide) rfl (fun ls hl => ?_)
  have loop : ∀ (fu i : Nat) (g5 g6 : Nat → Int32), i ≤ 18 → 19 ≤ i + fu → (∀ v, 6 ≤ v → v < i → g5 v = (262143 &&& (nI st ^^^ (-1))) &&& ((-2 : Int32) <<< (nI v &&& 31)) ∧ g6 v = (nI st ^^^ (-1)) &&& ((1 : Int32) <<< (nI v &&& 31))) → ∀ (H : Heap) (locs : List Loc), va_P (dC, dI) vwCl [sO hs q1 q2 q7 q5 q6 bY bN fd, (q5, .inl (k5, 18, .inl g5)), (q6, .inl (k6, 18, .inl g6))] H → va_D A [sO hs q1 q2 q7 q5 q6 bY bN fd, (q5, .inl (k5, 18, .inl g5)), (q6, .inl (k6, 18, .inl g6))] → va_S A s.heap H locs → ∀ (ls : Array Slot), lv_has ls 3 [(2, .int (nI i)), (0, .ref hs), (1, .int (nI st))] → W p l e (headSpec wsX2_giveReasonsOfStart ({ frames := 0, cells := 0, slots := 0, locals := 0 })).room s m ([.ref hs, .int (nI st)] : List Value).toArray below meth c H locs 0 0 (MQ below (va_Qv (fun (u : (Nat → Int32) × (Nat → Int32)) => ∀ v, 6 ≤ v → v < 18 → u.1 v = (262143 &&& (nI st ^^^ (-1))) &&& ((-2 : Int32) <<< (nI v &&& 31)) ∧ u.2 v = (nI st ^^^ (-1)) &&& ((1 : Int32) <<< (nI v &&& 31))) (fun (u : (Nat → Int32) × (Nat → Int32)) (t : State) => va_P (dC, dI) vwCl [sO hs q1 q2 q7 q5 q6 bY bN fd, (q5, .inl (k5, 18, .inl u.1)), (q6, .inl (k6, 18, .inl u.2))] t.heap ∧ va_K (dC, dI) vwCl [(k5, .int), (k6, .int)] t ∧ va_D A [sO hs q1 q2 q7 q5 q6 bY bN fd, (q5, .inl (k5, 18, .inl u.1)), (q6, .inl (k6, 18, .inl u.2))]) A) ([.ref hs, .int (nI st)] : List Value).toArray s 0 0 A) (F0 m 3 ls []) := by
    intro fu
    induction fu with
    | zero =>
      intro i g5 g6 h1 h2
      exact absurd h2 (by omega)
    | succ fu ih =>
      intro i g5 g6 hi hin hI H locs hP hD hS ls hl
      refine lv_iload_n hx hb dX2_giveReasonsOfStart_3 rfl (lv_at hl 0 rfl) ?_
      refine lv_bipush (v := 18) hx hb dX2_giveReasonsOfStart_4 (by decide) ?_
      refine lv_icmp_ge (tgt := 45) hx hb dX2_giveReasonsOfStart_6 (by decide) (fun cb_30 => ?_) (fun cb_30 => ?_)
      · have hie : i = 18 := by
          rcases Nat.lt_or_ge i 18 with q | q
          · exact absurd cb_30 (nI_ge (b := 18) q (by omega))
          · omega
        subst hie
        exact W.vret hx hb hr (fun t ht hW => ⟨⟨(g5, g6), rfl, hI, by rw [ht]; exact hP, va_K.moved hW.alike hK, hD⟩, hS.F ht⟩) hS.2.2 dX2_giveReasonsOfStart_45
      · have hlt : i < 18 := by
          rcases Nat.lt_or_ge i 18 with q | q
          · exact q
          · exact absurd (nI_le (a := 18) q (by omega)) cb_30
        refine lv_aload_n hx hb dX2_giveReasonsOfStart_9 rfl (lv_at hl 1 rfl) ?_
        refine va_get (D := (dC, dI)) (ci := 2) (v := .ref q5) (C := RX2) (T := TX2) (N := 8) hx hb htA inX2 hown hK hP 0 rfl rfl 3 (by decide) (htA _ lkX2_22) (fun _ h9 => h9) rfl dX2_giveReasonsOfStart_10 ?_
        refine lv_iload_n hx hb dX2_giveReasonsOfStart_13 rfl (lv_at hl 0 rfl) ?_
        refine lv_ldc (own := RX2) (v := 262143) hx hb hown (htA _ lkX2_37) dX2_giveReasonsOfStart_14 ?_
        refine lv_iload_n hx hb dX2_giveReasonsOfStart_16 rfl (lv_at hl 2 rfl) ?_
        refine lv_iconst (v := (-1)) hx hb dX2_giveReasonsOfStart_17 (by decide) ?_
        refine lv_ixor hx hb dX2_giveReasonsOfStart_18 ?_
        refine lv_iand hx hb dX2_giveReasonsOfStart_19 ?_
        refine lv_bipush (v := (-2)) hx hb dX2_giveReasonsOfStart_20 (by decide) ?_
        refine lv_iload_n hx hb dX2_giveReasonsOfStart_22 rfl (lv_at hl 0 rfl) ?_
        refine lv_ishl hx hb dX2_giveReasonsOfStart_23 ?_
        refine lv_iand hx hb dX2_giveReasonsOfStart_24 ?_
        refine yv_iast hx hb hK hP hD hS 1 0 rfl rfl (k := i) hlt (by decide) dX2_giveReasonsOfStart_25 (fun H locs hP hD hS => ?_)
        have hP : va_P (dC, dI) vwCl [sO hs q1 q2 q7 q5 q6 bY bN fd, (q5, .inl (k5, 18, .inl (upd g5 i ((262143 &&& ((nI st) ^^^ (-1))) &&& ((-2 : Int32) <<< ((nI i) &&& 31)))))), (q6, .inl (k6, 18, .inl g6))] H := hP
        have hD : va_D A [sO hs q1 q2 q7 q5 q6 bY bN fd, (q5, .inl (k5, 18, .inl (upd g5 i ((262143 &&& ((nI st) ^^^ (-1))) &&& ((-2 : Int32) <<< ((nI i) &&& 31)))))), (q6, .inl (k6, 18, .inl g6))] := hD
        refine lv_aload_n hx hb dX2_giveReasonsOfStart_26 rfl (lv_at hl 1 rfl) ?_
        refine va_get (D := (dC, dI)) (ci := 2) (v := .ref q6) (C := RX2) (T := TX2) (N := 8) hx hb htA inX2 hown hK hP 0 rfl rfl 4 (by decide) (htA _ lkX2_25) (fun _ h9 => h9) rfl dX2_giveReasonsOfStart_27 ?_
        refine lv_iload_n hx hb dX2_giveReasonsOfStart_30 rfl (lv_at hl 0 rfl) ?_
        refine lv_iload_n hx hb dX2_giveReasonsOfStart_31 rfl (lv_at hl 2 rfl) ?_
        refine lv_iconst (v := (-1)) hx hb dX2_giveReasonsOfStart_32 (by decide) ?_
        refine lv_ixor hx hb dX2_giveReasonsOfStart_33 ?_
        refine lv_iconst (v := 1) hx hb dX2_giveReasonsOfStart_34 (by decide) ?_
        refine lv_iload_n hx hb dX2_giveReasonsOfStart_35 rfl (lv_at hl 0 rfl) ?_
        refine lv_ishl hx hb dX2_giveReasonsOfStart_36 ?_
        refine lv_iand hx hb dX2_giveReasonsOfStart_37 ?_
        refine yv_iast hx hb hK hP hD hS 2 1 rfl rfl (k := i) hlt (by decide) dX2_giveReasonsOfStart_38 (fun H locs hP hD hS => ?_)
        have hP : va_P (dC, dI) vwCl [sO hs q1 q2 q7 q5 q6 bY bN fd, (q5, .inl (k5, 18, .inl (upd g5 i ((262143 &&& ((nI st) ^^^ (-1))) &&& ((-2 : Int32) <<< ((nI i) &&& 31)))))), (q6, .inl (k6, 18, .inl (upd g6 i (((nI st) ^^^ (-1)) &&& ((1 : Int32) <<< ((nI i) &&& 31))))))] H := hP
        have hD : va_D A [sO hs q1 q2 q7 q5 q6 bY bN fd, (q5, .inl (k5, 18, .inl (upd g5 i ((262143 &&& ((nI st) ^^^ (-1))) &&& ((-2 : Int32) <<< ((nI i) &&& 31)))))), (q6, .inl (k6, 18, .inl (upd g6 i (((nI st) ^^^ (-1)) &&& ((1 : Int32) <<< ((nI i) &&& 31))))))] := hD
        refine lv_iinc (v := nI (i + 1)) (lv' := [(2, .int (nI (i + 1))), (0, .ref hs), (1, .int (nI st))]) hx hb dX2_giveReasonsOfStart_39 hl (k := 0) rfl (nI_1 _) (by decide) rfl (fun ls hl => ?_)
        refine lv_goto (tgt := 3) hx hb dX2_giveReasonsOfStart_42 (by decide) ?_
        refine ih (i + 1) _ _ hlt (by omega) ?_ _ _ hP hD hS ls (lv_sub hl [0, 1, 2] rfl)
        intro v hv6 hv
        by_cases e : v = i
        · subst e
          exact ⟨pk_us, pk_us⟩
        · rw [pk_un e, pk_un e]
          exact hI v hv6 (by omega)
  exact loop 19 6 f5 f6 (by omega) (by omega) (fun v hv6 hv => absurd hv (by omega)) _ _ hP hD hS ls hl
set_option maxHeartbeats 4000000 in
set_option maxRecDepth 100000 in
theorem c_goodByLow (l : Launch) (dC : Nat → ClassId) (dI : Nat → Nat → Nat) (hs : Nat) (q1 : Nat) (q2 : Nat) (q7 : Nat) (q5 : Nat) (q6 : Nat) (k1 : ClassId) (k2 : ClassId) (k7 : ClassId) (f1 : Nat → Int32) (f2 : Nat → Int32) (f7 : Nat → Int64) (bY : Int32) (bN : Int32) (fd : Int64) (rs : Nat) (sz : Nat) (hrs : rs ≤ 420) : Met l yX2_goodByLowAlone wsX2_goodByLowAlone ({ frames := 0, cells := 0, slots := 0, locals := 0 }) (va_Pc [.ref hs, .int (nI rs)] (fun U => U.heap.size = sz ∧ va_P (dC, dI) vwCl [sO hs q1 q2 q7 q5 q6 bY bN fd, (q1, .inl (k1, 420, .inl f1)), (q2, .inl (k2, 420, .inl f2)), (q7, .inl (k7, 420, .inr (.inl f7)))] U.heap ∧ va_K (dC, dI) vwCl [(k1, .int), (k2, .int), (k7, .long)] U ∧ va_D (fun _ => True) [sO hs q1 q2 q7 q5 q6 bY bN fd, (q1, .inl (k1, 420, .inl f1)), (q2, .inl (k2, 420, .inl f2)), (q7, .inl (k7, 420, .inr (.inl f7)))])) (va_Ql (fun (r : Int64) (u : Unit) => ∀ a, (∀ j, j < rs → scl (f1 j) (f2 j) (f7 j) a) → zb r (a % 64) = true) (fun (u : Unit) (t : State) => va_P (dC, dI) vwCl [sO hs q1 q2 q7 q5 q6 bY bN fd, (q1, .inl (k1, 420, .inl f1)), (q2, .inl (k2, 420, .inl f2)), (q7, .inl (k7, 420, .inr (.inl f7)))] t.heap ∧ va_K (dC, dI) vwCl [(k1, .int), (k2, .int), (k7, .long)] t ∧ va_D (va_A [sO hs q1 q2 q7 q5 q6 bY bN fd, (q1, .inl (k1, 420, .inl f1)), (q2, .inl (k2, 420, .inl f2)), (q7, .inl (k7, 420, .inr (.inl f7)))] sz) [sO hs q1 q2 q7 q5 q6 bY bN fd, (q1, .inl (k1, 420, .inl f1)), (q2, .inl (k2, 420, .inl f2)), (q7, .inl (k7, 420, .inr (.inl f7)))]) (va_A [sO hs q1 q2 q7 q5 q6 bY bN fd, (q1, .inl (k1, 420, .inl f1)), (q2, .inl (k2, 420, .inl f2)), (q7, .inl (k7, 420, .inr (.inl f7)))] sz)) 0 0 (va_A [sO hs q1 q2 q7 q5 q6 bY bN fd, (q1, .inl (k1, 420, .inl f1)), (q2, .inl (k2, 420, .inl f2)), (q7, .inl (k7, 420, .inr (.inl f7)))] sz) := by
  refine Met.ofW (cc := cX2_goodByLowAlone) (maxL := 5) (ret := (some .long)) (by decide) rfl ?_
  intro p e s m args below meth c s₁ B hml hv
  obtain ⟨rfl, hsz, hP, hK, hD0⟩ := hv
  have hx := B.exec
  have hb := B.bytes
  have hr := B.returns
  have hts := atoms_spec (ws := wsX2_goodByLowAlone) B.pre
  have htA : ∀ w ∈ wsA, w.before _ s = true := fun w h => hts w (List.mem_cons_of_mem _ h)
  have hown : s.vm.findClass RX2 = some m.cls := findClass_of_methodNamed B.named
  have hlocks := B.notSynchronized
  subst hsz
  have hD := hD0.self (sz := s.heap.size)
  generalize hAe : va_A [sO hs q1 q2 q7 q5 q6 bY bN fd, (q1, .inl (k1, 420, .inl f1)), (q2, .inl (k2, 420, .inl f2)), (q7, .inl (k7, 420, .inr (.inl f7)))] s.heap.size = A at hD ⊢
  have hA : ∀ q : Nat, s.heap.size ≤ q → A q := fun q h => by rw [← hAe]; exact Or.inr h
  have hS : va_S A s.heap s.heap [] := va_S.rf
  have hP : va_P (dC, dI) vwCl [sO hs q1 q2 q7 q5 q6 bY bN fd, (q1, .inl (k1, 420, .inl f1)), (q2, .inl (k2, 420, .inl f2)), (q7, .inl (k7, 420, .inr (.inl f7)))] s.heap := hP
  have hl := lv_entry ([.ref hs, .int (nI rs)]) (n := 5) (Nat.le_of_ble_eq_true rfl)
  rw [lg_entry_eq]
  generalize (lg_sl ([.ref hs, .int (nI rs)]) ++ List.replicate (5 - (lg_sl ([.ref hs, .int (nI rs)])).length) Slot.unset).toArray = ls at hl ⊢
  have hl : lv_has ls 5 [(0, .ref hs), (1, .int (nI rs))] := hl
  refine lv_ldc2 (own := RX2) (v := (-1)) hx hb hown (htA _ lkX2_42) dX2_goodByLowAlone_0 ?_
  refine lv_lstore_n (lv' := [(2, .long (-1)), (0, .ref hs), (1, .int (nI rs))]) hx hb dX2_goodByLowAlone_3 rfl hl (by decide) rfl (fun ls hl => ?_)
  refine lv_iconst (v := 0) hx hb dX2_goodByLowAlone_4 (by decide) ?_
  refine lv_istore (lv' := [(4, .int 0), (2, .long (-1)), (0, .ref hs), (1, .int (nI rs))]) hx hb dX2_goodByLowAlone_5 hl (by decide) rfl (fun ls hl => ?_)
  have loop : ∀ (fu i : Nat) (x2 : Int64), i ≤ rs → rs + 1 ≤ i + fu → (∀ a, (∀ j, j < rs → scl (f1 j) (f2 j) (f7 j) a) → zb x2 (a % 64) = true) → ∀ (ls : Array Slot), lv_has ls 5 [(4, .int (nI i)), (2, .long x2), (0, .ref hs), (1, .int (nI rs))] → W p l e (headSpec wsX2_goodByLowAlone ({ frames := 0, cells := 0, slots := 0, locals := 0 })).room s m ([.ref hs, .int (nI rs)] : List Value).toArray below meth c s.heap [] 0 0 (MQ below (va_Ql (fun (r : Int64) (u : Unit) => ∀ a, (∀ j, j < rs → scl (f1 j) (f2 j) (f7 j) a) → zb r (a % 64) = true) (fun (u : Unit) (t : State) => va_P (dC, dI) vwCl [sO hs q1 q2 q7 q5 q6 bY bN fd, (q1, .inl (k1, 420, .inl f1)), (q2, .inl (k2, 420, .inl f2)), (q7, .inl (k7, 420, .inr (.inl f7)))] t.heap ∧ va_K (dC, dI) vwCl [(k1, .int), (k2, .int), (k7, .long)] t ∧ va_D A [sO hs q1 q2 q7 q5 q6 bY bN fd, (q1, .inl (k1, 420, .inl f1)), (q2, .inl (k2, 420, .inl f2)), (q7, .inl (k7, 420, .inr (.inl f7)))]) A) ([.ref hs, .int (nI rs)] : List Value).toArray s 0 0 A) (F0 m 7 ls []) := by
    intro fu
    induction fu with
    | zero =>
      intro i x2 h1 h2
      exact absurd h2 (by omega)
    | succ fu ih =>
      intro i x2 hi hin hI ls hl
      refine lv_iload hx hb dX2_goodByLowAlone_7 (lv_at hl 0 rfl) ?_
      refine lv_iload_n hx hb dX2_goodByLowAlone_9 rfl (lv_at hl 3 rfl) ?_
      refine lv_icmp_ge (tgt := 55) hx hb dX2_goodByLowAlone_10 (by decide) (fun cb_31 => ?_) (fun cb_31 => ?_)
      · refine lv_lload_n hx hb dX2_goodByLowAlone_55 rfl (lv_at hl 1 rfl) ?_
        exact W.lret (v := x2) hx hb hr (fun t ht hW => ⟨⟨x2, (), rfl, hI, by rw [ht]; exact hP, va_K.moved hW.alike hK, hD⟩, hS.F ht⟩) hS.2.2 dX2_goodByLowAlone_56
      · have hir : i < rs := by
          rcases Nat.lt_or_ge i rs with q | q
          · exact q
          · exact absurd (nI_le q (by omega)) cb_31
        have hlt : i < 420 := by omega
        refine lv_iload hx hb dX2_goodByLowAlone_13 (lv_at hl 0 rfl) ?_
        refine lv_sipush (v := 420) hx hb dX2_goodByLowAlone_15 (by decide) ?_
        refine lv_icmp_ge (tgt := 55) hx hb dX2_goodByLowAlone_18 (by decide) (fun cb_32 => ?_) (fun cb_32 => ?_)
        · exact absurd cb_32 (nI_ge (b := 420) hlt (by omega))
        · refine lv_aload_n hx hb dX2_goodByLowAlone_21 rfl (lv_at hl 2 rfl) ?_
          refine va_get (D := (dC, dI)) (ci := 2) (v := .ref q1) (C := RX2) (T := TX2) (N := 8) hx hb htA inX2 hown hK hP 0 rfl rfl 0 (by decide) (htA _ lkX2_11) (fun _ h9 => h9) rfl dX2_goodByLowAlone_22 ?_
          refine lv_iload hx hb dX2_goodByLowAlone_25 (lv_at hl 0 rfl) ?_
          refine yv_iald hx hb hK hP 1 0 rfl rfl (k := i) hlt (by decide) dX2_goodByLowAlone_27 ?_
          refine lv_aload_n hx hb dX2_goodByLowAlone_28 rfl (lv_at hl 2 rfl) ?_
          refine va_get (D := (dC, dI)) (ci := 2) (v := .ref q2) (C := RX2) (T := TX2) (N := 8) hx hb htA inX2 hown hK hP 0 rfl rfl 1 (by decide) (htA _ lkX2_15) (fun _ h9 => h9) rfl dX2_goodByLowAlone_29 ?_
          refine lv_iload hx hb dX2_goodByLowAlone_32 (lv_at hl 0 rfl) ?_
          refine yv_iald hx hb hK hP 2 1 rfl rfl (k := i) hlt (by decide) dX2_goodByLowAlone_34 ?_
          refine lv_ior hx hb dX2_goodByLowAlone_35 ?_
          refine lv_if_ne (tgt := 49) hx hb dX2_goodByLowAlone_36 (by decide) (fun cb_33 => ?_) (fun cb_33 => ?_)
          · refine lv_iinc (v := nI (i + 1)) (lv' := [(4, .int (nI (i + 1))), (2, .long x2), (0, .ref hs), (1, .int (nI rs))]) hx hb dX2_goodByLowAlone_49 hl (k := 0) rfl (nI_1 _) (by decide) rfl (fun ls hl => ?_)
            refine lv_goto (tgt := 7) hx hb dX2_goodByLowAlone_52 (by decide) ?_
            exact ih (i + 1) x2 hir (by omega) hI ls (lv_sub hl [0, 1, 2, 3] rfl)
          · refine lv_lload_n hx hb dX2_goodByLowAlone_39 rfl (lv_at hl 1 rfl) ?_
            refine lv_aload_n hx hb dX2_goodByLowAlone_40 rfl (lv_at hl 2 rfl) ?_
            refine va_get (D := (dC, dI)) (ci := 2) (v := .ref q7) (C := RX2) (T := TX2) (N := 8) hx hb htA inX2 hown hK hP 0 rfl rfl 2 (by decide) (htA _ lkX2_18) (fun _ h9 => h9) rfl dX2_goodByLowAlone_41 ?_
            refine lv_iload hx hb dX2_goodByLowAlone_44 (lv_at hl 0 rfl) ?_
            refine yv_lald hx hb hK hP 3 2 rfl rfl (k := i) hlt (by decide) dX2_goodByLowAlone_46 ?_
            refine lv_land hx hb dX2_goodByLowAlone_47 ?_
            refine lv_lstore_n (lv' := [(2, .long (x2 &&& (f7 i))), (4, .int (nI i)), (0, .ref hs), (1, .int (nI rs))]) hx hb dX2_goodByLowAlone_48 rfl hl (by decide) rfl (fun ls hl => ?_)
            refine lv_iinc (v := nI (i + 1)) (lv' := [(4, .int (nI (i + 1))), (2, .long (x2 &&& (f7 i))), (0, .ref hs), (1, .int (nI rs))]) hx hb dX2_goodByLowAlone_49 hl (k := 1) rfl (nI_1 _) (by decide) rfl (fun ls hl => ?_)
            refine lv_goto (tgt := 7) hx hb dX2_goodByLowAlone_52 (by decide) ?_
            refine ih (i + 1) _ hir (by omega) (fun a ha => ?_) ls (lv_sub hl [0, 1, 2, 3] rfl)
            have h9 := ha i hir
            rw [(y_or0 cb_33).1, (y_or0 cb_33).2] at h9
            rw [zb_and, hI a ha, h9.resolve_left ycl_0]
            rfl
  exact loop (rs + 1) 0 (-1) (by omega) (by omega) (fun a _ => zb_m1 _ (by omega)) ls hl
set_option maxHeartbeats 4000000 in
set_option maxRecDepth 100000 in
theorem c_goodInBlock (l : Launch) (dC : Nat → ClassId) (dI : Nat → Nat → Nat) (hs : Nat) (q1 : Nat) (q2 : Nat) (q7 : Nat) (q5 : Nat) (q6 : Nat) (k1 : ClassId) (k2 : ClassId) (k7 : ClassId) (f1 : Nat → Int32) (f2 : Nat → Int32) (f7 : Nat → Int64) (bY : Int32) (bN : Int32) (fd : Int64) (b : Nat) (g0 : Int64) (rs : Nat) (sz : Nat) (hrs : rs ≤ 420) (hb0 : b % 64 = 0) (hm : ∀ j, j < rs → yh (f1 j) ∧ yh (f2 j)) (hg0 : ∀ a, (∀ j, j < rs → scl (f1 j) (f2 j) (f7 j) a) → zb g0 (a % 64) = true) : Met l yX2_goodInBlock wsX2_goodInBlock ({ frames := 0, cells := 0, slots := 0, locals := 0 }) (va_Pc [.ref hs, .int (nI b), .long g0, .int (nI rs)] (fun U => U.heap.size = sz ∧ va_P (dC, dI) vwCl [sO hs q1 q2 q7 q5 q6 bY bN fd, (q1, .inl (k1, 420, .inl f1)), (q2, .inl (k2, 420, .inl f2)), (q7, .inl (k7, 420, .inr (.inl f7)))] U.heap ∧ va_K (dC, dI) vwCl [(k1, .int), (k2, .int), (k7, .long)] U ∧ va_D (fun _ => True) [sO hs q1 q2 q7 q5 q6 bY bN fd, (q1, .inl (k1, 420, .inl f1)), (q2, .inl (k2, 420, .inl f2)), (q7, .inl (k7, 420, .inr (.inl f7)))])) (va_Ql (fun (r : Int64) (u : Int32 × Int32) => (r = 0 → yLI (fun a => ∀ j, j < rs → scl (f1 j) (f2 j) (f7 j) a) b 6 u.1 u.2) ∧ (¬ r = 0 → ∀ k, k < 64 → (zb r k = true ↔ ∀ j, j < rs → scl (f1 j) (f2 j) (f7 j) (b + k)))) (fun (u : Int32 × Int32) (t : State) => va_P (dC, dI) vwCl [sO hs q1 q2 q7 q5 q6 u.1 u.2 fd, (q1, .inl (k1, 420, .inl f1)), (q2, .inl (k2, 420, .inl f2)), (q7, .inl (k7, 420, .inr (.inl f7)))] t.heap ∧ va_K (dC, dI) vwCl [(k1, .int), (k2, .int), (k7, .long)] t ∧ va_D (va_A [sO hs q1 q2 q7 q5 q6 bY bN fd, (q1, .inl (k1, 420, .inl f1)), (q2, .inl (k2, 420, .inl f2)), (q7, .inl (k7, 420, .inr (.inl f7)))] sz) [sO hs q1 q2 q7 q5 q6 u.1 u.2 fd, (q1, .inl (k1, 420, .inl f1)), (q2, .inl (k2, 420, .inl f2)), (q7, .inl (k7, 420, .inr (.inl f7)))]) (va_A [sO hs q1 q2 q7 q5 q6 bY bN fd, (q1, .inl (k1, 420, .inl f1)), (q2, .inl (k2, 420, .inl f2)), (q7, .inl (k7, 420, .inr (.inl f7)))] sz)) 0 0 (va_A [sO hs q1 q2 q7 q5 q6 bY bN fd, (q1, .inl (k1, 420, .inl f1)), (q2, .inl (k2, 420, .inl f2)), (q7, .inl (k7, 420, .inr (.inl f7)))] sz) := by
  refine Met.ofW (cc := cX2_goodInBlock) (maxL := 9) (ret := (some .long)) (by decide) rfl ?_
  intro p e s m args below meth c s₁ B hml hv
  obtain ⟨rfl, hsz, hP, hK, hD0⟩ := hv
  have hx := B.exec
  have hb := B.bytes
  have hr := B.returns
  have hts := atoms_spec (ws := wsX2_goodInBlock) B.pre
  have htA : ∀ w ∈ wsA, w.before _ s = true := fun w h => hts w (List.mem_cons_of_mem _ h)
  have hown : s.vm.findClass RX2 = some m.cls := findClass_of_methodNamed B.named
  have hlocks := B.notSynchronized
  subst hsz
  have hD := hD0.self (sz := s.heap.size)
  generalize hAe : va_A [sO hs q1 q2 q7 q5 q6 bY bN fd, (q1, .inl (k1, 420, .inl f1)), (q2, .inl (k2, 420, .inl f2)), (q7, .inl (k7, 420, .inr (.inl f7)))] s.heap.size = A at hD ⊢
  have hA : ∀ q : Nat, s.heap.size ≤ q → A q := fun q h => by rw [← hAe]; exact Or.inr h
  have hS : va_S A s.heap s.heap [] := va_S.rf
  have hP : va_P (dC, dI) vwCl [sO hs q1 q2 q7 q5 q6 bY bN fd, (q1, .inl (k1, 420, .inl f1)), (q2, .inl (k2, 420, .inl f2)), (q7, .inl (k7, 420, .inr (.inl f7)))] s.heap := hP
  have hl := lv_entry ([.ref hs, .int (nI b), .long g0, .int (nI rs)]) (n := 9) (Nat.le_of_ble_eq_true rfl)
  rw [lg_entry_eq]
  generalize (lg_sl ([.ref hs, .int (nI b), .long g0, .int (nI rs)]) ++ List.replicate (9 - (lg_sl ([.ref hs, .int (nI b), .long g0, .int (nI rs)])).length) Slot.unset).toArray = ls at hl ⊢
  have hl : lv_has ls 9 [(0, .ref hs), (1, .int (nI b)), (2, .long g0), (4, .int (nI rs))] := hl
  refine lv_lload_n hx hb dX2_goodInBlock_0 rfl (lv_at hl 2 rfl) ?_
  refine lv_lstore (lv' := [(5, .long g0), (0, .ref hs), (1, .int (nI b)), (2, .long g0), (4, .int (nI rs))]) hx hb dX2_goodInBlock_1 hl (by decide) rfl (fun ls hl => ?_)
  refine lv_aload_n hx hb dX2_goodInBlock_3 rfl (lv_at hl 1 rfl) ?_
  refine lv_iconst (v := 0) hx hb dX2_goodInBlock_4 (by decide) ?_
  refine va_put (D := (dC, dI)) (ci := 2) (v := .int 0) (ty := .int) (C := RX2) (T := TX2) (N := 8) hx hb htA inX2 tyX2 tyX2_ok nX2 hown hK hP hD hS 0 rfl rfl 5 (by decide) (htA _ lkX2_75) (fun _ h9 => h9) rfl (by decide +kernel) rfl rfl (Nat.le_of_ble_eq_true rfl) dX2_goodInBlock_5 (fun H locs hP hD hS => ?_)
  have hP : va_P (dC, dI) vwCl [sO hs q1 q2 q7 q5 q6 0 bN fd, (q1, .inl (k1, 420, .inl f1)), (q2, .inl (k2, 420, .inl f2)), (q7, .inl (k7, 420, .inr (.inl f7)))] H := hP
  have hD : va_D A [sO hs q1 q2 q7 q5 q6 0 bN fd, (q1, .inl (k1, 420, .inl f1)), (q2, .inl (k2, 420, .inl f2)), (q7, .inl (k7, 420, .inr (.inl f7)))] := hD
  refine lv_aload_n hx hb dX2_goodInBlock_8 rfl (lv_at hl 1 rfl) ?_
  refine lv_iconst (v := 0) hx hb dX2_goodInBlock_9 (by decide) ?_
  refine va_put (D := (dC, dI)) (ci := 2) (v := .int 0) (ty := .int) (C := RX2) (T := TX2) (N := 8) hx hb htA inX2 tyX2 tyX2_ok nX2 hown hK hP hD hS 0 rfl rfl 6 (by decide) (htA _ lkX2_79) (fun _ h9 => h9) rfl (by decide +kernel) rfl rfl (Nat.le_of_ble_eq_true rfl) dX2_goodInBlock_10 (fun H locs hP hD hS => ?_)
  have hP : va_P (dC, dI) vwCl [sO hs q1 q2 q7 q5 q6 0 0 fd, (q1, .inl (k1, 420, .inl f1)), (q2, .inl (k2, 420, .inl f2)), (q7, .inl (k7, 420, .inr (.inl f7)))] H := hP
  have hD : va_D A [sO hs q1 q2 q7 q5 q6 0 0 fd, (q1, .inl (k1, 420, .inl f1)), (q2, .inl (k2, 420, .inl f2)), (q7, .inl (k7, 420, .inr (.inl f7)))] := hD
  refine lv_iconst (v := 0) hx hb dX2_goodInBlock_13 (by decide) ?_
  refine lv_istore (lv' := [(7, .int 0), (5, .long g0), (0, .ref hs), (1, .int (nI b)), (2, .long g0), (4, .int (nI rs))]) hx hb dX2_goodInBlock_14 hl (by decide) rfl (fun ls hl => ?_)
  have loop : ∀ (fu i : Nat) (x5 : Int64) (y9 n9 : Int32), i ≤ rs → rs + 1 ≤ i + fu → yBl (fun a => ∀ j, j < rs → scl (f1 j) (f2 j) (f7 j) a) b y9 n9 x5 → (∀ k, k < 64 → zb x5 k = true → ∀ j, j < i → scl (f1 j) (f2 j) (f7 j) (b + k)) → ∀ (H : Heap) (locs : List Loc), va_P (dC, dI) vwCl [sO hs q1 q2 q7 q5 q6 y9 n9 fd, (q1, .inl (k1, 420, .inl f1)), (q2, .inl (k2, 420, .inl f2)), (q7, .inl (k7, 420, .inr (.inl f7)))] H → va_D A [sO hs q1 q2 q7 q5 q6 y9 n9 fd, (q1, .inl (k1, 420, .inl f1)), (q2, .inl (k2, 420, .inl f2)), (q7, .inl (k7, 420, .inr (.inl f7)))] → va_S A s.heap H locs → ∀ (ls : Array Slot), lv_has ls 9 [(7, .int (nI i)), (5, .long x5), (0, .ref hs), (1, .int (nI b)), (4, .int (nI rs))] → W p l e (headSpec wsX2_goodInBlock ({ frames := 0, cells := 0, slots := 0, locals := 0 })).room s m ([.ref hs, .int (nI b), .long g0, .int (nI rs)] : List Value).toArray below meth c H locs 0 0 (MQ below (va_Ql (fun (r : Int64) (u : Int32 × Int32) => (r = 0 → yLI (fun a => ∀ j, j < rs → scl (f1 j) (f2 j) (f7 j) a) b 6 u.1 u.2) ∧ (¬ r = 0 → ∀ k, k < 64 → (zb r k = true ↔ ∀ j, j < rs → scl (f1 j) (f2 j) (f7 j) (b + k)))) (fun (u : Int32 × Int32) (t : State) => va_P (dC, dI) vwCl [sO hs q1 q2 q7 q5 q6 u.1 u.2 fd, (q1, .inl (k1, 420, .inl f1)), (q2, .inl (k2, 420, .inl f2)), (q7, .inl (k7, 420, .inr (.inl f7)))] t.heap ∧ va_K (dC, dI) vwCl [(k1, .int), (k2, .int), (k7, .long)] t ∧ va_D A [sO hs q1 q2 q7 q5 q6 u.1 u.2 fd, (q1, .inl (k1, 420, .inl f1)), (q2, .inl (k2, 420, .inl f2)), (q7, .inl (k7, 420, .inr (.inl f7)))]) A) ([.ref hs, .int (nI b), .long g0, .int (nI rs)] : List Value).toArray s 0 0 A) (F0 m 16 ls []) := by
    intro fu
    induction fu with
    | zero =>
      intro i x5 y9 n9 h1 h2
      exact absurd h2 (by omega)
    | succ fu ih =>
      intro i x5 y9 n9 hi hin hI hB H locs hP hD hS ls hl
      refine lv_iload hx hb dX2_goodInBlock_16 (lv_at hl 0 rfl) ?_
      refine lv_iload hx hb dX2_goodInBlock_18 (lv_at hl 4 rfl) ?_
      refine lv_icmp_ge (tgt := 165) hx hb dX2_goodInBlock_20 (by decide) (fun cb_34 => ?_) (fun cb_34 => ?_)
      · have hie : i = rs := by
          rcases Nat.lt_or_ge i rs with q | q
          · exact absurd cb_34 (nI_ge q (by omega))
          · omega
        subst hie
        refine lv_lload hx hb dX2_goodInBlock_165 (lv_at hl 1 rfl) ?_
        exact W.lret (v := x5) hx hb hr (fun t ht hW => ⟨⟨x5, (y9, n9), rfl, ⟨fun q => yBl_end hI q, fun _ k hk => ⟨fun z j hj => hB k hk z j hj, fun z => yBl_mem hI hb0 hk z⟩⟩, by rw [ht]; exact hP, va_K.moved hW.alike hK, hD⟩, hS.F ht⟩) hS.2.2 dX2_goodInBlock_167
      · have hir : i < rs := by
          rcases Nat.lt_or_ge i rs with q | q
          · exact q
          · exact absurd (nI_le q (by omega)) cb_34
        have hlt : i < 420 := by omega
        refine lv_iload hx hb dX2_goodInBlock_23 (lv_at hl 0 rfl) ?_
        refine lv_sipush (v := 420) hx hb dX2_goodInBlock_25 (by decide) ?_
        refine lv_icmp_ge (tgt := 165) hx hb dX2_goodInBlock_28 (by decide) (fun cb_35 => ?_) (fun cb_35 => ?_)
        · exact absurd cb_35 (nI_ge (b := 420) hlt (by omega))
        · refine lv_lload hx hb dX2_goodInBlock_31 (lv_at hl 1 rfl) ?_
          refine lv_lconst (v := 0) hx hb dX2_goodInBlock_33 (by decide) ?_
          refine W.lcmp hx hb dX2_goodInBlock_34 ?_
          refine lv_if_eq (tgt := 165) hx hb dX2_goodInBlock_35 (by decide) (fun cb_36 => ?_) (fun cb_36 => ?_)
          · refine lv_lload hx hb dX2_goodInBlock_165 (lv_at hl 1 rfl) ?_
            exact W.lret (v := x5) hx hb hr (fun t ht hW => ⟨⟨x5, (y9, n9), rfl, ⟨fun q => yBl_end hI q, fun q => absurd ((lg_cmp_eq _ _).mp cb_36) q⟩, by rw [ht]; exact hP, va_K.moved hW.alike hK, hD⟩, hS.F ht⟩) hS.2.2 dX2_goodInBlock_167
          · refine lv_aload_n hx hb dX2_goodInBlock_38 rfl (lv_at hl 2 rfl) ?_
            refine va_get (D := (dC, dI)) (ci := 2) (v := .ref q1) (C := RX2) (T := TX2) (N := 8) hx hb htA inX2 hown hK hP 0 rfl rfl 0 (by decide) (htA _ lkX2_11) (fun _ h9 => h9) rfl dX2_goodInBlock_39 ?_
            refine lv_iload hx hb dX2_goodInBlock_42 (lv_at hl 0 rfl) ?_
            refine yv_iald hx hb hK hP 1 0 rfl rfl (k := i) hlt (by decide) dX2_goodInBlock_44 ?_
            refine lv_iload_n hx hb dX2_goodInBlock_45 rfl (lv_at hl 3 rfl) ?_
            refine lv_iand hx hb dX2_goodInBlock_46 ?_
            refine lv_aload_n hx hb dX2_goodInBlock_47 rfl (lv_at hl 2 rfl) ?_
            refine va_get (D := (dC, dI)) (ci := 2) (v := .ref q2) (C := RX2) (T := TX2) (N := 8) hx hb htA inX2 hown hK hP 0 rfl rfl 1 (by decide) (htA _ lkX2_15) (fun _ h9 => h9) rfl dX2_goodInBlock_48 ?_
            refine lv_iload hx hb dX2_goodInBlock_51 (lv_at hl 0 rfl) ?_
            refine yv_iald hx hb hK hP 2 1 rfl rfl (k := i) hlt (by decide) dX2_goodInBlock_53 ?_
            refine lv_iload_n hx hb dX2_goodInBlock_54 rfl (lv_at hl 3 rfl) ?_
            refine lv_iconst (v := (-1)) hx hb dX2_goodInBlock_55 (by decide) ?_
            refine lv_ixor hx hb dX2_goodInBlock_56 ?_
            refine lv_iand hx hb dX2_goodInBlock_57 ?_
            refine lv_ior hx hb dX2_goodInBlock_58 ?_
            refine lv_if_ne (tgt := 66) hx hb dX2_goodInBlock_59 (by decide) (fun cb_37 => ?_) (fun cb_37 => ?_)
            · have hcl : ycl (f1 i) (f2 i) b := by
                by_cases q : ycl (f1 i) (f2 i) b
                · exact q
                · exact absurd ((ycl_test (yh_m (hm i hir).1) (yh_m (hm i hir).2)).mpr q) cb_37
              refine lv_iconst (v := 0) hx hb dX2_goodInBlock_66 (by decide) ?_
              refine lv_istore (lv' := [(8, .int 0), (7, .int (nI i)), (5, .long x5), (0, .ref hs), (1, .int (nI b)), (4, .int (nI rs))]) hx hb dX2_goodInBlock_67 hl (by decide) rfl (fun ls hl => ?_)
              refine lv_iload hx hb dX2_goodInBlock_69 (lv_at hl 0 rfl) ?_
              refine lv_if_eq (tgt := 159) hx hb dX2_goodInBlock_71 (by decide) (fun cb_38 => ?_) (fun cb_38 => ?_)
              · refine lv_iinc (v := nI (i + 1)) (lv' := [(7, .int (nI (i + 1))), (8, .int 0), (5, .long x5), (0, .ref hs), (1, .int (nI b)), (4, .int (nI rs))]) hx hb dX2_goodInBlock_159 hl (k := 1) rfl (nI_1 _) (by decide) rfl (fun ls hl => ?_)
                refine lv_goto (tgt := 16) hx hb dX2_goodInBlock_162 (by decide) ?_
                refine ih (i + 1) _ _ _ hir (by omega) (hI) (fun k hk z j hj => by
                    by_cases e : j = i
                    · rw [e]; exact Or.inl ((ycl_blk (hm i hir).1 (hm i hir).2 hb0 hk).mpr hcl)
                    · exact hB k hk z j (by omega)) _ _ hP hD hS ls (lv_sub hl [0, 2, 3, 4, 5] rfl)
              · exact absurd rfl cb_38
            · have hcl : ¬ ycl (f1 i) (f2 i) b := (ycl_test (yh_m (hm i hir).1) (yh_m (hm i hir).2)).mp cb_37
              refine lv_iconst (v := 1) hx hb dX2_goodInBlock_62 (by decide) ?_
              refine lv_goto (tgt := 67) hx hb dX2_goodInBlock_63 (by decide) ?_
              refine lv_istore (lv' := [(8, .int 1), (7, .int (nI i)), (5, .long x5), (0, .ref hs), (1, .int (nI b)), (4, .int (nI rs))]) hx hb dX2_goodInBlock_67 hl (by decide) rfl (fun ls hl => ?_)
              refine lv_iload hx hb dX2_goodInBlock_69 (lv_at hl 0 rfl) ?_
              refine lv_if_eq (tgt := 159) hx hb dX2_goodInBlock_71 (by decide) (fun cb_39 => ?_) (fun cb_39 => ?_)
              · exact absurd cb_39 (by decide)
              · refine lv_lload hx hb dX2_goodInBlock_74 (lv_at hl 2 rfl) ?_
                refine lv_aload_n hx hb dX2_goodInBlock_76 rfl (lv_at hl 3 rfl) ?_
                refine va_get (D := (dC, dI)) (ci := 2) (v := .ref q7) (C := RX2) (T := TX2) (N := 8) hx hb htA inX2 hown hK hP 0 rfl rfl 2 (by decide) (htA _ lkX2_18) (fun _ h9 => h9) rfl dX2_goodInBlock_77 ?_
                refine lv_iload hx hb dX2_goodInBlock_80 (lv_at hl 1 rfl) ?_
                refine yv_lald hx hb hK hP 3 2 rfl rfl (k := i) hlt (by decide) dX2_goodInBlock_82 ?_
                refine lv_ldc2 (own := RX2) (v := (-1)) hx hb hown (htA _ lkX2_42) dX2_goodInBlock_83 ?_
                refine lv_lxor hx hb dX2_goodInBlock_86 ?_
                refine lv_land hx hb dX2_goodInBlock_87 ?_
                refine lv_lconst (v := 0) hx hb dX2_goodInBlock_88 (by decide) ?_
                refine W.lcmp hx hb dX2_goodInBlock_89 ?_
                refine lv_if_eq (tgt := 159) hx hb dX2_goodInBlock_90 (by decide) (fun cb_40 => ?_) (fun cb_40 => ?_)
                · refine lv_iinc (v := nI (i + 1)) (lv' := [(7, .int (nI (i + 1))), (8, .int 1), (5, .long x5), (0, .ref hs), (1, .int (nI b)), (4, .int (nI rs))]) hx hb dX2_goodInBlock_159 hl (k := 1) rfl (nI_1 _) (by decide) rfl (fun ls hl => ?_)
                  refine lv_goto (tgt := 16) hx hb dX2_goodInBlock_162 (by decide) ?_
                  refine ih (i + 1) _ _ _ hir (by omega) (hI) (fun k hk z j hj => by
                      by_cases e : j = i
                      · rw [e]; exact Or.inr (by rw [show (b + k) % 64 = k by omega]; exact zb_sub0 ((lg_cmp_eq _ _).mp cb_40) hk z)
                      · exact hB k hk z j (by omega)) _ _ hP hD hS ls (lv_sub hl [0, 2, 3, 4, 5] rfl)
                · refine lv_aload_n hx hb dX2_goodInBlock_93 rfl (lv_at hl 3 rfl) ?_
                  refine va_get (D := (dC, dI)) (ci := 2) (v := .ref q7) (C := RX2) (T := TX2) (N := 8) hx hb htA inX2 hown hK hP 0 rfl rfl 2 (by decide) (htA _ lkX2_18) (fun _ h9 => h9) rfl dX2_goodInBlock_94 ?_
                  refine lv_iload hx hb dX2_goodInBlock_97 (lv_at hl 1 rfl) ?_
                  refine yv_lald hx hb hK hP 3 2 rfl rfl (k := i) hlt (by decide) dX2_goodInBlock_99 ?_
                  refine lv_lconst (v := 0) hx hb dX2_goodInBlock_100 (by decide) ?_
                  refine W.lcmp hx hb dX2_goodInBlock_101 ?_
                  refine lv_if_ne (tgt := 115) hx hb dX2_goodInBlock_102 (by decide) (fun cb_41 => ?_) (fun cb_41 => ?_)
                  · refine lv_lload hx hb dX2_goodInBlock_115 (lv_at hl 2 rfl) ?_
                    refine lv_aload_n hx hb dX2_goodInBlock_117 rfl (lv_at hl 3 rfl) ?_
                    refine va_get (D := (dC, dI)) (ci := 2) (v := .ref q7) (C := RX2) (T := TX2) (N := 8) hx hb htA inX2 hown hK hP 0 rfl rfl 2 (by decide) (htA _ lkX2_18) (fun _ h9 => h9) rfl dX2_goodInBlock_118 ?_
                    refine lv_iload hx hb dX2_goodInBlock_121 (lv_at hl 1 rfl) ?_
                    refine yv_lald hx hb hK hP 3 2 rfl rfl (k := i) hlt (by decide) dX2_goodInBlock_123 ?_
                    refine lv_land hx hb dX2_goodInBlock_124 ?_
                    refine lv_lstore (lv' := [(5, .long (x5 &&& (f7 i))), (8, .int 1), (7, .int (nI i)), (0, .ref hs), (1, .int (nI b)), (4, .int (nI rs))]) hx hb dX2_goodInBlock_125 hl (by decide) rfl (fun ls hl => ?_)
                    refine lv_aload_n hx hb dX2_goodInBlock_127 rfl (lv_at hl 3 rfl) ?_
                    refine lv_dup hx hb dX2_goodInBlock_128 rfl ?_
                    refine va_get (D := (dC, dI)) (ci := 2) (v := .int y9) (C := RX2) (T := TX2) (N := 8) hx hb htA inX2 hown hK hP 0 rfl rfl 5 (by decide) (htA _ lkX2_75) (fun _ h9 => h9) rfl dX2_goodInBlock_129 ?_
                    refine lv_aload_n hx hb dX2_goodInBlock_132 rfl (lv_at hl 3 rfl) ?_
                    refine va_get (D := (dC, dI)) (ci := 2) (v := .ref q1) (C := RX2) (T := TX2) (N := 8) hx hb htA inX2 hown hK hP 0 rfl rfl 0 (by decide) (htA _ lkX2_11) (fun _ h9 => h9) rfl dX2_goodInBlock_133 ?_
                    refine lv_iload hx hb dX2_goodInBlock_136 (lv_at hl 2 rfl) ?_
                    refine yv_iald hx hb hK hP 1 0 rfl rfl (k := i) hlt (by decide) dX2_goodInBlock_138 ?_
                    refine lv_ior hx hb dX2_goodInBlock_139 ?_
                    refine va_put (D := (dC, dI)) (ci := 2) (v := .int (y9 ||| (f1 i))) (ty := .int) (C := RX2) (T := TX2) (N := 8) hx hb htA inX2 tyX2 tyX2_ok nX2 hown hK hP hD hS 0 rfl rfl 5 (by decide) (htA _ lkX2_75) (fun _ h9 => h9) rfl (by decide +kernel) rfl rfl (Nat.le_of_ble_eq_true rfl) dX2_goodInBlock_140 (fun H locs hP hD hS => ?_)
                    have hP : va_P (dC, dI) vwCl [sO hs q1 q2 q7 q5 q6 (y9 ||| (f1 i)) n9 fd, (q1, .inl (k1, 420, .inl f1)), (q2, .inl (k2, 420, .inl f2)), (q7, .inl (k7, 420, .inr (.inl f7)))] H := hP
                    have hD : va_D A [sO hs q1 q2 q7 q5 q6 (y9 ||| (f1 i)) n9 fd, (q1, .inl (k1, 420, .inl f1)), (q2, .inl (k2, 420, .inl f2)), (q7, .inl (k7, 420, .inr (.inl f7)))] := hD
                    refine lv_aload_n hx hb dX2_goodInBlock_143 rfl (lv_at hl 3 rfl) ?_
                    refine lv_dup hx hb dX2_goodInBlock_144 rfl ?_
                    refine va_get (D := (dC, dI)) (ci := 2) (v := .int n9) (C := RX2) (T := TX2) (N := 8) hx hb htA inX2 hown hK hP 0 rfl rfl 6 (by decide) (htA _ lkX2_79) (fun _ h9 => h9) rfl dX2_goodInBlock_145 ?_
                    refine lv_aload_n hx hb dX2_goodInBlock_148 rfl (lv_at hl 3 rfl) ?_
                    refine va_get (D := (dC, dI)) (ci := 2) (v := .ref q2) (C := RX2) (T := TX2) (N := 8) hx hb htA inX2 hown hK hP 0 rfl rfl 1 (by decide) (htA _ lkX2_15) (fun _ h9 => h9) rfl dX2_goodInBlock_149 ?_
                    refine lv_iload hx hb dX2_goodInBlock_152 (lv_at hl 2 rfl) ?_
                    refine yv_iald hx hb hK hP 2 1 rfl rfl (k := i) hlt (by decide) dX2_goodInBlock_154 ?_
                    refine lv_ior hx hb dX2_goodInBlock_155 ?_
                    refine va_put (D := (dC, dI)) (ci := 2) (v := .int (n9 ||| (f2 i))) (ty := .int) (C := RX2) (T := TX2) (N := 8) hx hb htA inX2 tyX2 tyX2_ok nX2 hown hK hP hD hS 0 rfl rfl 6 (by decide) (htA _ lkX2_79) (fun _ h9 => h9) rfl (by decide +kernel) rfl rfl (Nat.le_of_ble_eq_true rfl) dX2_goodInBlock_156 (fun H locs hP hD hS => ?_)
                    have hP : va_P (dC, dI) vwCl [sO hs q1 q2 q7 q5 q6 (y9 ||| (f1 i)) (n9 ||| (f2 i)) fd, (q1, .inl (k1, 420, .inl f1)), (q2, .inl (k2, 420, .inl f2)), (q7, .inl (k7, 420, .inr (.inl f7)))] H := hP
                    have hD : va_D A [sO hs q1 q2 q7 q5 q6 (y9 ||| (f1 i)) (n9 ||| (f2 i)) fd, (q1, .inl (k1, 420, .inl f1)), (q2, .inl (k2, 420, .inl f2)), (q7, .inl (k7, 420, .inr (.inl f7)))] := hD
                    refine lv_iinc (v := nI (i + 1)) (lv' := [(7, .int (nI (i + 1))), (5, .long (x5 &&& (f7 i))), (8, .int 1), (0, .ref hs), (1, .int (nI b)), (4, .int (nI rs))]) hx hb dX2_goodInBlock_159 hl (k := 2) rfl (nI_1 _) (by decide) rfl (fun ls hl => ?_)
                    refine lv_goto (tgt := 16) hx hb dX2_goodInBlock_162 (by decide) ?_
                    refine ih (i + 1) _ _ _ hir (by omega) (yBl_and hI (hm i hir).1 (hm i hir).2 hcl (fun a ha => ha i hir)) (fun k hk z j hj => by
                        by_cases e : j = i
                        · rw [e]; exact Or.inr (by rw [show (b + k) % 64 = k by omega]; exact (by rw [zb_and, Bool.and_eq_true_iff] at z; exact z.2))
                        · exact hB k hk (by rw [zb_and, Bool.and_eq_true_iff] at z; exact z.1) j (by omega)) _ _ hP hD hS ls (lv_sub hl [0, 1, 3, 4, 5] rfl)
                  · refine lv_aload_n hx hb dX2_goodInBlock_105 rfl (lv_at hl 3 rfl) ?_
                    refine lv_iconst (v := 0) hx hb dX2_goodInBlock_106 (by decide) ?_
                    refine va_put (D := (dC, dI)) (ci := 2) (v := .int 0) (ty := .int) (C := RX2) (T := TX2) (N := 8) hx hb htA inX2 tyX2 tyX2_ok nX2 hown hK hP hD hS 0 rfl rfl 5 (by decide) (htA _ lkX2_75) (fun _ h9 => h9) rfl (by decide +kernel) rfl rfl (Nat.le_of_ble_eq_true rfl) dX2_goodInBlock_107 (fun H locs hP hD hS => ?_)
                    have hP : va_P (dC, dI) vwCl [sO hs q1 q2 q7 q5 q6 0 n9 fd, (q1, .inl (k1, 420, .inl f1)), (q2, .inl (k2, 420, .inl f2)), (q7, .inl (k7, 420, .inr (.inl f7)))] H := hP
                    have hD : va_D A [sO hs q1 q2 q7 q5 q6 0 n9 fd, (q1, .inl (k1, 420, .inl f1)), (q2, .inl (k2, 420, .inl f2)), (q7, .inl (k7, 420, .inr (.inl f7)))] := hD
                    refine lv_aload_n hx hb dX2_goodInBlock_110 rfl (lv_at hl 3 rfl) ?_
                    refine lv_iconst (v := 0) hx hb dX2_goodInBlock_111 (by decide) ?_
                    refine va_put (D := (dC, dI)) (ci := 2) (v := .int 0) (ty := .int) (C := RX2) (T := TX2) (N := 8) hx hb htA inX2 tyX2 tyX2_ok nX2 hown hK hP hD hS 0 rfl rfl 6 (by decide) (htA _ lkX2_79) (fun _ h9 => h9) rfl (by decide +kernel) rfl rfl (Nat.le_of_ble_eq_true rfl) dX2_goodInBlock_112 (fun H locs hP hD hS => ?_)
                    have hP : va_P (dC, dI) vwCl [sO hs q1 q2 q7 q5 q6 0 0 fd, (q1, .inl (k1, 420, .inl f1)), (q2, .inl (k2, 420, .inl f2)), (q7, .inl (k7, 420, .inr (.inl f7)))] H := hP
                    have hD : va_D A [sO hs q1 q2 q7 q5 q6 0 0 fd, (q1, .inl (k1, 420, .inl f1)), (q2, .inl (k2, 420, .inl f2)), (q7, .inl (k7, 420, .inr (.inl f7)))] := hD
                    refine lv_lload hx hb dX2_goodInBlock_115 (lv_at hl 2 rfl) ?_
                    refine lv_aload_n hx hb dX2_goodInBlock_117 rfl (lv_at hl 3 rfl) ?_
                    refine va_get (D := (dC, dI)) (ci := 2) (v := .ref q7) (C := RX2) (T := TX2) (N := 8) hx hb htA inX2 hown hK hP 0 rfl rfl 2 (by decide) (htA _ lkX2_18) (fun _ h9 => h9) rfl dX2_goodInBlock_118 ?_
                    refine lv_iload hx hb dX2_goodInBlock_121 (lv_at hl 1 rfl) ?_
                    refine yv_lald hx hb hK hP 3 2 rfl rfl (k := i) hlt (by decide) dX2_goodInBlock_123 ?_
                    refine lv_land hx hb dX2_goodInBlock_124 ?_
                    refine lv_lstore (lv' := [(5, .long (x5 &&& (f7 i))), (8, .int 1), (7, .int (nI i)), (0, .ref hs), (1, .int (nI b)), (4, .int (nI rs))]) hx hb dX2_goodInBlock_125 hl (by decide) rfl (fun ls hl => ?_)
                    refine lv_aload_n hx hb dX2_goodInBlock_127 rfl (lv_at hl 3 rfl) ?_
                    refine lv_dup hx hb dX2_goodInBlock_128 rfl ?_
                    refine va_get (D := (dC, dI)) (ci := 2) (v := .int 0) (C := RX2) (T := TX2) (N := 8) hx hb htA inX2 hown hK hP 0 rfl rfl 5 (by decide) (htA _ lkX2_75) (fun _ h9 => h9) rfl dX2_goodInBlock_129 ?_
                    refine lv_aload_n hx hb dX2_goodInBlock_132 rfl (lv_at hl 3 rfl) ?_
                    refine va_get (D := (dC, dI)) (ci := 2) (v := .ref q1) (C := RX2) (T := TX2) (N := 8) hx hb htA inX2 hown hK hP 0 rfl rfl 0 (by decide) (htA _ lkX2_11) (fun _ h9 => h9) rfl dX2_goodInBlock_133 ?_
                    refine lv_iload hx hb dX2_goodInBlock_136 (lv_at hl 2 rfl) ?_
                    refine yv_iald hx hb hK hP 1 0 rfl rfl (k := i) hlt (by decide) dX2_goodInBlock_138 ?_
                    refine lv_ior hx hb dX2_goodInBlock_139 ?_
                    refine va_put (D := (dC, dI)) (ci := 2) (v := .int (0 ||| (f1 i))) (ty := .int) (C := RX2) (T := TX2) (N := 8) hx hb htA inX2 tyX2 tyX2_ok nX2 hown hK hP hD hS 0 rfl rfl 5 (by decide) (htA _ lkX2_75) (fun _ h9 => h9) rfl (by decide +kernel) rfl rfl (Nat.le_of_ble_eq_true rfl) dX2_goodInBlock_140 (fun H locs hP hD hS => ?_)
                    have hP : va_P (dC, dI) vwCl [sO hs q1 q2 q7 q5 q6 (0 ||| (f1 i)) 0 fd, (q1, .inl (k1, 420, .inl f1)), (q2, .inl (k2, 420, .inl f2)), (q7, .inl (k7, 420, .inr (.inl f7)))] H := hP
                    have hD : va_D A [sO hs q1 q2 q7 q5 q6 (0 ||| (f1 i)) 0 fd, (q1, .inl (k1, 420, .inl f1)), (q2, .inl (k2, 420, .inl f2)), (q7, .inl (k7, 420, .inr (.inl f7)))] := hD
                    refine lv_aload_n hx hb dX2_goodInBlock_143 rfl (lv_at hl 3 rfl) ?_
                    refine lv_dup hx hb dX2_goodInBlock_144 rfl ?_
                    refine va_get (D := (dC, dI)) (ci := 2) (v := .int 0) (C := RX2) (T := TX2) (N := 8) hx hb htA inX2 hown hK hP 0 rfl rfl 6 (by decide) (htA _ lkX2_79) (fun _ h9 => h9) rfl dX2_goodInBlock_145 ?_
                    refine lv_aload_n hx hb dX2_goodInBlock_148 rfl (lv_at hl 3 rfl) ?_
                    refine va_get (D := (dC, dI)) (ci := 2) (v := .ref q2) (C := RX2) (T := TX2) (N := 8) hx hb htA inX2 hown hK hP 0 rfl rfl 1 (by decide) (htA _ lkX2_15) (fun _ h9 => h9) rfl dX2_goodInBlock_149 ?_
                    refine lv_iload hx hb dX2_goodInBlock_152 (lv_at hl 2 rfl) ?_
                    refine yv_iald hx hb hK hP 2 1 rfl rfl (k := i) hlt (by decide) dX2_goodInBlock_154 ?_
                    refine lv_ior hx hb dX2_goodInBlock_155 ?_
                    refine va_put (D := (dC, dI)) (ci := 2) (v := .int (0 ||| (f2 i))) (ty := .int) (C := RX2) (T := TX2) (N := 8) hx hb htA inX2 tyX2 tyX2_ok nX2 hown hK hP hD hS 0 rfl rfl 6 (by decide) (htA _ lkX2_79) (fun _ h9 => h9) rfl (by decide +kernel) rfl rfl (Nat.le_of_ble_eq_true rfl) dX2_goodInBlock_156 (fun H locs hP hD hS => ?_)
                    have hP : va_P (dC, dI) vwCl [sO hs q1 q2 q7 q5 q6 (0 ||| (f1 i)) (0 ||| (f2 i)) fd, (q1, .inl (k1, 420, .inl f1)), (q2, .inl (k2, 420, .inl f2)), (q7, .inl (k7, 420, .inr (.inl f7)))] H := hP
                    have hD : va_D A [sO hs q1 q2 q7 q5 q6 (0 ||| (f1 i)) (0 ||| (f2 i)) fd, (q1, .inl (k1, 420, .inl f1)), (q2, .inl (k2, 420, .inl f2)), (q7, .inl (k7, 420, .inr (.inl f7)))] := hD
                    refine lv_iinc (v := nI (i + 1)) (lv' := [(7, .int (nI (i + 1))), (5, .long (x5 &&& (f7 i))), (8, .int 1), (0, .ref hs), (1, .int (nI b)), (4, .int (nI rs))]) hx hb dX2_goodInBlock_159 hl (k := 2) rfl (nI_1 _) (by decide) rfl (fun ls hl => ?_)
                    refine lv_goto (tgt := 16) hx hb dX2_goodInBlock_162 (by decide) ?_
                    refine ih (i + 1) _ _ _ hir (by omega) (yBl_new (hm i hir).1 (hm i hir).2 hcl (fun a ha => ha i hir) ((lg_cmp_eq _ _).mp cb_41)) (fun k hk z j hj => by
                        by_cases e : j = i
                        · rw [e]; exact Or.inr (by rw [show (b + k) % 64 = k by omega]; exact (by rw [zb_and, Bool.and_eq_true_iff] at z; exact z.2))
                        · exact hB k hk (by rw [zb_and, Bool.and_eq_true_iff] at z; exact z.1) j (by omega)) _ _ hP hD hS ls (lv_sub hl [0, 1, 3, 4, 5] rfl)
  exact loop (rs + 1) 0 g0 0 0 (by omega) (by omega) (yBl_0 hg0) (fun k hk z j hj => absurd hj (Nat.not_lt_zero j)) _ _ hP hD hS ls (lv_sub hl [0, 1, 2, 3, 5] rfl)
set_option maxHeartbeats 4000000 in
set_option maxRecDepth 100000 in
theorem c_leap (l : Launch) (dC : Nat → ClassId) (dI : Nat → Nat → Nat) (hs : Nat) (q1 : Nat) (q2 : Nat) (q7 : Nat) (q5 : Nat) (q6 : Nat) (k5 : ClassId) (k6 : ClassId) (f5 : Nat → Int32) (f6 : Nat → Int32) (bY : Int32) (bN : Int32) (fd : Int64) (cd : Nat) (G : Nat → Prop) (sz : Nat) (hcd : cd < 262144) (hG : yGR G f5 f6) (hR : yRI G cd f5 f6) (hI0 : yLI G cd 6 bY bN) : Met l yX2_leap wsX2_leap ({ frames := 0, cells := 0, slots := 0, locals := 0 }) (va_Pc [.ref hs, .int (nI cd)] (fun U => U.heap.size = sz ∧ va_P (dC, dI) vwCl [sO hs q1 q2 q7 q5 q6 bY bN fd, (q5, .inl (k5, 18, .inl f5)), (q6, .inl (k6, 18, .inl f6))] U.heap ∧ va_K (dC, dI) vwCl [(k5, .int), (k6, .int)] U ∧ va_D (fun _ => True) [sO hs q1 q2 q7 q5 q6 bY bN fd, (q5, .inl (k5, 18, .inl f5)), (q6, .inl (k6, 18, .inl f6))])) (va_Qi (fun (r : Int32) (u : (Nat → Int32) × (Nat → Int32)) => yGR G u.1 u.2 ∧ ((r = -1 ∧ ∀ a, ¬ G a) ∨ ∃ c2, r = nI c2 ∧ c2 < 262144 ∧ cd < c2 ∧ c2 % 64 = 0 ∧ yRI G c2 u.1 u.2)) (fun (u : (Nat → Int32) × (Nat → Int32)) (t : State) => va_P (dC, dI) vwCl [sO hs q1 q2 q7 q5 q6 bY bN fd, (q5, .inl (k5, 18, .inl u.1)), (q6, .inl (k6, 18, .inl u.2))] t.heap ∧ va_K (dC, dI) vwCl [(k5, .int), (k6, .int)] t ∧ va_D (va_A [sO hs q1 q2 q7 q5 q6 bY bN fd, (q5, .inl (k5, 18, .inl f5)), (q6, .inl (k6, 18, .inl f6))] sz) [sO hs q1 q2 q7 q5 q6 bY bN fd, (q5, .inl (k5, 18, .inl u.1)), (q6, .inl (k6, 18, .inl u.2))]) (va_A [sO hs q1 q2 q7 q5 q6 bY bN fd, (q5, .inl (k5, 18, .inl f5)), (q6, .inl (k6, 18, .inl f6))] sz)) 0 0 (va_A [sO hs q1 q2 q7 q5 q6 bY bN fd, (q5, .inl (k5, 18, .inl f5)), (q6, .inl (k6, 18, .inl f6))] sz) := by
  refine Met.ofW (cc := cX2_leap) (maxL := 6) (ret := (some .int)) (by decide) rfl ?_
  intro p e s m args below meth c s₁ B hml hv
  obtain ⟨rfl, hsz, hP, hK, hD0⟩ := hv
  have hx := B.exec
  have hb := B.bytes
  have hr := B.returns
  have hts := atoms_spec (ws := wsX2_leap) B.pre
  have htA : ∀ w ∈ wsA, w.before _ s = true := fun w h => hts w (List.mem_cons_of_mem _ h)
  have hown : s.vm.findClass RX2 = some m.cls := findClass_of_methodNamed B.named
  have hlocks := B.notSynchronized
  subst hsz
  have hD := hD0.self (sz := s.heap.size)
  generalize hAe : va_A [sO hs q1 q2 q7 q5 q6 bY bN fd, (q5, .inl (k5, 18, .inl f5)), (q6, .inl (k6, 18, .inl f6))] s.heap.size = A at hD ⊢
  have hA : ∀ q : Nat, s.heap.size ≤ q → A q := fun q h => by rw [← hAe]; exact Or.inr h
  have hS : va_S A s.heap s.heap [] := va_S.rf
  have hP : va_P (dC, dI) vwCl [sO hs q1 q2 q7 q5 q6 bY bN fd, (q5, .inl (k5, 18, .inl f5)), (q6, .inl (k6, 18, .inl f6))] s.heap := hP
  have hl := lv_entry ([.ref hs, .int (nI cd)]) (n := 6) (Nat.le_of_ble_eq_true rfl)
  rw [lg_entry_eq]
  generalize (lg_sl ([.ref hs, .int (nI cd)]) ++ List.replicate (6 - (lg_sl ([.ref hs, .int (nI cd)])).length) Slot.unset).toArray = ls at hl ⊢
  have hl : lv_has ls 6 [(0, .ref hs), (1, .int (nI cd))] := hl
  refine lv_aload_n hx hb dX2_leap_0 rfl (lv_at hl 0 rfl) ?_
  refine va_get (D := (dC, dI)) (ci := 2) (v := .int bY) (C := RX2) (T := TX2) (N := 8) hx hb htA inX2 hown hK hP 0 rfl rfl 5 (by decide) (htA _ lkX2_75) (fun _ h9 => h9) rfl dX2_leap_1 ?_
  refine lv_istore_n (lv' := [(2, .int bY), (0, .ref hs), (1, .int (nI cd))]) hx hb dX2_leap_4 rfl hl (by decide) rfl (fun ls hl => ?_)
  refine lv_aload_n hx hb dX2_leap_5 rfl (lv_at hl 1 rfl) ?_
  refine va_get (D := (dC, dI)) (ci := 2) (v := .int bN) (C := RX2) (T := TX2) (N := 8) hx hb htA inX2 hown hK hP 0 rfl rfl 6 (by decide) (htA _ lkX2_79) (fun _ h9 => h9) rfl dX2_leap_6 ?_
  refine lv_istore_n (lv' := [(3, .int bN), (2, .int bY), (0, .ref hs), (1, .int (nI cd))]) hx hb dX2_leap_9 rfl hl (by decide) rfl (fun ls hl => ?_)
  refine lv_bipush (v := 6) hx hb dX2_leap_10 (by decide) ?_
  refine lv_istore (lv' := [(4, .int 6), (3, .int bN), (2, .int bY), (0, .ref hs), (1, .int (nI cd))]) hx hb dX2_leap_12 hl (by decide) rfl (fun ls hl => ?_)
  have loop : ∀ (fu v : Nat) (x4 x5 : Int32), 6 ≤ v → v ≤ 18 → 19 ≤ v + fu → yLI G cd v x4 x5 → ∀ (ls : Array Slot), lv_has ls 6 [(4, .int (nI v)), (3, .int x5), (2, .int x4), (0, .ref hs), (1, .int (nI cd))] → W p l e (headSpec wsX2_leap ({ frames := 0, cells := 0, slots := 0, locals := 0 })).room s m ([.ref hs, .int (nI cd)] : List Value).toArray below meth c s.heap [] 0 0 (MQ below (va_Qi (fun (r : Int32) (u : (Nat → Int32) × (Nat → Int32)) => yGR G u.1 u.2 ∧ ((r = -1 ∧ ∀ a, ¬ G a) ∨ ∃ c2, r = nI c2 ∧ c2 < 262144 ∧ cd < c2 ∧ c2 % 64 = 0 ∧ yRI G c2 u.1 u.2)) (fun (u : (Nat → Int32) × (Nat → Int32)) (t : State) => va_P (dC, dI) vwCl [sO hs q1 q2 q7 q5 q6 bY bN fd, (q5, .inl (k5, 18, .inl u.1)), (q6, .inl (k6, 18, .inl u.2))] t.heap ∧ va_K (dC, dI) vwCl [(k5, .int), (k6, .int)] t ∧ va_D A [sO hs q1 q2 q7 q5 q6 bY bN fd, (q5, .inl (k5, 18, .inl u.1)), (q6, .inl (k6, 18, .inl u.2))]) A) ([.ref hs, .int (nI cd)] : List Value).toArray s 0 0 A) (F0 m 14 ls []) := by
    intro fu
    induction fu with
    | zero =>
      intro v x4 x5 h0 h1 h2
      exact absurd h2 (by omega)
    | succ fu ih =>
      intro v x4 x5 hv6 hv hin hI ls hl
      refine lv_iload hx hb dX2_leap_14 (lv_at hl 0 rfl) ?_
      refine lv_bipush (v := 18) hx hb dX2_leap_16 (by decide) ?_
      refine lv_icmp_ge (tgt := 102) hx hb dX2_leap_18 (by decide) (fun cb_42 => ?_) (fun cb_42 => ?_)
      · have hve : v = 18 := by
          rcases Nat.lt_or_ge v 18 with q | q
          · exact absurd cb_42 (nI_ge (b := 18) q (by omega))
          · omega
        subst hve
        refine lv_iconst (v := (-1)) hx hb dX2_leap_102 (by decide) ?_
        exact W.iret (v := (-1)) hx hb hr (fun t ht hW => ⟨⟨(-1), (f5, f6), rfl, ⟨hG, Or.inl ⟨rfl, yLI_end hI⟩⟩, by rw [ht]; exact hP, va_K.moved hW.alike hK, hD⟩, hS.F ht⟩) hS.2.2 dX2_leap_103
      · have hlt : v < 18 := by
          rcases Nat.lt_or_ge v 18 with q | q
          · exact q
          · exact absurd (nI_le (a := 18) q (by omega)) cb_42
        refine lv_iconst (v := 1) hx hb dX2_leap_21 (by decide) ?_
        refine lv_iload hx hb dX2_leap_22 (lv_at hl 0 rfl) ?_
        refine lv_ishl hx hb dX2_leap_24 ?_
        refine lv_istore (lv' := [(5, .int ((1 : Int32) <<< ((nI v) &&& 31))), (4, .int (nI v)), (3, .int x5), (2, .int x4), (0, .ref hs), (1, .int (nI cd))]) hx hb dX2_leap_25 hl (by decide) rfl (fun ls hl => ?_)
        refine lv_iload_n hx hb dX2_leap_27 rfl (lv_at hl 3 rfl) ?_
        refine lv_iload hx hb dX2_leap_28 (lv_at hl 0 rfl) ?_
        refine lv_iand hx hb dX2_leap_30 ?_
        refine lv_if_eq (tgt := 64) hx hb dX2_leap_31 (by decide) (fun cb_43 => ?_) (fun cb_43 => ?_)
        · have hn4 := (yb_at hlt).mp cb_43
          refine lv_iload_n hx hb dX2_leap_64 rfl (lv_at hl 2 rfl) ?_
          refine lv_iload hx hb dX2_leap_65 (lv_at hl 0 rfl) ?_
          refine lv_iand hx hb dX2_leap_67 ?_
          refine lv_if_eq (tgt := 96) hx hb dX2_leap_68 (by decide) (fun cb_44 => ?_) (fun cb_44 => ?_)
          · refine lv_iinc (v := nI (v + 1)) (lv' := [(4, .int (nI (v + 1))), (5, .int ((1 : Int32) <<< ((nI v) &&& 31))), (3, .int x5), (2, .int x4), (0, .ref hs), (1, .int (nI cd))]) hx hb dX2_leap_96 hl (k := 1) rfl (nI_1 _) (by decide) rfl (fun ls hl => ?_)
            refine lv_goto (tgt := 14) hx hb dX2_leap_99 (by decide) ?_
            exact ih (v + 1) _ _ (by omega) hlt (by omega) (yLI_skip hI hn4 ((yb_at hlt).mp cb_44)) ls (lv_sub hl [0, 2, 3, 4, 5] rfl)
          · refine lv_iload_n hx hb dX2_leap_71 rfl (lv_at hl 3 rfl) ?_
            refine lv_aload_n hx hb dX2_leap_72 rfl (lv_at hl 4 rfl) ?_
            refine va_get (D := (dC, dI)) (ci := 2) (v := .ref q5) (C := RX2) (T := TX2) (N := 8) hx hb htA inX2 hown hK hP 0 rfl rfl 3 (by decide) (htA _ lkX2_22) (fun _ h9 => h9) rfl dX2_leap_73 ?_
            refine lv_iload hx hb dX2_leap_76 (lv_at hl 1 rfl) ?_
            refine yv_iald hx hb hK hP 1 0 rfl rfl (k := v) hlt (by decide) dX2_leap_78 ?_
            refine lv_ior hx hb dX2_leap_79 ?_
            refine lv_istore_n (lv' := [(2, .int (x4 ||| (f5 v))), (5, .int ((1 : Int32) <<< ((nI v) &&& 31))), (4, .int (nI v)), (3, .int x5), (0, .ref hs), (1, .int (nI cd))]) hx hb dX2_leap_80 rfl hl (by decide) rfl (fun ls hl => ?_)
            refine lv_iload_n hx hb dX2_leap_81 rfl (lv_at hl 3 rfl) ?_
            refine lv_iload hx hb dX2_leap_82 (lv_at hl 1 rfl) ?_
            refine lv_iconst (v := (-1)) hx hb dX2_leap_84 (by decide) ?_
            refine lv_ixor hx hb dX2_leap_85 ?_
            refine lv_iand hx hb dX2_leap_86 ?_
            refine lv_aload_n hx hb dX2_leap_87 rfl (lv_at hl 4 rfl) ?_
            refine va_get (D := (dC, dI)) (ci := 2) (v := .ref q6) (C := RX2) (T := TX2) (N := 8) hx hb htA inX2 hown hK hP 0 rfl rfl 4 (by decide) (htA _ lkX2_25) (fun _ h9 => h9) rfl dX2_leap_88 ?_
            refine lv_iload hx hb dX2_leap_91 (lv_at hl 2 rfl) ?_
            refine yv_iald hx hb hK hP 2 1 rfl rfl (k := v) hlt (by decide) dX2_leap_93 ?_
            refine lv_ior hx hb dX2_leap_94 ?_
            refine lv_istore_n (lv' := [(3, .int ((x5 &&& (((1 : Int32) <<< ((nI v) &&& 31)) ^^^ (-1))) ||| (f6 v))), (2, .int (x4 ||| (f5 v))), (5, .int ((1 : Int32) <<< ((nI v) &&& 31))), (4, .int (nI v)), (0, .ref hs), (1, .int (nI cd))]) hx hb dX2_leap_95 rfl hl (by decide) rfl (fun ls hl => ?_)
            refine lv_iinc (v := nI (v + 1)) (lv' := [(4, .int (nI (v + 1))), (3, .int ((x5 &&& (((1 : Int32) <<< ((nI v) &&& 31)) ^^^ (-1))) ||| (f6 v))), (2, .int (x4 ||| (f5 v))), (5, .int ((1 : Int32) <<< ((nI v) &&& 31))), (0, .ref hs), (1, .int (nI cd))]) hx hb dX2_leap_96 hl (k := 3) rfl (nI_1 _) (by decide) rfl (fun ls hl => ?_)
            refine lv_goto (tgt := 14) hx hb dX2_leap_99 (by decide) ?_
            exact ih (v + 1) _ _ (by omega) hlt (by omega) (yLI_res hlt hI hR hn4 (Decidable.byContradiction (fun q => cb_44 ((yb_at hlt).mpr q)))) ls (lv_sub hl [0, 1, 2, 4, 5] rfl)
        · obtain ⟨c2, z1, z2, z3, z4, z5⟩ := yLI_leap hcd hlt hI hR (Decidable.byContradiction (fun q => cb_43 ((yb_at hlt).mpr q)))
          have z6 := yGR_leap hlt hI hG
          refine lv_aload_n hx hb dX2_leap_34 rfl (lv_at hl 4 rfl) ?_
          refine va_get (D := (dC, dI)) (ci := 2) (v := .ref q5) (C := RX2) (T := TX2) (N := 8) hx hb htA inX2 hown hK hP 0 rfl rfl 3 (by decide) (htA _ lkX2_22) (fun _ h9 => h9) rfl dX2_leap_35 ?_
          refine lv_iload hx hb dX2_leap_38 (lv_at hl 1 rfl) ?_
          refine lv_iload_n hx hb dX2_leap_40 rfl (lv_at hl 3 rfl) ?_
          refine lv_iload hx hb dX2_leap_41 (lv_at hl 0 rfl) ?_
          refine lv_iconst (v := (-1)) hx hb dX2_leap_43 (by decide) ?_
          refine lv_ixor hx hb dX2_leap_44 ?_
          refine lv_iand hx hb dX2_leap_45 ?_
          refine yv_iast hx hb hK hP hD hS 1 0 rfl rfl (k := v) hlt (by decide) dX2_leap_46 (fun H locs hP hD hS => ?_)
          have hP : va_P (dC, dI) vwCl [sO hs q1 q2 q7 q5 q6 bY bN fd, (q5, .inl (k5, 18, .inl (upd f5 v (x4 &&& (((1 : Int32) <<< ((nI v) &&& 31)) ^^^ (-1)))))), (q6, .inl (k6, 18, .inl f6))] H := hP
          have hD : va_D A [sO hs q1 q2 q7 q5 q6 bY bN fd, (q5, .inl (k5, 18, .inl (upd f5 v (x4 &&& (((1 : Int32) <<< ((nI v) &&& 31)) ^^^ (-1)))))), (q6, .inl (k6, 18, .inl f6))] := hD
          refine lv_aload_n hx hb dX2_leap_47 rfl (lv_at hl 4 rfl) ?_
          refine va_get (D := (dC, dI)) (ci := 2) (v := .ref q6) (C := RX2) (T := TX2) (N := 8) hx hb htA inX2 hown hK hP 0 rfl rfl 4 (by decide) (htA _ lkX2_25) (fun _ h9 => h9) rfl dX2_leap_48 ?_
          refine lv_iload hx hb dX2_leap_51 (lv_at hl 1 rfl) ?_
          refine lv_iload_n hx hb dX2_leap_53 rfl (lv_at hl 2 rfl) ?_
          refine yv_iast hx hb hK hP hD hS 2 1 rfl rfl (k := v) hlt (by decide) dX2_leap_54 (fun H locs hP hD hS => ?_)
          have hP : va_P (dC, dI) vwCl [sO hs q1 q2 q7 q5 q6 bY bN fd, (q5, .inl (k5, 18, .inl (upd f5 v (x4 &&& (((1 : Int32) <<< ((nI v) &&& 31)) ^^^ (-1)))))), (q6, .inl (k6, 18, .inl (upd f6 v x5)))] H := hP
          have hD : va_D A [sO hs q1 q2 q7 q5 q6 bY bN fd, (q5, .inl (k5, 18, .inl (upd f5 v (x4 &&& (((1 : Int32) <<< ((nI v) &&& 31)) ^^^ (-1)))))), (q6, .inl (k6, 18, .inl (upd f6 v x5)))] := hD
          refine lv_iload_n hx hb dX2_leap_55 rfl (lv_at hl 5 rfl) ?_
          refine lv_iload hx hb dX2_leap_56 (lv_at hl 0 rfl) ?_
          refine lv_ior hx hb dX2_leap_58 ?_
          refine lv_iload hx hb dX2_leap_59 (lv_at hl 0 rfl) ?_
          refine lv_ineg hx hb dX2_leap_61 ?_
          refine lv_iand hx hb dX2_leap_62 ?_
          exact W.iret (v := ((nI cd) ||| ((1 : Int32) <<< ((nI v) &&& 31))) &&& (-((1 : Int32) <<< ((nI v) &&& 31)))) hx hb hr (fun t ht hW => ⟨⟨((nI cd) ||| ((1 : Int32) <<< ((nI v) &&& 31))) &&& (-((1 : Int32) <<< ((nI v) &&& 31))), (_, _), rfl, ⟨z6, Or.inr ⟨c2, z3, z1, z2, y_mod64 (fun i hi => z4 i (by omega)), z5⟩⟩, by rw [ht]; exact hP, va_K.moved hW.alike hK, hD⟩, hS.F ht⟩) hS.2.2 dX2_leap_63
  exact loop 19 6 bY bN (by omega) (by omega) (by omega) hI0 ls (lv_sub hl [0, 1, 2, 3, 4] rfl)
set_option maxHeartbeats 4000000 in
set_option maxRecDepth 100000 in
theorem c_setBy (l : Launch) (dC : Nat → ClassId) (dI : Nat → Nat → Nat) (hs : Nat) (q1 : Nat) (q2 : Nat) (q7 : Nat) (q5 : Nat) (q6 : Nat) (k5 : ClassId) (k6 : ClassId) (f5 : Nat → Int32) (f6 : Nat → Int32) (bY : Int32) (bN : Int32) (fd : Int64) (x : Int32) (cd : Nat) (G : Nat → Prop) (sz : Nat) (hG : yGR G f5 f6) (hI0 : ((x = -1 ∧ ∀ a, ¬ G a) ∨ ∃ c2, x = nI c2 ∧ c2 < 262144 ∧ cd < c2 ∧ c2 % 64 = 0 ∧ yRI G c2 f5 f6)) : Met l yX2_setByReasons wsX2_setByReasons ({ frames := 0, cells := 0, slots := 0, locals := 0 }) (va_Pc [.ref hs, .int x] (fun U => U.heap.size = sz ∧ va_P (dC, dI) vwCl [sO hs q1 q2 q7 q5 q6 bY bN fd, (q5, .inl (k5, 18, .inl f5)), (q6, .inl (k6, 18, .inl f6))] U.heap ∧ va_K (dC, dI) vwCl [(k5, .int), (k6, .int)] U ∧ va_D (fun _ => True) [sO hs q1 q2 q7 q5 q6 bY bN fd, (q5, .inl (k5, 18, .inl f5)), (q6, .inl (k6, 18, .inl f6))])) (va_Qi (fun (r : Int32) (u : Unit) => ((r = -1 ∧ ∀ a, ¬ G a) ∨ ∃ c2, r = nI c2 ∧ c2 < 262144 ∧ cd < c2 ∧ c2 % 64 = 0 ∧ yRI G c2 f5 f6)) (fun (u : Unit) (t : State) => va_P (dC, dI) vwCl [sO hs q1 q2 q7 q5 q6 bY bN fd, (q5, .inl (k5, 18, .inl f5)), (q6, .inl (k6, 18, .inl f6))] t.heap ∧ va_K (dC, dI) vwCl [(k5, .int), (k6, .int)] t ∧ va_D (va_A [sO hs q1 q2 q7 q5 q6 bY bN fd, (q5, .inl (k5, 18, .inl f5)), (q6, .inl (k6, 18, .inl f6))] sz) [sO hs q1 q2 q7 q5 q6 bY bN fd, (q5, .inl (k5, 18, .inl f5)), (q6, .inl (k6, 18, .inl f6))]) (va_A [sO hs q1 q2 q7 q5 q6 bY bN fd, (q5, .inl (k5, 18, .inl f5)), (q6, .inl (k6, 18, .inl f6))] sz)) 0 0 (va_A [sO hs q1 q2 q7 q5 q6 bY bN fd, (q5, .inl (k5, 18, .inl f5)), (q6, .inl (k6, 18, .inl f6))] sz) := by
  refine Met.ofW (cc := cX2_setByReasons) (maxL := 5) (ret := (some .int)) (by decide) rfl ?_
  intro p e s m args below meth c s₁ B hml hv
  obtain ⟨rfl, hsz, hP, hK, hD0⟩ := hv
  have hx := B.exec
  have hb := B.bytes
  have hr := B.returns
  have hts := atoms_spec (ws := wsX2_setByReasons) B.pre
  have htA : ∀ w ∈ wsA, w.before _ s = true := fun w h => hts w (List.mem_cons_of_mem _ h)
  have hown : s.vm.findClass RX2 = some m.cls := findClass_of_methodNamed B.named
  have hlocks := B.notSynchronized
  subst hsz
  have hD := hD0.self (sz := s.heap.size)
  generalize hAe : va_A [sO hs q1 q2 q7 q5 q6 bY bN fd, (q5, .inl (k5, 18, .inl f5)), (q6, .inl (k6, 18, .inl f6))] s.heap.size = A at hD ⊢
  have hA : ∀ q : Nat, s.heap.size ≤ q → A q := fun q h => by rw [← hAe]; exact Or.inr h
  have hS : va_S A s.heap s.heap [] := va_S.rf
  have hP : va_P (dC, dI) vwCl [sO hs q1 q2 q7 q5 q6 bY bN fd, (q5, .inl (k5, 18, .inl f5)), (q6, .inl (k6, 18, .inl f6))] s.heap := hP
  have hl := lv_entry ([.ref hs, .int x]) (n := 5) (Nat.le_of_ble_eq_true rfl)
  rw [lg_entry_eq]
  generalize (lg_sl ([.ref hs, .int x]) ++ List.replicate (5 - (lg_sl ([.ref hs, .int x])).length) Slot.unset).toArray = ls at hl ⊢
  have hl : lv_has ls 5 [(0, .ref hs), (1, .int x)] := hl
  refine lv_iload_n hx hb dX2_setByReasons_0 rfl (lv_at hl 1 rfl) ?_
  refine lv_istore_n (lv' := [(2, .int x), (0, .ref hs), (1, .int x)]) hx hb dX2_setByReasons_1 rfl hl (by decide) rfl (fun ls hl => ?_)
  refine lv_bipush (v := 17) hx hb dX2_setByReasons_2 (by decide) ?_
  refine lv_istore_n (lv' := [(3, .int 17), (2, .int x), (0, .ref hs), (1, .int x)]) hx hb dX2_setByReasons_4 rfl hl (by decide) rfl (fun ls hl => ?_)
  have loop : ∀ (fu v : Nat) (x2 : Int32), 5 ≤ v → v ≤ 17 → v ≤ 4 + fu → ((x2 = -1 ∧ ∀ a, ¬ G a) ∨ ∃ c2, x2 = nI c2 ∧ c2 < 262144 ∧ cd < c2 ∧ c2 % 64 = 0 ∧ yRI G c2 f5 f6) → ∀ (ls : Array Slot), lv_has ls 5 [(3, .int (nI v)), (2, .int x2), (0, .ref hs)] → W p l e (headSpec wsX2_setByReasons ({ frames := 0, cells := 0, slots := 0, locals := 0 })).room s m ([.ref hs, .int x] : List Value).toArray below meth c s.heap [] 0 0 (MQ below (va_Qi (fun (r : Int32) (u : Unit) => ((r = -1 ∧ ∀ a, ¬ G a) ∨ ∃ c2, r = nI c2 ∧ c2 < 262144 ∧ cd < c2 ∧ c2 % 64 = 0 ∧ yRI G c2 f5 f6)) (fun (u : Unit) (t : State) => va_P (dC, dI) vwCl [sO hs q1 q2 q7 q5 q6 bY bN fd, (q5, .inl (k5, 18, .inl f5)), (q6, .inl (k6, 18, .inl f6))] t.heap ∧ va_K (dC, dI) vwCl [(k5, .int), (k6, .int)] t ∧ va_D A [sO hs q1 q2 q7 q5 q6 bY bN fd, (q5, .inl (k5, 18, .inl f5)), (q6, .inl (k6, 18, .inl f6))]) A) ([.ref hs, .int x] : List Value).toArray s 0 0 A) (F0 m 5 ls []) := by
    intro fu
    induction fu with
    | zero =>
      intro v x2 h0 h1 h2
      exact absurd h2 (by omega)
    | succ fu ih =>
      intro v x2 hv5 hv17 hin hI ls hl
      have hv1 : 1 ≤ v := by omega
      have hlt : v < 18 := by omega
      refine lv_iload_n hx hb dX2_setByReasons_5 rfl (lv_at hl 0 rfl) ?_
      refine lv_bipush (v := 6) hx hb dX2_setByReasons_6 (by decide) ?_
      refine lv_icmp_lt (tgt := 61) hx hb dX2_setByReasons_8 (by decide) (fun cb_45 => ?_) (fun cb_45 => ?_)
      · refine lv_iload_n hx hb dX2_setByReasons_61 rfl (lv_at hl 1 rfl) ?_
        exact W.iret (v := x2) hx hb hr (fun t ht hW => ⟨⟨x2, (), rfl, hI, by rw [ht]; exact hP, va_K.moved hW.alike hK, hD⟩, hS.F ht⟩) hS.2.2 dX2_setByReasons_62
      · have hv6 : 6 ≤ v := by
          rcases Nat.lt_or_ge v 6 with q | q
          · exact absurd (nI_lt (b := 6) q (by omega)) cb_45
          · exact q
        refine lv_iload_n hx hb dX2_setByReasons_11 rfl (lv_at hl 1 rfl) ?_
        refine lv_iconst (v := (-1)) hx hb dX2_setByReasons_12 (by decide) ?_
        refine lv_icmp_eq (tgt := 61) hx hb dX2_setByReasons_13 (by decide) (fun cb_46 => ?_) (fun cb_46 => ?_)
        · refine lv_iload_n hx hb dX2_setByReasons_61 rfl (lv_at hl 1 rfl) ?_
          exact W.iret (v := x2) hx hb hr (fun t ht hW => ⟨⟨x2, (), rfl, hI, by rw [ht]; exact hP, va_K.moved hW.alike hK, hD⟩, hS.F ht⟩) hS.2.2 dX2_setByReasons_62
        · obtain ⟨c2, rfl, hc2, hc1, hc0, hR⟩ := hI.resolve_left (fun q => cb_46 q.1)
          refine lv_iconst (v := 1) hx hb dX2_setByReasons_16 (by decide) ?_
          refine lv_iload_n hx hb dX2_setByReasons_17 rfl (lv_at hl 0 rfl) ?_
          refine lv_ishl hx hb dX2_setByReasons_18 ?_
          refine lv_istore (lv' := [(4, .int ((1 : Int32) <<< ((nI v) &&& 31))), (3, .int (nI v)), (2, .int (nI c2)), (0, .ref hs)]) hx hb dX2_setByReasons_19 hl (by decide) rfl (fun ls hl => ?_)
          refine lv_aload_n hx hb dX2_setByReasons_21 rfl (lv_at hl 3 rfl) ?_
          refine va_get (D := (dC, dI)) (ci := 2) (v := .ref q5) (C := RX2) (T := TX2) (N := 8) hx hb htA inX2 hown hK hP 0 rfl rfl 3 (by decide) (htA _ lkX2_22) (fun _ h9 => h9) rfl dX2_setByReasons_22 ?_
          refine lv_iload_n hx hb dX2_setByReasons_25 rfl (lv_at hl 1 rfl) ?_
          refine yv_iald hx hb hK hP 1 0 rfl rfl (k := v) hlt (by decide) dX2_setByReasons_26 ?_
          refine lv_iload hx hb dX2_setByReasons_27 (lv_at hl 0 rfl) ?_
          refine lv_ior hx hb dX2_setByReasons_29 ?_
          refine lv_iload_n hx hb dX2_setByReasons_30 rfl (lv_at hl 2 rfl) ?_
          refine lv_iand hx hb dX2_setByReasons_31 ?_
          refine lv_aload_n hx hb dX2_setByReasons_32 rfl (lv_at hl 3 rfl) ?_
          refine va_get (D := (dC, dI)) (ci := 2) (v := .ref q6) (C := RX2) (T := TX2) (N := 8) hx hb htA inX2 hown hK hP 0 rfl rfl 4 (by decide) (htA _ lkX2_25) (fun _ h9 => h9) rfl dX2_setByReasons_33 ?_
          refine lv_iload_n hx hb dX2_setByReasons_36 rfl (lv_at hl 1 rfl) ?_
          refine yv_iald hx hb hK hP 2 1 rfl rfl (k := v) hlt (by decide) dX2_setByReasons_37 ?_
          refine lv_iload_n hx hb dX2_setByReasons_38 rfl (lv_at hl 2 rfl) ?_
          refine lv_iconst (v := (-1)) hx hb dX2_setByReasons_39 (by decide) ?_
          refine lv_ixor hx hb dX2_setByReasons_40 ?_
          refine lv_iand hx hb dX2_setByReasons_41 ?_
          refine lv_ior hx hb dX2_setByReasons_42 ?_
          refine lv_if_ne (tgt := 55) hx hb dX2_setByReasons_43 (by decide) (fun cb_47 => ?_) (fun cb_47 => ?_)
          · refine lv_iinc (v := nI (v - 1)) (lv' := [(3, .int (nI (v - 1))), (4, .int ((1 : Int32) <<< ((nI v) &&& 31))), (2, .int (nI c2)), (0, .ref hs)]) hx hb dX2_setByReasons_55 hl (k := 1) rfl (y_dec' hv1) (by decide) rfl (fun ls hl => ?_)
            refine lv_goto (tgt := 5) hx hb dX2_setByReasons_58 (by decide) ?_
            exact ih (v - 1) _ (by omega) (by omega) (by omega) (Or.inr ⟨c2, rfl, hc2, hc1, hc0, hR⟩) ls (lv_sub hl [0, 2, 3] rfl)
          · have hmY : ym (f5 v ||| ((1 : Int32) <<< (nI v &&& 31))) := fun i hi => by
              cases q : yb (f5 v ||| ((1 : Int32) <<< (nI v &&& 31))) i
              · rfl
              · rcases (yb_bit hlt).mp q with z | z
                · exact absurd ((hG v hv6 hlt).1 i z).2 (by omega)
                · omega
            have hmN : ym (f6 v) := fun i hi => by
              cases q : yb (f6 v) i
              · rfl
              · exact absurd ((hG v hv6 hlt).2.1 i q).2 (by omega)
            obtain ⟨c3, z1, z2, z3, z4, z5⟩ := yGR_set hc2 hv6 hlt hG hR ((ycl_test hmY hmN).mp cb_47)
            refine lv_iload_n hx hb dX2_setByReasons_46 rfl (lv_at hl 2 rfl) ?_
            refine lv_iload hx hb dX2_setByReasons_47 (lv_at hl 0 rfl) ?_
            refine lv_ior hx hb dX2_setByReasons_49 ?_
            refine lv_iload hx hb dX2_setByReasons_50 (lv_at hl 0 rfl) ?_
            refine lv_ineg hx hb dX2_setByReasons_52 ?_
            refine lv_iand hx hb dX2_setByReasons_53 ?_
            refine lv_istore_n (lv' := [(2, .int (((nI c2) ||| ((1 : Int32) <<< ((nI v) &&& 31))) &&& (-((1 : Int32) <<< ((nI v) &&& 31))))), (4, .int ((1 : Int32) <<< ((nI v) &&& 31))), (3, .int (nI v)), (0, .ref hs)]) hx hb dX2_setByReasons_54 rfl hl (by decide) rfl (fun ls hl => ?_)
            refine lv_iinc (v := nI (v - 1)) (lv' := [(3, .int (nI (v - 1))), (2, .int (((nI c2) ||| ((1 : Int32) <<< ((nI v) &&& 31))) &&& (-((1 : Int32) <<< ((nI v) &&& 31))))), (4, .int ((1 : Int32) <<< ((nI v) &&& 31))), (0, .ref hs)]) hx hb dX2_setByReasons_55 hl (k := 2) rfl (y_dec' hv1) (by decide) rfl (fun ls hl => ?_)
            refine lv_goto (tgt := 5) hx hb dX2_setByReasons_58 (by decide) ?_
            exact ih (v - 1) _ (by omega) (by omega) (by omega) (Or.inr ⟨c3, z3, z1, by omega, y_mod64 (fun i hi => z4 i (by omega)), z5⟩) ls (lv_sub hl [0, 1, 3] rfl)
  exact loop 13 17 x (by omega) (by omega) (by omega) hI0 ls (lv_sub hl [0, 1, 2] rfl)
