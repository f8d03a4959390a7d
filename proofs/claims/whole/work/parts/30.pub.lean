/-- the assignment a is good: all clauses and all assumptions are true -/
def yGood (f1 f2 : Nat → Int32) (f7 : Nat → Int64) (f4 : Nat → Int32) (cc ac : Nat) (a : Nat) : Prop := (∀ j, j < cc → scl (f1 j) (f2 j) (f7 j) a) ∧ ∀ j, j < ac → ycl (yYes (f4 j)) (yNo (f4 j)) a
/-- how many numbers under m have P -/
noncomputable def yN (P : Nat → Prop) : Nat → Nat
  | 0 => 0
  | m + 1 => yN P m + @ite Nat (P m) (Classical.propDecidable _) 1 0
theorem yN_t {P : Nat → Prop} {m : Nat} (h : P m) : yN P (m + 1) = yN P m + 1 := by
  show yN P m + @ite Nat (P m) (Classical.propDecidable _) 1 0 = _
  rw [if_pos h]
theorem yN_f {P : Nat → Prop} {m : Nat} (h : ¬ P m) : yN P (m + 1) = yN P m := by
  show yN P m + @ite Nat (P m) (Classical.propDecidable _) 1 0 = _
  rw [if_neg h]; rfl
theorem yN_le {P : Nat → Prop} {a b : Nat} (h : a ≤ b) : yN P a ≤ yN P b := by
  induction b with
  | zero => rw [show a = 0 by omega]; exact Nat.le_refl _
  | succ b ih =>
    rcases Nat.lt_or_ge b a with q | q
    · rw [show a = b + 1 by omega]; exact Nat.le_refl _
    · refine Nat.le_trans (ih q) ?_
      by_cases hp : P b
      · rw [yN_t hp]; omega
      · rw [yN_f hp]; exact Nat.le_refl _
theorem yN_none {P : Nat → Prop} {a b : Nat} (h : a ≤ b) (hn : ∀ x, a ≤ x → x < b → ¬ P x) : yN P b = yN P a := by
  induction b with
  | zero => rw [show a = 0 by omega]
  | succ b ih =>
    rcases Nat.lt_or_ge b a with q | q
    · rw [show a = b + 1 by omega]
    · rw [yN_f (hn b q (by omega))]
      exact ih q (fun x h1 h2 => hn x h1 (by omega))
theorem yN_congr {P P' : Nat → Prop} {b : Nat} (h : ∀ x, x < b → (P x ↔ P' x)) : yN P b = yN P' b := by
  induction b with
  | zero => rfl
  | succ b ih =>
    have e := ih (fun x hx => h x (by omega))
    by_cases hp : P b
    · rw [yN_t hp, yN_t ((h b (by omega)).mp hp), e]
    · rw [yN_f hp, yN_f (fun q => hp ((h b (by omega)).mpr q)), e]
theorem yN_bdm {P : Nat → Prop} : ∀ m, yN P m ≤ m := by
  intro m
  induction m with
  | zero => exact Nat.le_refl _
  | succ m ih =>
    by_cases hp : P m
    · rw [yN_t hp]; omega
    · rw [yN_f hp]; omega
theorem yN_split {P : Nat → Prop} {st m : Nat} (h : st ≤ m) : yN P m = yN P st + yN (fun a => st ≤ a ∧ P a) m := by
  have h0 : yN (fun a => st ≤ a ∧ P a) st = 0 := by
    rw [yN_none (P := fun a => st ≤ a ∧ P a) (Nat.zero_le st) (fun x _ h2 h3 => by omega)]; rfl
  induction m with
  | zero => rw [show st = 0 by omega] at h0 ⊢; rw [h0]; rfl
  | succ m ih =>
    rcases Nat.lt_or_ge m st with q | q
    · rw [show m + 1 = st by omega, h0]; rfl
    · by_cases hp : P m
      · rw [yN_t hp, yN_t (P := fun a => st ≤ a ∧ P a) ⟨q, hp⟩, ih q]; omega
      · rw [yN_f hp, yN_f (P := fun a => st ≤ a ∧ P a) (fun z => hp z.2), ih q]
theorem yN_word {Q : Nat → Prop} {x : Int64} {w : Nat} (h : ∀ k, k < 64 → (zb x k = true ↔ Q (w + k))) : ∀ m, m ≤ 64 → yN Q (w + m) = yN Q w + cb (zn x) m := by
  intro m
  induction m with
  | zero => intro _; rfl
  | succ m ih =>
    intro hm
    have hk := h m (by omega)
    have ez : zb x m = (zn x).testBit m := rfl
    show yN Q (w + m + 1) = yN Q w + (cb (zn x) m + ((zn x).testBit m).toNat)
    by_cases hp : Q (w + m)
    · rw [yN_t hp, ih (by omega), ← ez, hk.mpr hp, Nat.add_assoc]; rfl
    · have : zb x m = false := by
        cases z : zb x m
        · rfl
        · exact absurd (hk.mp z) hp
      rw [yN_f hp, ih (by omega), ← ez, this]; rfl
/-- a block is done: what was found in it is counted -/
theorem yN_next {P : Nat → Prop} {st c9 : Nat} {x : Int64} (hst : st ≤ c9) (hx : ∀ k, k < 64 → (zb x k = true ↔ st ≤ 64 * (c9 / 64) + k ∧ P (64 * (c9 / 64) + k))) (hno : ∀ a, st ≤ a → a < c9 → ¬ P a) : yN P (64 * (c9 / 64) + 64) = yN P st + cb (zn x) 64 := by
  rw [yN_split (P := P) (show st ≤ 64 * (c9 / 64) + 64 by omega), yN_word (Q := fun a => st ≤ a ∧ P a) hx 64 (by omega), yN_none (P := fun a => st ≤ a ∧ P a) (Nat.zero_le _) (fun a _ h2 h3 => hno a h3.1 (by omega) h3.2)]
  show _ + (0 + _) = _
  rw [Nat.zero_add]
theorem y_min {n k : Nat} (h : n ≤ k) (hk : k < 2 ^ 31) : (if nI n < nI k then nI n else nI k) = nI n := by
  by_cases q : n < k
  · rw [if_pos (nI_lt q hk)]
  · rw [show k = n by omega]; simp
theorem yL_iff {P P' : Nat → Prop} {st : Nat} {r : Int32} (hp : ∀ a, P a ↔ P' a) (h : yL P st r) : yL P' st r := by
  rw [show P' = P from funext (fun a => propext (hp a).symm)]; exact h
/-- the search's own state: rows, reasons, what was blamed and found -/
abbrev y8 : Type := (Nat → Int32) × (Nat → Int32) × (Nat → Int64) × (Nat → Int32) × (Nat → Int32) × Int32 × Int32 × Int64
/-- with no assumption left out, the rows say that an assignment is good -/
theorem yWA_good {cc ac rows : Nat} {f1 f2 f4 g1 g2 : Nat → Int32} {f7 g7 : Nat → Int64} (hac : ac ≤ 18) (h : ∀ a, (∀ j, j < rows → scl (g1 j) (g2 j) (g7 j) a) ↔ ((∀ j, j < cc → scl (f1 j) (f2 j) (f7 j) a) ∧ ∀ j, j < ac → ¬ nI j = -1 → ycl (yYes (f4 j)) (yNo (f4 j)) a)) (a : Nat) : (∀ j, j < rows → scl (g1 j) (g2 j) (g7 j) a) ↔ yGood f1 f2 f7 f4 cc ac a :=
  (h a).trans ⟨fun q => ⟨q.1, fun j hj => q.2 j hj (y_m1 (by omega))⟩, fun q => ⟨q.1, fun j hj _ => q.2 j hj⟩⟩
theorem yWA_but {cc ac rows i : Nat} {f1 f2 f4 g1 g2 : Nat → Int32} {f7 g7 : Nat → Int64} (hac : ac ≤ 18) (hi : i < ac) (h : ∀ a, (∀ j, j < rows → scl (g1 j) (g2 j) (g7 j) a) ↔ ((∀ j, j < cc → scl (f1 j) (f2 j) (f7 j) a) ∧ ∀ j, j < ac → ¬ nI j = nI i → ycl (yYes (f4 j)) (yNo (f4 j)) a)) (a : Nat) : (∀ j, j < rows → scl (g1 j) (g2 j) (g7 j) a) ↔ ((∀ j, j < cc → scl (f1 j) (f2 j) (f7 j) a) ∧ ∀ j, j < ac → j ≠ i → ycl (yYes (f4 j)) (yNo (f4 j)) a) :=
  (h a).trans ⟨fun q => ⟨q.1, fun j hj hne => q.2 j hj (fun e => hne ((nI_eq (by omega) (by omega)).mp e))⟩, fun q => ⟨q.1, fun j hj hne => q.2 j hj (fun e => hne (by rw [e]))⟩⟩
theorem yKeep {e1 e2 d1 d2 f1 f2 : Nat → Int32} {e7 d7 f7 : Nat → Int64} {cc rows : Nat} (h : cc ≤ rows) (h1 : ∀ j, j < rows → e1 j = d1 j ∧ e2 j = d2 j ∧ e7 j = d7 j) (h2 : ∀ j, j < cc → d1 j = f1 j ∧ d2 j = f2 j ∧ d7 j = f7 j) : ∀ j, j < cc → e1 j = f1 j ∧ e2 j = f2 j ∧ e7 j = f7 j := fun j hj =>
  ⟨(h1 j (by omega)).1.trans (h2 j hj).1, (h1 j (by omega)).2.1.trans (h2 j hj).2.1, (h1 j (by omega)).2.2.trans (h2 j hj).2.2⟩
theorem ySame {g1 g2 d1 d2 : Nat → Int32} {g7 d7 : Nat → Int64} {rows : Nat} (h : ∀ j, j < rows → g1 j = d1 j ∧ g2 j = d2 j ∧ g7 j = d7 j) (a : Nat) : (∀ j, j < rows → scl (g1 j) (g2 j) (g7 j) a) ↔ ∀ j, j < rows → scl (d1 j) (d2 j) (d7 j) a :=
  ⟨fun q j hj => by rw [← (h j hj).1, ← (h j hj).2.1, ← (h j hj).2.2]; exact q j hj, fun q j hj => by rw [(h j hj).1, (h j hj).2.1, (h j hj).2.2]; exact q j hj⟩
theorem yhSame {g1 g2 d1 d2 : Nat → Int32} {g7 d7 : Nat → Int64} {rows : Nat} (h : ∀ j, j < rows → g1 j = d1 j ∧ g2 j = d2 j ∧ g7 j = d7 j) (hm : ∀ j, j < rows → yh (d1 j) ∧ yh (d2 j)) : ∀ j, j < rows → yh (g1 j) ∧ yh (g2 j) := fun j hj => by rw [(h j hj).1, (h j hj).2.1]; exact hm j hj
theorem y_rng {x M : Int32} {m : Nat} (hM : M.toInt = (m : Int)) (h1 : ¬ x < 1) (h2 : x ≤ M) : ∃ n0, 1 ≤ n0 ∧ n0 ≤ m ∧ x = nI n0 := by
  have h0 : ¬ x < 0 := fun q => h1 (Int32.lt_trans q (by decide))
  obtain ⟨j, hj, rfl⟩ := nI_of2 hM h0 h2
  refine ⟨j, ?_, hj, rfl⟩
  rcases Nat.eq_zero_or_pos j with q | q
  · exact absurd (by rw [q, nI_0]; decide) h1
  · exact q
theorem yForced {cc ac rows : Nat} {f1 f2 f4 d1 d2 e1 e2 : Nat → Int32} {f7 d7 e7 : Nat → Int64} {w : Int64} {p0 : Int32} (hac : ac ≤ 18) (hl : yLit p0) (h : ∀ a, (∀ j, j < rows → scl (d1 j) (d2 j) (d7 j) a) ↔ ((∀ j, j < cc → scl (f1 j) (f2 j) (f7 j) a) ∧ ∀ j, j < ac → ¬ nI j = -1 → ycl (yYes (f4 j)) (yNo (f4 j)) a))
    (e1e : e1 = upd d1 rows (yYes (-p0) &&& 262080)) (e2e : e2 = upd d2 rows (yNo (-p0) &&& 262080)) (hw : yLw 6 (yYes (-p0)) (yNo (-p0)) w) (e7e : e7 = vp_updL d7 rows w) : (∀ a, a < 262144 → yGood f1 f2 f7 f4 cc ac a → ycl (yYes p0) (yNo p0) a) ↔ ¬ ∃ a, a < 262144 ∧ ∀ j, j < rows + 1 → scl (e1 j) (e2 j) (e7 j) a := by
  have key : ∀ a, (∀ j, j < rows + 1 → scl (e1 j) (e2 j) (e7 j) a) ↔ (yGood f1 f2 f7 f4 cc ac a ∧ ¬ ycl (yYes p0) (yNo p0) a) := by
    intro a
    rw [← yWA_good hac h a, ← yLit_negcl hl, e1e, e2e, e7e, yRow, scl_split (yLit_m (yLit_neg hl)).1 (yLit_m (yLit_neg hl)).2 hw]
  constructor
  · rintro q ⟨a, h1, h2⟩
    exact ((key a).mp h2).2 (q a h1 ((key a).mp h2).1)
  · intro q a h1 h2
    by_cases z : ycl (yYes p0) (yNo p0) a
    · exact z
    · exact absurd ⟨a, h1, (key a).mpr ⟨h2, z⟩⟩ q
set_option maxHeartbeats 4000000 in
set_option maxRecDepth 100000 in
theorem c_free (l : Launch) (dC : Nat → ClassId) (dI : Nat → Nat → Nat) (h : Nat) (hs : Nat) (q1 : Nat) (q2 : Nat) (q7 : Nat) (q3 : Nat) (q4 : Nat) (q5 : Nat) (q6 : Nat) (k1 : ClassId) (k2 : ClassId) (k7 : ClassId) (k3 : ClassId) (k4 : ClassId) (k5 : ClassId) (k6 : ClassId) (f1 : Nat → Int32) (f2 : Nat → Int32) (f7 : Nat → Int64) (f3 : Nat → Int32) (f4 : Nat → Int32) (f5 : Nat → Int32) (f6 : Nat → Int32) (cc : Nat) (lv : Nat) (ac : Nat) (tc : Nat) (ty : Int32) (tn : Int32) (md : Int32) (bY : Int32) (bN : Int32) (fd : Int64) (sz : Nat)  : Met l yX0_free wsX0_free ({ frames := 0, cells := 0, slots := 0, locals := 0 }) (va_Pc [.ref h] (fun U => U.heap.size = sz ∧ va_P (dC, dI) vwCl [yO h hs q3 q4 (nI cc) (nI lv) (nI ac) (nI tc) ty tn md, sO hs q1 q2 q7 q5 q6 bY bN fd, (q1, .inl (k1, 420, .inl f1)), (q2, .inl (k2, 420, .inl f2)), (q7, .inl (k7, 420, .inr (.inl f7))), (q3, .inl (k3, 41, .inl f3)), (q4, .inl (k4, 18, .inl f4)), (q5, .inl (k5, 18, .inl f5)), (q6, .inl (k6, 18, .inl f6))] U.heap ∧ va_K (dC, dI) vwCl [(k1, .int), (k2, .int), (k7, .long), (k3, .int), (k4, .int), (k5, .int), (k6, .int)] U ∧ va_D (fun _ => True) [yO h hs q3 q4 (nI cc) (nI lv) (nI ac) (nI tc) ty tn md, sO hs q1 q2 q7 q5 q6 bY bN fd, (q1, .inl (k1, 420, .inl f1)), (q2, .inl (k2, 420, .inl f2)), (q7, .inl (k7, 420, .inr (.inl f7))), (q3, .inl (k3, 41, .inl f3)), (q4, .inl (k4, 18, .inl f4)), (q5, .inl (k5, 18, .inl f5)), (q6, .inl (k6, 18, .inl f6))])) (va_Qi (fun (r : Int32) (u : Unit) => r = nI ac) (fun (u : Unit) (t : State) => va_P (dC, dI) vwCl [yO h hs q3 q4 (nI cc) (nI lv) 0 (nI tc) ty tn (-1), sO hs q1 q2 q7 q5 q6 bY bN fd, (q1, .inl (k1, 420, .inl f1)), (q2, .inl (k2, 420, .inl f2)), (q7, .inl (k7, 420, .inr (.inl f7))), (q3, .inl (k3, 41, .inl f3)), (q4, .inl (k4, 18, .inl f4)), (q5, .inl (k5, 18, .inl f5)), (q6, .inl (k6, 18, .inl f6))] t.heap ∧ va_K (dC, dI) vwCl [(k1, .int), (k2, .int), (k7, .long), (k3, .int), (k4, .int), (k5, .int), (k6, .int)] t ∧ va_D (va_A [yO h hs q3 q4 (nI cc) (nI lv) (nI ac) (nI tc) ty tn md, sO hs q1 q2 q7 q5 q6 bY bN fd, (q1, .inl (k1, 420, .inl f1)), (q2, .inl (k2, 420, .inl f2)), (q7, .inl (k7, 420, .inr (.inl f7))), (q3, .inl (k3, 41, .inl f3)), (q4, .inl (k4, 18, .inl f4)), (q5, .inl (k5, 18, .inl f5)), (q6, .inl (k6, 18, .inl f6))] sz) [yO h hs q3 q4 (nI cc) (nI lv) 0 (nI tc) ty tn (-1), sO hs q1 q2 q7 q5 q6 bY bN fd, (q1, .inl (k1, 420, .inl f1)), (q2, .inl (k2, 420, .inl f2)), (q7, .inl (k7, 420, .inr (.inl f7))), (q3, .inl (k3, 41, .inl f3)), (q4, .inl (k4, 18, .inl f4)), (q5, .inl (k5, 18, .inl f5)), (q6, .inl (k6, 18, .inl f6))]) (va_A [yO h hs q3 q4 (nI cc) (nI lv) (nI ac) (nI tc) ty tn md, sO hs q1 q2 q7 q5 q6 bY bN fd, (q1, .inl (k1, 420, .inl f1)), (q2, .inl (k2, 420, .inl f2)), (q7, .inl (k7, 420, .inr (.inl f7))), (q3, .inl (k3, 41, .inl f3)), (q4, .inl (k4, 18, .inl f4)), (q5, .inl (k5, 18, .inl f5)), (q6, .inl (k6, 18, .inl f6))] sz)) 0 0 (va_A [yO h hs q3 q4 (nI cc) (nI lv) (nI ac) (nI tc) ty tn md, sO hs q1 q2 q7 q5 q6 bY bN fd, (q1, .inl (k1, 420, .inl f1)), (q2, .inl (k2, 420, .inl f2)), (q7, .inl (k7, 420, .inr (.inl f7))), (q3, .inl (k3, 41, .inl f3)), (q4, .inl (k4, 18, .inl f4)), (q5, .inl (k5, 18, .inl f5)), (q6, .inl (k6, 18, .inl f6))] sz) := by
  refine Met.ofW (cc := cX0_free) (maxL := 2) (ret := (some .int)) (by decide) rfl ?_
  intro p e s m args below meth c s₁ B hml hv
  obtain ⟨rfl, hsz, hP, hK, hD0⟩ := hv
  have hx := B.exec
  have hb := B.bytes
  have hr := B.returns
  have hts := atoms_spec (ws := wsX0_free) B.pre
  have htA : ∀ w ∈ wsA, w.before _ s = true := fun w h => hts w (List.mem_cons_of_mem _ h)
  have hown : s.vm.findClass RX0 = some m.cls := findClass_of_methodNamed B.named
  have hlocks := B.notSynchronized
  subst hsz
  have hD := hD0.self (sz := s.heap.size)
  generalize hAe : va_A [yO h hs q3 q4 (nI cc) (nI lv) (nI ac) (nI tc) ty tn md, sO hs q1 q2 q7 q5 q6 bY bN fd, (q1, .inl (k1, 420, .inl f1)), (q2, .inl (k2, 420, .inl f2)), (q7, .inl (k7, 420, .inr (.inl f7))), (q3, .inl (k3, 41, .inl f3)), (q4, .inl (k4, 18, .inl f4)), (q5, .inl (k5, 18, .inl f5)), (q6, .inl (k6, 18, .inl f6))] s.heap.size = A at hD ⊢
  have hA : ∀ q : Nat, s.heap.size ≤ q → A q := fun q h => by rw [← hAe]; exact Or.inr h
  have hS : va_S A s.heap s.heap [] := va_S.rf
  have hP : va_P (dC, dI) vwCl [yO h hs q3 q4 (nI cc) (nI lv) (nI ac) (nI tc) ty tn md, sO hs q1 q2 q7 q5 q6 bY bN fd, (q1, .inl (k1, 420, .inl f1)), (q2, .inl (k2, 420, .inl f2)), (q7, .inl (k7, 420, .inr (.inl f7))), (q3, .inl (k3, 41, .inl f3)), (q4, .inl (k4, 18, .inl f4)), (q5, .inl (k5, 18, .inl f5)), (q6, .inl (k6, 18, .inl f6))] s.heap := hP
  have hl := lv_entry ([.ref h]) (n := 2) (Nat.le_of_ble_eq_true rfl)
  rw [lg_entry_eq]
  generalize (lg_sl ([.ref h]) ++ List.replicate (2 - (lg_sl ([.ref h])).length) Slot.unset).toArray = ls at hl ⊢
  have hl : lv_has ls 2 [(0, .ref h)] := hl
  refine lv_aload_n hx hb dX0_free_0 rfl (lv_at hl 0 rfl) ?_
  refine va_get (D := (dC, dI)) (ci := 0) (v := .int (nI ac)) (C := RX0) (T := TX0) (N := 10) hx hb htA inX0 hown hK hP 0 rfl rfl 5 (by decide) (htA _ lkX0_75) (fun _ h9 => h9) rfl dX0_free_1 ?_
  refine lv_istore_n (lv' := [(1, .int (nI ac)), (0, .ref h)]) hx hb dX0_free_4 rfl hl (by decide) rfl (fun ls hl => ?_)
  refine lv_aload_n hx hb dX0_free_5 rfl (lv_at hl 1 rfl) ?_
  refine lv_iconst (v := 0) hx hb dX0_free_6 (by decide) ?_
  refine va_put (D := (dC, dI)) (ci := 0) (v := .int 0) (ty := .int) (C := RX0) (T := TX0) (N := 10) hx hb htA inX0 tyX0 tyX0_ok nX0 hown hK hP hD hS 0 rfl rfl 5 (by decide) (htA _ lkX0_75) (fun _ h9 => h9) rfl (by decide +kernel) rfl rfl (Nat.le_of_ble_eq_true rfl) dX0_free_7 (fun H locs hP hD hS => ?_)
  have hP : va_P (dC, dI) vwCl [yO h hs q3 q4 (nI cc) (nI lv) 0 (nI tc) ty tn md, sO hs q1 q2 q7 q5 q6 bY bN fd, (q1, .inl (k1, 420, .inl f1)), (q2, .inl (k2, 420, .inl f2)), (q7, .inl (k7, 420, .inr (.inl f7))), (q3, .inl (k3, 41, .inl f3)), (q4, .inl (k4, 18, .inl f4)), (q5, .inl (k5, 18, .inl f5)), (q6, .inl (k6, 18, .inl f6))] H := hP
  have hD : va_D A [yO h hs q3 q4 (nI cc) (nI lv) 0 (nI tc) ty tn md, sO hs q1 q2 q7 q5 q6 bY bN fd, (q1, .inl (k1, 420, .inl f1)), (q2, .inl (k2, 420, .inl f2)), (q7, .inl (k7, 420, .inr (.inl f7))), (q3, .inl (k3, 41, .inl f3)), (q4, .inl (k4, 18, .inl f4)), (q5, .inl (k5, 18, .inl f5)), (q6, .inl (k6, 18, .inl f6))] := hD
  refine lv_aload_n hx hb dX0_free_10 rfl (lv_at hl 1 rfl) ?_
  refine lv_iconst (v := (-1)) hx hb dX0_free_11 (by decide) ?_
  refine va_put (D := (dC, dI)) (ci := 0) (v := .int (-1)) (ty := .int) (C := RX0) (T := TX0) (N := 10) hx hb htA inX0 tyX0 tyX0_ok nX0 hown hK hP hD hS 0 rfl rfl 9 (by decide) (htA _ lkX0_23) (fun _ h9 => h9) rfl (by decide +kernel) rfl rfl (Nat.le_of_ble_eq_true rfl) dX0_free_12 (fun H locs hP hD hS => ?_)
  have hP : va_P (dC, dI) vwCl [yO h hs q3 q4 (nI cc) (nI lv) 0 (nI tc) ty tn (-1), sO hs q1 q2 q7 q5 q6 bY bN fd, (q1, .inl (k1, 420, .inl f1)), (q2, .inl (k2, 420, .inl f2)), (q7, .inl (k7, 420, .inr (.inl f7))), (q3, .inl (k3, 41, .inl f3)), (q4, .inl (k4, 18, .inl f4)), (q5, .inl (k5, 18, .inl f5)), (q6, .inl (k6, 18, .inl f6))] H := hP
  have hD : va_D A [yO h hs q3 q4 (nI cc) (nI lv) 0 (nI tc) ty tn (-1), sO hs q1 q2 q7 q5 q6 bY bN fd, (q1, .inl (k1, 420, .inl f1)), (q2, .inl (k2, 420, .inl f2)), (q7, .inl (k7, 420, .inr (.inl f7))), (q3, .inl (k3, 41, .inl f3)), (q4, .inl (k4, 18, .inl f4)), (q5, .inl (k5, 18, .inl f5)), (q6, .inl (k6, 18, .inl f6))] := hD
  refine lv_iload_n hx hb dX0_free_15 rfl (lv_at hl 0 rfl) ?_
  exact W.iret (v := nI ac) hx hb hr (fun t ht hW => ⟨⟨nI ac, (), rfl, rfl, by rw [ht]; exact hP, va_K.moved hW.alike hK, hD⟩, hS.F ht⟩) hS.2.2 dX0_free_16
set_option maxHeartbeats 4000000 in
set_option maxRecDepth 100000 in
theorem c_least (l : Launch) (dC : Nat → ClassId) (dI : Nat → Nat → Nat) (h : Nat) (hs : Nat) (q1 : Nat) (q2 : Nat) (q7 : Nat) (q3 : Nat) (q4 : Nat) (q5 : Nat) (q6 : Nat) (k1 : ClassId) (k2 : ClassId) (k7 : ClassId) (k3 : ClassId) (k4 : ClassId) (k5 : ClassId) (k6 : ClassId) (f1 : Nat → Int32) (f2 : Nat → Int32) (f7 : Nat → Int64) (f3 : Nat → Int32) (f4 : Nat → Int32) (f5 : Nat → Int32) (f6 : Nat → Int32) (cc : Nat) (lv : Nat) (ac : Nat) (tc : Nat) (ty : Int32) (tn : Int32) (md : Int32) (bY : Int32) (bN : Int32) (fd : Int64) (sz : Nat) (hcc : cc ≤ 400) (hac : ac ≤ 18) (hm : ∀ j, j < cc → yh (f1 j) ∧ yh (f2 j)) (hlit : ∀ j, j < ac → yLit (f4 j)) : Met l yX0_least wsX0_least ({ frames := 4, cells := 0, slots := 0, locals := 120 }) (va_Pc [.ref h] (fun U => U.heap.size = sz ∧ va_P (dC, dI) vwCl [yO h hs q3 q4 (nI cc) (nI lv) (nI ac) (nI tc) ty tn md, sO hs q1 q2 q7 q5 q6 bY bN fd, (q1, .inl (k1, 420, .inl f1)), (q2, .inl (k2, 420, .inl f2)), (q7, .inl (k7, 420, .inr (.inl f7))), (q3, .inl (k3, 41, .inl f3)), (q4, .inl (k4, 18, .inl f4)), (q5, .inl (k5, 18, .inl f5)), (q6, .inl (k6, 18, .inl f6))] U.heap ∧ va_K (dC, dI) vwCl [(k1, .int), (k2, .int), (k7, .long), (k3, .int), (k4, .int), (k5, .int), (k6, .int)] U ∧ va_D (fun _ => True) [yO h hs q3 q4 (nI cc) (nI lv) (nI ac) (nI tc) ty tn md, sO hs q1 q2 q7 q5 q6 bY bN fd, (q1, .inl (k1, 420, .inl f1)), (q2, .inl (k2, 420, .inl f2)), (q7, .inl (k7, 420, .inr (.inl f7))), (q3, .inl (k3, 41, .inl f3)), (q4, .inl (k4, 18, .inl f4)), (q5, .inl (k5, 18, .inl f5)), (q6, .inl (k6, 18, .inl f6))] ∧ yStat (va_A [yO h hs q3 q4 (nI cc) (nI lv) (nI ac) (nI tc) ty tn md, sO hs q1 q2 q7 q5 q6 bY bN fd, (q1, .inl (k1, 420, .inl f1)), (q2, .inl (k2, 420, .inl f2)), (q7, .inl (k7, 420, .inr (.inl f7))), (q3, .inl (k3, 41, .inl f3)), (q4, .inl (k4, 18, .inl f4)), (q5, .inl (k5, 18, .inl f5)), (q6, .inl (k6, 18, .inl f6))] sz) U U.heap)) (va_Qi (fun (r : Int32) (u : (Nat → Int32) × (Nat → Int32) × (Nat → Int64) × (Nat → Int32) × (Nat → Int32) × Int32 × Int32 × Int64 × Int32) => (∀ j, j < cc → u.1 j = f1 j ∧ u.2.1 j = f2 j ∧ u.2.2.1 j = f7 j) ∧ yL (yGood f1 f2 f7 f4 cc ac) 0 r ∧ u.2.2.2.2.2.2.2.2 = r) (fun (u : (Nat → Int32) × (Nat → Int32) × (Nat → Int64) × (Nat → Int32) × (Nat → Int32) × Int32 × Int32 × Int64 × Int32) (t : State) => va_P (dC, dI) vwCl [yO h hs q3 q4 (nI cc) (nI lv) (nI ac) (nI tc) ty tn u.2.2.2.2.2.2.2.2, sO hs q1 q2 q7 q5 q6 u.2.2.2.2.2.1 u.2.2.2.2.2.2.1 u.2.2.2.2.2.2.2.1, (q1, .inl (k1, 420, .inl u.1)), (q2, .inl (k2, 420, .inl u.2.1)), (q7, .inl (k7, 420, .inr (.inl u.2.2.1))), (q3, .inl (k3, 41, .inl f3)), (q4, .inl (k4, 18, .inl f4)), (q5, .inl (k5, 18, .inl u.2.2.2.1)), (q6, .inl (k6, 18, .inl u.2.2.2.2.1))] t.heap ∧ va_K (dC, dI) vwCl [(k1, .int), (k2, .int), (k7, .long), (k3, .int), (k4, .int), (k5, .int), (k6, .int)] t ∧ va_D (va_A [yO h hs q3 q4 (nI cc) (nI lv) (nI ac) (nI tc) ty tn md, sO hs q1 q2 q7 q5 q6 bY bN fd, (q1, .inl (k1, 420, .inl f1)), (q2, .inl (k2, 420, .inl f2)), (q7, .inl (k7, 420, .inr (.inl f7))), (q3, .inl (k3, 41, .inl f3)), (q4, .inl (k4, 18, .inl f4)), (q5, .inl (k5, 18, .inl f5)), (q6, .inl (k6, 18, .inl f6))] sz) [yO h hs q3 q4 (nI cc) (nI lv) (nI ac) (nI tc) ty tn u.2.2.2.2.2.2.2.2, sO hs q1 q2 q7 q5 q6 u.2.2.2.2.2.1 u.2.2.2.2.2.2.1 u.2.2.2.2.2.2.2.1, (q1, .inl (k1, 420, .inl u.1)), (q2, .inl (k2, 420, .inl u.2.1)), (q7, .inl (k7, 420, .inr (.inl u.2.2.1))), (q3, .inl (k3, 41, .inl f3)), (q4, .inl (k4, 18, .inl f4)), (q5, .inl (k5, 18, .inl u.2.2.2.1)), (q6, .inl (k6, 18, .inl u.2.2.2.2.1))]) (va_A [yO h hs q3 q4 (nI cc) (nI lv) (nI ac) (nI tc) ty tn md, sO hs q1 q2 q7 q5 q6 bY bN fd, (q1, .inl (k1, 420, .inl f1)), (q2, .inl (k2, 420, .inl f2)), (q7, .inl (k7, 420, .inr (.inl f7))), (q3, .inl (k3, 41, .inl f3)), (q4, .inl (k4, 18, .inl f4)), (q5, .inl (k5, 18, .inl f5)), (q6, .inl (k6, 18, .inl f6))] sz)) 0 0 (va_A [yO h hs q3 q4 (nI cc) (nI lv) (nI ac) (nI tc) ty tn md, sO hs q1 q2 q7 q5 q6 bY bN fd, (q1, .inl (k1, 420, .inl f1)), (q2, .inl (k2, 420, .inl f2)), (q7, .inl (k7, 420, .inr (.inl f7))), (q3, .inl (k3, 41, .inl f3)), (q4, .inl (k4, 18, .inl f4)), (q5, .inl (k5, 18, .inl f5)), (q6, .inl (k6, 18, .inl f6))] sz) := by
  refine Met.ofW (cc := cX0_least) (maxL := 1) (ret := (some .int)) (by decide) rfl ?_
  intro p e s m args below meth c s₁ B hml hv
  obtain ⟨rfl, hsz, hP, hK, hD0, hST⟩ := hv
  have hx := B.exec
  have hb := B.bytes
  have hr := B.returns
  have hts := atoms_spec (ws := wsX0_least) B.pre
  have htA : ∀ w ∈ wsA, w.before _ s = true := fun w h => hts w (List.mem_cons_of_mem _ h)
  have hown : s.vm.findClass RX0 = some m.cls := findClass_of_methodNamed B.named
  have hlocks := B.notSynchronized
  subst hsz
  have hD := hD0.self (sz := s.heap.size)
  generalize hAe : va_A [yO h hs q3 q4 (nI cc) (nI lv) (nI ac) (nI tc) ty tn md, sO hs q1 q2 q7 q5 q6 bY bN fd, (q1, .inl (k1, 420, .inl f1)), (q2, .inl (k2, 420, .inl f2)), (q7, .inl (k7, 420, .inr (.inl f7))), (q3, .inl (k3, 41, .inl f3)), (q4, .inl (k4, 18, .inl f4)), (q5, .inl (k5, 18, .inl f5)), (q6, .inl (k6, 18, .inl f6))] s.heap.size = A at hD hST ⊢
  have hA : ∀ q : Nat, s.heap.size ≤ q → A q := fun q h => by rw [← hAe]; exact Or.inr h
  have hS : va_S A s.heap s.heap [] := va_S.rf
  have hP : va_P (dC, dI) vwCl [yO h hs q3 q4 (nI cc) (nI lv) (nI ac) (nI tc) ty tn md, sO hs q1 q2 q7 q5 q6 bY bN fd, (q1, .inl (k1, 420, .inl f1)), (q2, .inl (k2, 420, .inl f2)), (q7, .inl (k7, 420, .inr (.inl f7))), (q3, .inl (k3, 41, .inl f3)), (q4, .inl (k4, 18, .inl f4)), (q5, .inl (k5, 18, .inl f5)), (q6, .inl (k6, 18, .inl f6))] s.heap := hP
  have hl := lv_entry ([.ref h]) (n := 1) (Nat.le_of_ble_eq_true rfl)
  rw [lg_entry_eq]
  generalize (lg_sl ([.ref h]) ++ List.replicate (1 - (lg_sl ([.ref h])).length) Slot.unset).toArray = ls at hl ⊢
  have hl : lv_has ls 1 [(0, .ref h)] := hl
  refine lv_aload_n hx hb dX0_least_0 rfl (lv_at hl 0 rfl) ?_
  refine lv_aload_n hx hb dX0_least_1 rfl (lv_at hl 0 rfl) ?_
  refine va_get (D := (dC, dI)) (ci := 0) (v := .ref hs) (C := RX0) (T := TX0) (N := 10) hx hb htA inX0 hown hK hP 0 rfl rfl 0 (by decide) (htA _ lkX0_12) (fun _ h9 => h9) rfl dX0_least_2 ?_
  refine lv_iconst (v := 0) hx hb dX0_least_5 (by decide) ?_
  refine lv_aload_n hx hb dX0_least_6 rfl (lv_at hl 0 rfl) ?_
  refine lv_iconst (v := (-1)) hx hb dX0_least_7 (by decide) ?_
  have hPc := hP.sub (ws' := [yO h hs q3 q4 (nI cc) (nI lv) (nI ac) (nI tc) ty tn md, sO hs q1 q2 q7 q5 q6 bY bN fd, (q1, .inl (k1, 420, .inl f1)), (q2, .inl (k2, 420, .inl f2)), (q7, .inl (k7, 420, .inr (.inl f7))), (q4, .inl (k4, 18, .inl f4))]) [0, 1, 2, 3, 4, 6] rfl
  have hDc := hD.sub (ws' := [yO h hs q3 q4 (nI cc) (nI lv) (nI ac) (nI tc) ty tn md, sO hs q1 q2 q7 q5 q6 bY bN fd, (q1, .inl (k1, 420, .inl f1)), (q2, .inl (k2, 420, .inl f2)), (q7, .inl (k7, 420, .inr (.inl f7))), (q4, .inl (k4, 18, .inl f4))]) [0, 1, 2, 3, 4, 6] (by decide) rfl
  have hKc := hK.sub (tys' := [(k1, .int), (k2, .int), (k7, .long), (k4, .int)]) [0, 1, 2, 4] rfl
  have hFc := va_free (wc := [yO h hs q3 q4 (nI cc) (nI lv) (nI ac) (nI tc) ty tn md, sO hs q1 q2 q7 q5 q6 bY bN fd, (q1, .inl (k1, 420, .inl f1)), (q2, .inl (k2, 420, .inl f2)), (q7, .inl (k7, 420, .inr (.inl f7))), (q4, .inl (k4, 18, .inl f4))]) hD hS hA [0, 1, 2, 3, 4, 6] rfl
  refine va_calli (va_runV (As := [.int (-1)]) (rest := [.int 0, .ref hs, .ref h]) ⟨hx, hb, hml, hown, htA⟩ (c_writeAssumptions l dC dI h hs q1 q2 q7 q3 q4 q5 q6 k1 k2 k7 k4 f1 f2 f7 f4 cc (nI lv) ac (nI tc) ty tn md bY bN fd (-1) s.heap.size hcc hac hm hlit) (cwV 1 htA gX0_80 rfl rfl rfl (by decide +kernel) ⟨Nat.le_of_ble_eq_true rfl, Nat.le_of_ble_eq_true rfl⟩) ⟨fun a U g mk q => by obtain ⟨q0, q1, qP, qK, qD, qS⟩ := q; exact ⟨q0, q1, qP, va_K.moved (u := U) (U := U.calling g mk a) (Vm.Alike.refl U.vm) qK, qD, yStat.moved (u := U) (U := U.calling g mk a) (Vm.Alike.refl U.vm) qS⟩, va_recv hKc hPc (ci := 0) (q0 := 0) rfl rfl, fun U hU hW => ⟨rfl, by rw [hU], by rw [hU]; exact hPc, va_K.moved hW.alike hKc, hDc.weaken (fun _ _ _ _ => trivial), by rw [hU]; exact ((yStat.moved hW.alike hST).kept hS.2.1).narrow (fun q9 h9 => hFc q9 h9)⟩⟩ rfl rfl hl.1 rfl (lv_room (Nat.le_of_ble_eq_true rfl)) dX0_least_8 ⟨Nat.zero_le _, Nat.zero_le _⟩) hS (fun q _ h => hFc q h) hFc (fun r1 u t H1 locs ht hvm hw hB hz1 hk1 hS => ?_)
  obtain ⟨d1, d2, d7⟩ := u
  obtain ⟨hP1, hK1, hD1⟩ := hB
  rw [ht] at hP1
  try dsimp only at hw hP1 hD1
  obtain ⟨hP, hD⟩ := va_join (wr := [(q3, .inl (k3, 41, .inl f3)), (q5, .inl (k5, 18, .inl f5)), (q6, .inl (k6, 18, .inl f6))]) (w1 := [yO h hs q3 q4 (nI cc) (nI lv) (nI ac) (nI tc) ty tn md, sO hs q1 q2 q7 q5 q6 bY bN fd, (q1, .inl (k1, 420, .inl d1)), (q2, .inl (k2, 420, .inl d2)), (q7, .inl (k7, 420, .inr (.inl d7))), (q4, .inl (k4, 18, .inl f4))]) hP hD [0, 1, 2, 3, 4, 6] [5, 7, 8] rfl rfl (by decide) (by decide) hk1 hFc hP1 hD1
  generalize H1 = H at hP hS ⊢
  have hP : va_P (dC, dI) vwCl [yO h hs q3 q4 (nI cc) (nI lv) (nI ac) (nI tc) ty tn md, sO hs q1 q2 q7 q5 q6 bY bN fd, (q1, .inl (k1, 420, .inl d1)), (q2, .inl (k2, 420, .inl d2)), (q7, .inl (k7, 420, .inr (.inl d7))), (q3, .inl (k3, 41, .inl f3)), (q4, .inl (k4, 18, .inl f4)), (q5, .inl (k5, 18, .inl f5)), (q6, .inl (k6, 18, .inl f6))] H := hP.sub [3, 4, 5, 6, 7, 0, 8, 1, 2] rfl
  have hD : va_D A [yO h hs q3 q4 (nI cc) (nI lv) (nI ac) (nI tc) ty tn md, sO hs q1 q2 q7 q5 q6 bY bN fd, (q1, .inl (k1, 420, .inl d1)), (q2, .inl (k2, 420, .inl d2)), (q7, .inl (k7, 420, .inr (.inl d7))), (q3, .inl (k3, 41, .inl f3)), (q4, .inl (k4, 18, .inl f4)), (q5, .inl (k5, 18, .inl f5)), (q6, .inl (k6, 18, .inl f6))] := hD.sub [3, 4, 5, 6, 7, 0, 8, 1, 2] (by decide) rfl
  obtain ⟨rows, rfl, w1, w2, w3, w4, w5⟩ := hw
  refine W.eq (g2 := F0 m 11 ls [.int (nI rows), .int (nI 0), .ref hs, .ref h]) (by rw [nI_0]) ?_
  have hPc := hP.sub (ws' := [sO hs q1 q2 q7 q5 q6 bY bN fd, (q1, .inl (k1, 420, .inl d1)), (q2, .inl (k2, 420, .inl d2)), (q7, .inl (k7, 420, .inr (.inl d7))), (q5, .inl (k5, 18, .inl f5)), (q6, .inl (k6, 18, .inl f6))]) [1, 2, 3, 4, 7, 8] rfl
  have hDc := hD.sub (ws' := [sO hs q1 q2 q7 q5 q6 bY bN fd, (q1, .inl (k1, 420, .inl d1)), (q2, .inl (k2, 420, .inl d2)), (q7, .inl (k7, 420, .inr (.inl d7))), (q5, .inl (k5, 18, .inl f5)), (q6, .inl (k6, 18, .inl f6))]) [1, 2, 3, 4, 7, 8] (by decide) rfl
  have hKc := hK.sub (tys' := [(k1, .int), (k2, .int), (k7, .long), (k5, .int), (k6, .int)]) [0, 1, 2, 5, 6] rfl
  have hFc := va_free (wc := [sO hs q1 q2 q7 q5 q6 bY bN fd, (q1, .inl (k1, 420, .inl d1)), (q2, .inl (k2, 420, .inl d2)), (q7, .inl (k7, 420, .inr (.inl d7))), (q5, .inl (k5, 18, .inl f5)), (q6, .inl (k6, 18, .inl f6))]) hD hS hA [1, 2, 3, 4, 7, 8] rfl
  refine va_calli (va_runV (As := [.int (nI 0), .int (nI rows)]) (rest := [.ref h]) ⟨hx, hb, hml, hown, htA⟩ (c_leastFrom l dC dI hs q1 q2 q7 q5 q6 k1 k2 k7 k5 k6 d1 d2 d7 f5 f6 bY bN fd 0 rows H.size (by omega) (by omega) w4) (cwV 2 htA gX0_83 rfl rfl rfl (by decide +kernel) ⟨Nat.le_of_ble_eq_true rfl, Nat.le_of_ble_eq_true rfl⟩) ⟨fun a U g mk q => by obtain ⟨q0, q1, qP, qK, qD⟩ := q; exact ⟨q0, q1, qP, va_K.moved (u := U) (U := U.calling g mk a) (Vm.Alike.refl U.vm) qK, qD⟩, va_recv hKc hPc (ci := 2) (q0 := 0) rfl rfl, fun U hU hW => ⟨rfl, by rw [hU], by rw [hU]; exact hPc, va_K.moved hW.alike hKc, hDc.weaken (fun _ _ _ _ => trivial)⟩⟩ rfl rfl hl.1 rfl (lv_room (Nat.le_of_ble_eq_true rfl)) dX0_least_11 ⟨Nat.zero_le _, Nat.zero_le _⟩) hS (fun q _ h => hFc q h) hFc (fun r9 u t H1 locs ht hvm hw hB hz1 hk1 hS => ?_)
  obtain ⟨e1, e2, e7, e5, e6, eY, eN, eF⟩ := u
  obtain ⟨hP1, hK1, hD1⟩ := hB
  rw [ht] at hP1
  try dsimp only at hw hP1 hD1
  obtain ⟨hP, hD⟩ := va_join (wr := [yO h hs q3 q4 (nI cc) (nI lv) (nI ac) (nI tc) ty tn md, (q3, .inl (k3, 41, .inl f3)), (q4, .inl (k4, 18, .inl f4))]) (w1 := [sO hs q1 q2 q7 q5 q6 eY eN eF, (q1, .inl (k1, 420, .inl e1)), (q2, .inl (k2, 420, .inl e2)), (q7, .inl (k7, 420, .inr (.inl e7))), (q5, .inl (k5, 18, .inl e5)), (q6, .inl (k6, 18, .inl e6))]) hP hD [1, 2, 3, 4, 7, 8] [0, 5, 6] rfl rfl (by decide) (by decide) hk1 hFc hP1 hD1
  generalize H1 = H at hP hS ⊢
  have hP : va_P (dC, dI) vwCl [yO h hs q3 q4 (nI cc) (nI lv) (nI ac) (nI tc) ty tn md, sO hs q1 q2 q7 q5 q6 eY eN eF, (q1, .inl (k1, 420, .inl e1)), (q2, .inl (k2, 420, .inl e2)), (q7, .inl (k7, 420, .inr (.inl e7))), (q3, .inl (k3, 41, .inl f3)), (q4, .inl (k4, 18, .inl f4)), (q5, .inl (k5, 18, .inl e5)), (q6, .inl (k6, 18, .inl e6))] H := hP.sub [0, 3, 4, 5, 6, 1, 2, 7, 8] rfl
  have hD : va_D A [yO h hs q3 q4 (nI cc) (nI lv) (nI ac) (nI tc) ty tn md, sO hs q1 q2 q7 q5 q6 eY eN eF, (q1, .inl (k1, 420, .inl e1)), (q2, .inl (k2, 420, .inl e2)), (q7, .inl (k7, 420, .inr (.inl e7))), (q3, .inl (k3, 41, .inl f3)), (q4, .inl (k4, 18, .inl f4)), (q5, .inl (k5, 18, .inl e5)), (q6, .inl (k6, 18, .inl e6))] := hD.sub [0, 3, 4, 5, 6, 1, 2, 7, 8] (by decide) rfl
  refine va_put (D := (dC, dI)) (ci := 0) (v := .int r9) (ty := .int) (C := RX0) (T := TX0) (N := 10) hx hb htA inX0 tyX0 tyX0_ok nX0 hown hK hP hD hS 0 rfl rfl 9 (by decide) (htA _ lkX0_23) (fun _ h9 => h9) rfl (by decide +kernel) rfl rfl (Nat.le_of_ble_eq_true rfl) dX0_least_14 (fun H locs hP hD hS => ?_)
  have hP : va_P (dC, dI) vwCl [yO h hs q3 q4 (nI cc) (nI lv) (nI ac) (nI tc) ty tn r9, sO hs q1 q2 q7 q5 q6 eY eN eF, (q1, .inl (k1, 420, .inl e1)), (q2, .inl (k2, 420, .inl e2)), (q7, .inl (k7, 420, .inr (.inl e7))), (q3, .inl (k3, 41, .inl f3)), (q4, .inl (k4, 18, .inl f4)), (q5, .inl (k5, 18, .inl e5)), (q6, .inl (k6, 18, .inl e6))] H := hP
  have hD : va_D A [yO h hs q3 q4 (nI cc) (nI lv) (nI ac) (nI tc) ty tn r9, sO hs q1 q2 q7 q5 q6 eY eN eF, (q1, .inl (k1, 420, .inl e1)), (q2, .inl (k2, 420, .inl e2)), (q7, .inl (k7, 420, .inr (.inl e7))), (q3, .inl (k3, 41, .inl f3)), (q4, .inl (k4, 18, .inl f4)), (q5, .inl (k5, 18, .inl e5)), (q6, .inl (k6, 18, .inl e6))] := hD
  refine lv_aload_n hx hb dX0_least_17 rfl (lv_at hl 0 rfl) ?_
  refine va_get (D := (dC, dI)) (ci := 0) (v := .int r9) (C := RX0) (T := TX0) (N := 10) hx hb htA inX0 hown hK hP 0 rfl rfl 9 (by decide) (htA _ lkX0_23) (fun _ h9 => h9) rfl dX0_least_18 ?_
  exact W.iret (v := r9) hx hb hr (fun t ht hW => ⟨⟨r9, (e1, e2, e7, e5, e6, eY, eN, eF, r9), rfl, ⟨yKeep w1 hw.2.1 w3, yL_iff (yWA_good hac w5) hw.1, rfl⟩, by rw [ht]; exact hP, va_K.moved hW.alike hK, hD⟩, hS.F ht⟩) hS.2.2 dX0_least_21
set_option maxHeartbeats 4000000 in
set_option maxRecDepth 100000 in
theorem c_can (l : Launch) (dC : Nat → ClassId) (dI : Nat → Nat → Nat) (h : Nat) (hs : Nat) (q1 : Nat) (q2 : Nat) (q7 : Nat) (q3 : Nat) (q4 : Nat) (q5 : Nat) (q6 : Nat) (k1 : ClassId) (k2 : ClassId) (k7 : ClassId) (k3 : ClassId) (k4 : ClassId) (k5 : ClassId) (k6 : ClassId) (f1 : Nat → Int32) (f2 : Nat → Int32) (f7 : Nat → Int64) (f3 : Nat → Int32) (f4 : Nat → Int32) (f5 : Nat → Int32) (f6 : Nat → Int32) (cc : Nat) (lv : Nat) (ac : Nat) (tc : Nat) (ty : Int32) (tn : Int32) (md : Int32) (bY : Int32) (bN : Int32) (fd : Int64) (sz : Nat) (hcc : cc ≤ 400) (hac : ac ≤ 18) (hm : ∀ j, j < cc → yh (f1 j) ∧ yh (f2 j)) (hlit : ∀ j, j < ac → yLit (f4 j)) : Met l yX0_can wsX0_can ({ frames := 5, cells := 0, slots := 0, locals := 160 }) (va_Pc [.ref h] (fun U => U.heap.size = sz ∧ va_P (dC, dI) vwCl [yO h hs q3 q4 (nI cc) (nI lv) (nI ac) (nI tc) ty tn md, sO hs q1 q2 q7 q5 q6 bY bN fd, (q1, .inl (k1, 420, .inl f1)), (q2, .inl (k2, 420, .inl f2)), (q7, .inl (k7, 420, .inr (.inl f7))), (q3, .inl (k3, 41, .inl f3)), (q4, .inl (k4, 18, .inl f4)), (q5, .inl (k5, 18, .inl f5)), (q6, .inl (k6, 18, .inl f6))] U.heap ∧ va_K (dC, dI) vwCl [(k1, .int), (k2, .int), (k7, .long), (k3, .int), (k4, .int), (k5, .int), (k6, .int)] U ∧ va_D (fun _ => True) [yO h hs q3 q4 (nI cc) (nI lv) (nI ac) (nI tc) ty tn md, sO hs q1 q2 q7 q5 q6 bY bN fd, (q1, .inl (k1, 420, .inl f1)), (q2, .inl (k2, 420, .inl f2)), (q7, .inl (k7, 420, .inr (.inl f7))), (q3, .inl (k3, 41, .inl f3)), (q4, .inl (k4, 18, .inl f4)), (q5, .inl (k5, 18, .inl f5)), (q6, .inl (k6, 18, .inl f6))] ∧ yStat (va_A [yO h hs q3 q4 (nI cc) (nI lv) (nI ac) (nI tc) ty tn md, sO hs q1 q2 q7 q5 q6 bY bN fd, (q1, .inl (k1, 420, .inl f1)), (q2, .inl (k2, 420, .inl f2)), (q7, .inl (k7, 420, .inr (.inl f7))), (q3, .inl (k3, 41, .inl f3)), (q4, .inl (k4, 18, .inl f4)), (q5, .inl (k5, 18, .inl f5)), (q6, .inl (k6, 18, .inl f6))] sz) U U.heap)) (va_Qi (fun (r : Int32) (u : (Nat → Int32) × (Nat → Int32) × (Nat → Int64) × (Nat → Int32) × (Nat → Int32) × Int32 × Int32 × Int64) => (∀ j, j < cc → u.1 j = f1 j ∧ u.2.1 j = f2 j ∧ u.2.2.1 j = f7 j) ∧ ((r = 1 ∧ ∃ a, a < 262144 ∧ yGood f1 f2 f7 f4 cc ac a) ∨ (r = 0 ∧ ¬ ∃ a, a < 262144 ∧ yGood f1 f2 f7 f4 cc ac a))) (fun (u : (Nat → Int32) × (Nat → Int32) × (Nat → Int64) × (Nat → Int32) × (Nat → Int32) × Int32 × Int32 × Int64) (t : State) => va_P (dC, dI) vwCl [yO h hs q3 q4 (nI cc) (nI lv) (nI ac) (nI tc) ty tn md, sO hs q1 q2 q7 q5 q6 u.2.2.2.2.2.1 u.2.2.2.2.2.2.1 u.2.2.2.2.2.2.2, (q1, .inl (k1, 420, .inl u.1)), (q2, .inl (k2, 420, .inl u.2.1)), (q7, .inl (k7, 420, .inr (.inl u.2.2.1))), (q3, .inl (k3, 41, .inl f3)), (q4, .inl (k4, 18, .inl f4)), (q5, .inl (k5, 18, .inl u.2.2.2.1)), (q6, .inl (k6, 18, .inl u.2.2.2.2.1))] t.heap ∧ va_K (dC, dI) vwCl [(k1, .int), (k2, .int), (k7, .long), (k3, .int), (k4, .int), (k5, .int), (k6, .int)] t ∧ va_D (va_A [yO h hs q3 q4 (nI cc) (nI lv) (nI ac) (nI tc) ty tn md, sO hs q1 q2 q7 q5 q6 bY bN fd, (q1, .inl (k1, 420, .inl f1)), (q2, .inl (k2, 420, .inl f2)), (q7, .inl (k7, 420, .inr (.inl f7))), (q3, .inl (k3, 41, .inl f3)), (q4, .inl (k4, 18, .inl f4)), (q5, .inl (k5, 18, .inl f5)), (q6, .inl (k6, 18, .inl f6))] sz) [yO h hs q3 q4 (nI cc) (nI lv) (nI ac) (nI tc) ty tn md, sO hs q1 q2 q7 q5 q6 u.2.2.2.2.2.1 u.2.2.2.2.2.2.1 u.2.2.2.2.2.2.2, (q1, .inl (k1, 420, .inl u.1)), (q2, .inl (k2, 420, .inl u.2.1)), (q7, .inl (k7, 420, .inr (.inl u.2.2.1))), (q3, .inl (k3, 41, .inl f3)), (q4, .inl (k4, 18, .inl f4)), (q5, .inl (k5, 18, .inl u.2.2.2.1)), (q6, .inl (k6, 18, .inl u.2.2.2.2.1))]) (va_A [yO h hs q3 q4 (nI cc) (nI lv) (nI ac) (nI tc) ty tn md, sO hs q1 q2 q7 q5 q6 bY bN fd, (q1, .inl (k1, 420, .inl f1)), (q2, .inl (k2, 420, .inl f2)), (q7, .inl (k7, 420, .inr (.inl f7))), (q3, .inl (k3, 41, .inl f3)), (q4, .inl (k4, 18, .inl f4)), (q5, .inl (k5, 18, .inl f5)), (q6, .inl (k6, 18, .inl f6))] sz)) 0 0 (va_A [yO h hs q3 q4 (nI cc) (nI lv) (nI ac) (nI tc) ty tn md, sO hs q1 q2 q7 q5 q6 bY bN fd, (q1, .inl (k1, 420, .inl f1)), (q2, .inl (k2, 420, .inl f2)), (q7, .inl (k7, 420, .inr (.inl f7))), (q3, .inl (k3, 41, .inl f3)), (q4, .inl (k4, 18, .inl f4)), (q5, .inl (k5, 18, .inl f5)), (q6, .inl (k6, 18, .inl f6))] sz) := by
  refine Met.ofW (cc := cX0_can) (maxL := 1) (ret := (some .boolean)) (by decide) rfl ?_
  intro p e s m args below meth c s₁ B hml hv
  obtain ⟨rfl, hsz, hP, hK, hD0, hST⟩ := hv
  have hx := B.exec
  have hb := B.bytes
  have hr := B.returns
  have hts := atoms_spec (ws := wsX0_can) B.pre
  have htA : ∀ w ∈ wsA, w.before _ s = true := fun w h => hts w (List.mem_cons_of_mem _ h)
  have hown : s.vm.findClass RX0 = some m.cls := findClass_of_methodNamed B.named
  have hlocks := B.notSynchronized
  subst hsz
  have hD := hD0.self (sz := s.heap.size)
  generalize hAe : va_A [yO h hs q3 q4 (nI cc) (nI lv) (nI ac) (nI tc) ty tn md, sO hs q1 q2 q7 q5 q6 bY bN fd, (q1, .inl (k1, 420, .inl f1)), (q2, .inl (k2, 420, .inl f2)), (q7, .inl (k7, 420, .inr (.inl f7))), (q3, .inl (k3, 41, .inl f3)), (q4, .inl (k4, 18, .inl f4)), (q5, .inl (k5, 18, .inl f5)), (q6, .inl (k6, 18, .inl f6))] s.heap.size = A at hD hST ⊢
  have hA : ∀ q : Nat, s.heap.size ≤ q → A q := fun q h => by rw [← hAe]; exact Or.inr h
  have hS : va_S A s.heap s.heap [] := va_S.rf
  have hP : va_P (dC, dI) vwCl [yO h hs q3 q4 (nI cc) (nI lv) (nI ac) (nI tc) ty tn md, sO hs q1 q2 q7 q5 q6 bY bN fd, (q1, .inl (k1, 420, .inl f1)), (q2, .inl (k2, 420, .inl f2)), (q7, .inl (k7, 420, .inr (.inl f7))), (q3, .inl (k3, 41, .inl f3)), (q4, .inl (k4, 18, .inl f4)), (q5, .inl (k5, 18, .inl f5)), (q6, .inl (k6, 18, .inl f6))] s.heap := hP
  have hl := lv_entry ([.ref h]) (n := 1) (Nat.le_of_ble_eq_true rfl)
  rw [lg_entry_eq]
  generalize (lg_sl ([.ref h]) ++ List.replicate (1 - (lg_sl ([.ref h])).length) Slot.unset).toArray = ls at hl ⊢
  have hl : lv_has ls 1 [(0, .ref h)] := hl
  refine lv_aload_n hx hb dX0_can_0 rfl (lv_at hl 0 rfl) ?_
  refine lv_aload_n hx hb dX0_can_1 rfl (lv_at hl 0 rfl) ?_
  refine lv_iconst (v := (-1)) hx hb dX0_can_2 (by decide) ?_
  have hPc := hP.sub (ws' := [yO h hs q3 q4 (nI cc) (nI lv) (nI ac) (nI tc) ty tn md, sO hs q1 q2 q7 q5 q6 bY bN fd, (q1, .inl (k1, 420, .inl f1)), (q2, .inl (k2, 420, .inl f2)), (q7, .inl (k7, 420, .inr (.inl f7))), (q4, .inl (k4, 18, .inl f4))]) [0, 1, 2, 3, 4, 6] rfl
  have hDc := hD.sub (ws' := [yO h hs q3 q4 (nI cc) (nI lv) (nI ac) (nI tc) ty tn md, sO hs q1 q2 q7 q5 q6 bY bN fd, (q1, .inl (k1, 420, .inl f1)), (q2, .inl (k2, 420, .inl f2)), (q7, .inl (k7, 420, .inr (.inl f7))), (q4, .inl (k4, 18, .inl f4))]) [0, 1, 2, 3, 4, 6] (by decide) rfl
  have hKc := hK.sub (tys' := [(k1, .int), (k2, .int), (k7, .long), (k4, .int)]) [0, 1, 2, 4] rfl
  have hFc := va_free (wc := [yO h hs q3 q4 (nI cc) (nI lv) (nI ac) (nI tc) ty tn md, sO hs q1 q2 q7 q5 q6 bY bN fd, (q1, .inl (k1, 420, .inl f1)), (q2, .inl (k2, 420, .inl f2)), (q7, .inl (k7, 420, .inr (.inl f7))), (q4, .inl (k4, 18, .inl f4))]) hD hS hA [0, 1, 2, 3, 4, 6] rfl
  refine va_calli (va_runV (As := [.int (-1)]) (rest := [.ref h]) ⟨hx, hb, hml, hown, htA⟩ (c_writeAssumptions l dC dI h hs q1 q2 q7 q3 q4 q5 q6 k1 k2 k7 k4 f1 f2 f7 f4 cc (nI lv) ac (nI tc) ty tn md bY bN fd (-1) s.heap.size hcc hac hm hlit) (cwV 1 htA gX0_80 rfl rfl rfl (by decide +kernel) ⟨Nat.le_of_ble_eq_true rfl, Nat.le_of_ble_eq_true rfl⟩) ⟨fun a U g mk q => by obtain ⟨q0, q1, qP, qK, qD, qS⟩ := q; exact ⟨q0, q1, qP, va_K.moved (u := U) (U := U.calling g mk a) (Vm.Alike.refl U.vm) qK, qD, yStat.moved (u := U) (U := U.calling g mk a) (Vm.Alike.refl U.vm) qS⟩, va_recv hKc hPc (ci := 0) (q0 := 0) rfl rfl, fun U hU hW => ⟨rfl, by rw [hU], by rw [hU]; exact hPc, va_K.moved hW.alike hKc, hDc.weaken (fun _ _ _ _ => trivial), by rw [hU]; exact ((yStat.moved hW.alike hST).kept hS.2.1).narrow (fun q9 h9 => hFc q9 h9)⟩⟩ rfl rfl hl.1 rfl (lv_room (Nat.le_of_ble_eq_true rfl)) dX0_can_3 ⟨Nat.zero_le _, Nat.zero_le _⟩) hS (fun q _ h => hFc q h) hFc (fun r1 u t H1 locs ht hvm hw hB hz1 hk1 hS => ?_)
  obtain ⟨d1, d2, d7⟩ := u
  obtain ⟨hP1, hK1, hD1⟩ := hB
  rw [ht] at hP1
  try dsimp only at hw hP1 hD1
  obtain ⟨hP, hD⟩ := va_join (wr := [(q3, .inl (k3, 41, .inl f3)), (q5, .inl (k5, 18, .inl f5)), (q6, .inl (k6, 18, .inl f6))]) (w1 := [yO h hs q3 q4 (nI cc) (nI lv) (nI ac) (nI tc) ty tn md, sO hs q1 q2 q7 q5 q6 bY bN fd, (q1, .inl (k1, 420, .inl d1)), (q2, .inl (k2, 420, .inl d2)), (q7, .inl (k7, 420, .inr (.inl d7))), (q4, .inl (k4, 18, .inl f4))]) hP hD [0, 1, 2, 3, 4, 6] [5, 7, 8] rfl rfl (by decide) (by decide) hk1 hFc hP1 hD1
  generalize H1 = H at hP hS ⊢
  have hP : va_P (dC, dI) vwCl [yO h hs q3 q4 (nI cc) (nI lv) (nI ac) (nI tc) ty tn md, sO hs q1 q2 q7 q5 q6 bY bN fd, (q1, .inl (k1, 420, .inl d1)), (q2, .inl (k2, 420, .inl d2)), (q7, .inl (k7, 420, .inr (.inl d7))), (q3, .inl (k3, 41, .inl f3)), (q4, .inl (k4, 18, .inl f4)), (q5, .inl (k5, 18, .inl f5)), (q6, .inl (k6, 18, .inl f6))] H := hP.sub [3, 4, 5, 6, 7, 0, 8, 1, 2] rfl
  have hD : va_D A [yO h hs q3 q4 (nI cc) (nI lv) (nI ac) (nI tc) ty tn md, sO hs q1 q2 q7 q5 q6 bY bN fd, (q1, .inl (k1, 420, .inl d1)), (q2, .inl (k2, 420, .inl d2)), (q7, .inl (k7, 420, .inr (.inl d7))), (q3, .inl (k3, 41, .inl f3)), (q4, .inl (k4, 18, .inl f4)), (q5, .inl (k5, 18, .inl f5)), (q6, .inl (k6, 18, .inl f6))] := hD.sub [3, 4, 5, 6, 7, 0, 8, 1, 2] (by decide) rfl
  obtain ⟨rows, rfl, w1, w2, w3, w4, w5⟩ := hw
  have hPc := hP.sub (ws' := [yO h hs q3 q4 (nI cc) (nI lv) (nI ac) (nI tc) ty tn md, sO hs q1 q2 q7 q5 q6 bY bN fd, (q1, .inl (k1, 420, .inl d1)), (q2, .inl (k2, 420, .inl d2)), (q7, .inl (k7, 420, .inr (.inl d7))), (q5, .inl (k5, 18, .inl f5)), (q6, .inl (k6, 18, .inl f6))]) [0, 1, 2, 3, 4, 7, 8] rfl
  have hDc := hD.sub (ws' := [yO h hs q3 q4 (nI cc) (nI lv) (nI ac) (nI tc) ty tn md, sO hs q1 q2 q7 q5 q6 bY bN fd, (q1, .inl (k1, 420, .inl d1)), (q2, .inl (k2, 420, .inl d2)), (q7, .inl (k7, 420, .inr (.inl d7))), (q5, .inl (k5, 18, .inl f5)), (q6, .inl (k6, 18, .inl f6))]) [0, 1, 2, 3, 4, 7, 8] (by decide) rfl
  have hKc := hK.sub (tys' := [(k1, .int), (k2, .int), (k7, .long), (k5, .int), (k6, .int)]) [0, 1, 2, 5, 6] rfl
  have hFc := va_free (wc := [yO h hs q3 q4 (nI cc) (nI lv) (nI ac) (nI tc) ty tn md, sO hs q1 q2 q7 q5 q6 bY bN fd, (q1, .inl (k1, 420, .inl d1)), (q2, .inl (k2, 420, .inl d2)), (q7, .inl (k7, 420, .inr (.inl d7))), (q5, .inl (k5, 18, .inl f5)), (q6, .inl (k6, 18, .inl f6))]) hD hS hA [0, 1, 2, 3, 4, 7, 8] rfl
  refine va_calli (va_runV (As := [.int (nI rows)]) (rest := []) ⟨hx, hb, hml, hown, htA⟩ (c_isSatisfied l dC dI h hs q1 q2 q7 q3 q4 q5 q6 k1 k2 k7 k5 k6 d1 d2 d7 f5 f6 (nI cc) (nI lv) (nI ac) (nI tc) ty tn md bY bN fd rows H.size (by omega) w4) (cwV 1 htA gX0_89 rfl rfl rfl (by decide +kernel) ⟨Nat.le_of_ble_eq_true rfl, Nat.le_of_ble_eq_true rfl⟩) ⟨fun a U g mk q => by obtain ⟨q0, q1, qP, qK, qD⟩ := q; exact ⟨q0, q1, qP, va_K.moved (u := U) (U := U.calling g mk a) (Vm.Alike.refl U.vm) qK, qD⟩, va_recv hKc hPc (ci := 0) (q0 := 0) rfl rfl, fun U hU hW => ⟨rfl, by rw [hU], by rw [hU]; exact hPc, va_K.moved hW.alike hKc, hDc.weaken (fun _ _ _ _ => trivial)⟩⟩ rfl rfl hl.1 rfl (lv_room (Nat.le_of_ble_eq_true rfl)) dX0_can_6 ⟨Nat.zero_le _, Nat.zero_le _⟩) hS (fun q _ h => hFc q h) hFc (fun r9 u t H1 locs ht hvm hw hB hz1 hk1 hS => ?_)
  obtain ⟨e1, e2, e7, e5, e6, eY, eN, eF⟩ := u
  obtain ⟨hP1, hK1, hD1⟩ := hB
  rw [ht] at hP1
  try dsimp only at hw hP1 hD1
  obtain ⟨hP, hD⟩ := va_join (wr := [(q3, .inl (k3, 41, .inl f3)), (q4, .inl (k4, 18, .inl f4))]) (w1 := [yO h hs q3 q4 (nI cc) (nI lv) (nI ac) (nI tc) ty tn md, sO hs q1 q2 q7 q5 q6 eY eN eF, (q1, .inl (k1, 420, .inl e1)), (q2, .inl (k2, 420, .inl e2)), (q7, .inl (k7, 420, .inr (.inl e7))), (q5, .inl (k5, 18, .inl e5)), (q6, .inl (k6, 18, .inl e6))]) hP hD [0, 1, 2, 3, 4, 7, 8] [5, 6] rfl rfl (by decide) (by decide) hk1 hFc hP1 hD1
  generalize H1 = H at hP hS ⊢
  have hP : va_P (dC, dI) vwCl [yO h hs q3 q4 (nI cc) (nI lv) (nI ac) (nI tc) ty tn md, sO hs q1 q2 q7 q5 q6 eY eN eF, (q1, .inl (k1, 420, .inl e1)), (q2, .inl (k2, 420, .inl e2)), (q7, .inl (k7, 420, .inr (.inl e7))), (q3, .inl (k3, 41, .inl f3)), (q4, .inl (k4, 18, .inl f4)), (q5, .inl (k5, 18, .inl e5)), (q6, .inl (k6, 18, .inl e6))] H := hP.sub [2, 3, 4, 5, 6, 0, 1, 7, 8] rfl
  have hD : va_D A [yO h hs q3 q4 (nI cc) (nI lv) (nI ac) (nI tc) ty tn md, sO hs q1 q2 q7 q5 q6 eY eN eF, (q1, .inl (k1, 420, .inl e1)), (q2, .inl (k2, 420, .inl e2)), (q7, .inl (k7, 420, .inr (.inl e7))), (q3, .inl (k3, 41, .inl f3)), (q4, .inl (k4, 18, .inl f4)), (q5, .inl (k5, 18, .inl e5)), (q6, .inl (k6, 18, .inl e6))] := hD.sub [2, 3, 4, 5, 6, 0, 1, 7, 8] (by decide) rfl
  obtain ⟨hw, hk9⟩ := hw
  have hk9 := yKeep w1 hk9 w3
  simp only [yWA_good hac w5] at hw
  rcases hw with ⟨rfl, hw⟩ | ⟨rfl, hw⟩
  · exact W.zret (v := 1) (ty := .boolean) hx hb hr (by decide) (fun t ht hW => ⟨⟨1, (e1, e2, e7, e5, e6, eY, eN, eF), rfl, ⟨hk9, Or.inl ⟨rfl, hw⟩⟩, by rw [ht]; exact hP, va_K.moved hW.alike hK, hD⟩, hS.F ht⟩) hS.2.2 dX0_can_9
  · exact W.zret (v := 0) (ty := .boolean) hx hb hr (by decide) (fun t ht hW => ⟨⟨0, (e1, e2, e7, e5, e6, eY, eN, eF), rfl, ⟨hk9, Or.inr ⟨rfl, hw⟩⟩, by rw [ht]; exact hP, va_K.moved hW.alike hK, hD⟩, hS.F ht⟩) hS.2.2 dX0_can_9
