/-! PURE ROWS of the search: bits, clauses as two masks, reasons, leaps. No machine here. -/
section YPURE
/-- bit i of an int -/
def yb (x : Int32) (i : Nat) : Bool := x.toBitVec.getLsbD i
theorem yb_or (x y : Int32) (i : Nat) : yb (x ||| y) i = (yb x i || yb y i) := by unfold yb; rw [Int32.toBitVec_or, BitVec.getLsbD_or]
theorem yb_and (x y : Int32) (i : Nat) : yb (x &&& y) i = (yb x i && yb y i) := by unfold yb; rw [Int32.toBitVec_and, BitVec.getLsbD_and]
theorem yb_xor (x y : Int32) (i : Nat) : yb (x ^^^ y) i = (yb x i ^^ yb y i) := by unfold yb; rw [Int32.toBitVec_xor, BitVec.getLsbD_xor]
theorem yb_big {x : Int32} {i : Nat} (h : 32 ≤ i) : yb x i = false := BitVec.getLsbD_of_ge _ _ h
theorem yb_lt {x : Int32} {i : Nat} (h : yb x i = true) : i < 32 := by
  rcases Nat.lt_or_ge i 32 with q | q
  · exact q
  · rw [yb_big q] at h; cases h
theorem yb_m1 : ∀ i, i < 32 → yb (-1) i = true := by decide +kernel
theorem yb_0 (i : Nat) : yb 0 i = false := BitVec.getLsbD_zero
theorem yb_ext {x y : Int32} (h : ∀ i, i < 32 → yb x i = yb y i) : x = y := Int32.toBitVec_inj.mp (BitVec.eq_of_getLsbD_eq (fun i hi => h i hi))
theorem yb_nI (a : Nat) {i : Nat} (h : i < 32) : yb (nI a) i = a.testBit i := by
  show (BitVec.ofNat 32 a).getLsbD i = _
  rw [BitVec.getLsbD_ofNat]
  simp [h]
theorem yb_not (x : Int32) {i : Nat} (h : i < 32) : yb (x ^^^ (-1)) i = !(yb x i) := by
  rw [yb_xor, yb_m1 i h]
  cases yb x i <;> rfl
theorem yb_z {x : Int32} : x = 0 ↔ ∀ i, i < 32 → yb x i = false := by
  constructor
  · intro h i _
    rw [h]; exact yb_0 i
  · intro h
    exact yb_ext (fun i hi => by rw [h i hi, yb_0])
theorem yb_one : ∀ v, v < 18 → ∀ i, i < 32 → yb ((1 : Int32) <<< (nI v &&& 31)) i = decide (i = v) := by decide +kernel
theorem yb_neg1 : ∀ v, v < 18 → ∀ i, i < 32 → yb (-((1 : Int32) <<< (nI v &&& 31))) i = decide (v ≤ i) := by decide +kernel
theorem yb_m2 : ∀ v, v < 18 → ∀ i, i < 32 → yb ((-2 : Int32) <<< (nI v &&& 31)) i = decide (v < i) := by decide +kernel
theorem yb_high : ∀ i, i < 32 → yb 262143 i = decide (i < 18) := by decide +kernel
/-- a mask of the 18 variables -/
def ym (x : Int32) : Prop := ∀ i, 18 ≤ i → yb x i = false
theorem ym_0 : ym 0 := fun i _ => yb_0 i
theorem ym_or {x y : Int32} (hx : ym x) (hy : ym y) : ym (x ||| y) := fun i hi => by rw [yb_or, hx i hi, hy i hi]; rfl
theorem ym_lt {x : Int32} (h : ym x) {i : Nat} (hi : yb x i = true) : i < 18 := by
  rcases Nat.lt_or_ge i 18 with q | q
  · exact q
  · rw [h i q] at hi; cases hi
/-- the clause of the masks y (literals v) and n (literals -v) is true in the assignment a -/
def ycl (y n : Int32) (a : Nat) : Prop := ∃ i, (yb y i = true ∧ a.testBit i = true) ∨ (yb n i = true ∧ a.testBit i = false)
theorem ycl_or {y n y' n' : Int32} {a : Nat} : ycl (y ||| y') (n ||| n') a ↔ ycl y n a ∨ ycl y' n' a := by
  unfold ycl
  constructor
  · rintro ⟨i, ⟨h, ha⟩ | ⟨h, ha⟩⟩
    · rw [yb_or] at h
      rcases Bool.or_eq_true_iff.mp h with q | q
      · exact Or.inl ⟨i, Or.inl ⟨q, ha⟩⟩
      · exact Or.inr ⟨i, Or.inl ⟨q, ha⟩⟩
    · rw [yb_or] at h
      rcases Bool.or_eq_true_iff.mp h with q | q
      · exact Or.inl ⟨i, Or.inr ⟨q, ha⟩⟩
      · exact Or.inr ⟨i, Or.inr ⟨q, ha⟩⟩
  · rintro (⟨i, ⟨h, ha⟩ | ⟨h, ha⟩⟩ | ⟨i, ⟨h, ha⟩ | ⟨h, ha⟩⟩)
    · exact ⟨i, Or.inl ⟨by rw [yb_or, h]; rfl, ha⟩⟩
    · exact ⟨i, Or.inr ⟨by rw [yb_or, h]; rfl, ha⟩⟩
    · exact ⟨i, Or.inl ⟨by rw [yb_or, h, Bool.or_true], ha⟩⟩
    · exact ⟨i, Or.inr ⟨by rw [yb_or, h, Bool.or_true], ha⟩⟩
theorem ycl_0 {a : Nat} : ¬ ycl 0 0 a := by
  rintro ⟨i, ⟨h, -⟩ | ⟨h, -⟩⟩ <;> (rw [yb_0] at h; cases h)
/-- the program's own test of a clause -/
theorem ycl_test {y n : Int32} {a : Nat} (hy : ym y) (hn : ym n) : ((y &&& nI a) ||| (n &&& (nI a ^^^ (-1)))) = 0 ↔ ¬ ycl y n a := by
  rw [yb_z]
  constructor
  · rintro h ⟨i, ⟨h1, h2⟩ | ⟨h1, h2⟩⟩
    · have hi := yb_lt h1
      have := h i hi
      rw [yb_or, yb_and, yb_nI a hi, h1, h2] at this
      cases this
    · have hi := yb_lt h1
      have := h i hi
      rw [yb_or, yb_and, yb_and, yb_not _ hi, yb_nI a hi, h1, h2, Bool.and_false] at this
      cases this
  · intro h i hi
    rw [yb_or, yb_and, yb_and, yb_not _ hi, yb_nI a hi]
    have n1 : ¬ (yb y i = true ∧ a.testBit i = true) := fun q => h ⟨i, Or.inl q⟩
    have n2 : ¬ (yb n i = true ∧ a.testBit i = false) := fun q => h ⟨i, Or.inr q⟩
    revert n1 n2
    cases yb y i <;> cases yb n i <;> cases a.testBit i <;> simp
/-- numbers by their bits -/
theorem y_hi : ∀ (k a c : Nat), a < 2 ^ k → c < 2 ^ k → a < c → ∃ i, a.testBit i = false ∧ c.testBit i = true ∧ ∀ j, i < j → a.testBit j = c.testBit j := by
  intro k
  induction k with
  | zero => intro a c h1 h2 h3; simp at h1 h2; omega
  | succ k ih =>
    intro a c h1 h2 h3
    rw [Nat.pow_succ] at h1 h2
    rcases Nat.lt_or_ge (a / 2) (c / 2) with q | q
    · obtain ⟨i, p1, p2, p3⟩ := ih (a / 2) (c / 2) (by omega) (by omega) q
      refine ⟨i + 1, by rw [Nat.testBit_succ]; exact p1, by rw [Nat.testBit_succ]; exact p2, ?_⟩
      intro j hj
      cases j with
      | zero => omega
      | succ j => rw [Nat.testBit_succ, Nat.testBit_succ]; exact p3 j (by omega)
    · have e : a / 2 = c / 2 := by omega
      refine ⟨0, ?_, ?_, ?_⟩
      · rw [Nat.testBit_zero]; simp; omega
      · rw [Nat.testBit_zero]; simp; omega
      · intro j hj
        cases j with
        | zero => omega
        | succ j => rw [Nat.testBit_succ, Nat.testBit_succ, e]
theorem y_lo {a c i : Nat} (ha : a < 262144) (hc : c < 262144) (h1 : a.testBit i = false) (h2 : c.testBit i = true) (h3 : ∀ j, i < j → a.testBit j = c.testBit j) : a < c := by
  rcases Nat.lt_trichotomy a c with q | q | q
  · exact q
  · rw [q, h2] at h1; cases h1
  · exfalso
    obtain ⟨k, p1, p2, p3⟩ := y_hi 18 c a (by omega) (by omega) q
    rcases Nat.lt_trichotomy i k with z | z | z
    · rw [h3 k z, p1] at p2; cases p2
    · rw [← z, h1] at p2; cases p2
    · rw [← p3 i z, h2] at h1; cases h1
theorem y_tb {a i : Nat} (h : a < 262144) (hi : 18 ≤ i) : a.testBit i = false :=
  Nat.testBit_lt_two_pow (Nat.lt_of_lt_of_le h (Nat.pow_le_pow_right (by omega : 2 > 0) hi : 2 ^ 18 ≤ 2 ^ i))
/-- an int whose bits from 18 on are 0 is a number of 18 bits -/
theorem ym_nat {x : Int32} (h : ym x) : ∃ c, c < 262144 ∧ x = nI c ∧ ∀ i, c.testBit i = yb x i := by
  refine ⟨x.toBitVec.toNat, ?_, ?_, fun i => ?_⟩
  · exact Nat.lt_pow_two_of_testBit (n := 18) _ (fun i hi => h i hi)
  · apply Int32.toBitVec_inj.1
    show x.toBitVec = BitVec.ofNat 32 x.toBitVec.toNat
    simp
  · rfl
/-- the reason of the variable v that is 1 in c: higher literals, all false in c; who is in G has v at 1, or one of them -/
def yR (G : Nat → Prop) (c v : Nat) (y n : Int32) : Prop :=
  (∀ i, yb y i = true → v < i ∧ i < 18 ∧ c.testBit i = false) ∧ (∀ i, yb n i = true → v < i ∧ i < 18 ∧ c.testBit i = true) ∧ ∀ a, G a → a.testBit v = true ∨ ycl y n a
def yRI (G : Nat → Prop) (c : Nat) (rY rN : Nat → Int32) : Prop := ∀ v, v < 18 → c.testBit v = true → yR G c v (rY v) (rN v)
/-- the rest clause of a leap at v -/
def yLI (G : Nat → Prop) (c v : Nat) (y n : Int32) : Prop :=
  (∀ i, yb y i = true → v ≤ i ∧ i < 18 ∧ c.testBit i = false) ∧ (∀ i, yb n i = true → v ≤ i ∧ i < 18 ∧ c.testBit i = true) ∧ ∀ a, G a → ycl y n a
theorem yLI_0 {G : Nat → Prop} {c : Nat} {y n : Int32} (hy : ym y) (hn : ym n) (hf : ¬ ycl y n c) (hG : ∀ a, G a → ycl y n a) : yLI G c 0 y n := by
  refine ⟨fun i h => ⟨Nat.zero_le _, ym_lt hy h, ?_⟩, fun i h => ⟨Nat.zero_le _, ym_lt hn h, ?_⟩, hG⟩
  · cases h3 : c.testBit i
    · rfl
    · exact absurd ⟨i, Or.inl ⟨h, h3⟩⟩ hf
  · cases h3 : c.testBit i
    · exact absurd ⟨i, Or.inr ⟨h, h3⟩⟩ hf
    · rfl
theorem yLI_skip {G : Nat → Prop} {c v : Nat} {y n : Int32} (h : yLI G c v y n) (h1 : ¬ yb y v = true) (h2 : ¬ yb n v = true) : yLI G c (v + 1) y n := by
  obtain ⟨a1, a2, a3⟩ := h
  refine ⟨fun i q => ?_, fun i q => ?_, a3⟩
  · obtain ⟨b1, b2, b3⟩ := a1 i q
    refine ⟨?_, b2, b3⟩
    rcases Nat.lt_or_ge v i with z | z
    · exact z
    · exact absurd ((show i = v by omega) ▸ q) h1
  · obtain ⟨b1, b2, b3⟩ := a2 i q
    refine ⟨?_, b2, b3⟩
    rcases Nat.lt_or_ge v i with z | z
    · exact z
    · exact absurd ((show i = v by omega) ▸ q) h2
theorem yLI_end {G : Nat → Prop} {c : Nat} {y n : Int32} (h : yLI G c 18 y n) : ∀ a, ¬ G a := by
  intro a ha
  obtain ⟨i, ⟨q, -⟩ | ⟨q, -⟩⟩ := h.2.2 a ha
  · have := h.1 i q; omega
  · have := h.2.1 i q; omega
theorem yb_at {x : Int32} {v : Nat} (hv : v < 18) : x &&& ((1 : Int32) <<< (nI v &&& 31)) = 0 ↔ ¬ yb x v = true := by
  rw [yb_z]
  constructor
  · intro h q
    have := h v (by omega)
    rw [yb_and, yb_one v hv v (by omega), q] at this
    simp at this
  · intro h i hi
    rw [yb_and, yb_one v hv i hi]
    by_cases e : i = v
    · subst e
      cases q : yb x i
      · rfl
      · exact absurd q h
    · simp [e]
theorem yb_less {x : Int32} {v i : Nat} (hv : v < 18) : yb (x &&& (((1 : Int32) <<< (nI v &&& 31)) ^^^ (-1))) i = true ↔ yb x i = true ∧ i ≠ v := by
  rcases Nat.lt_or_ge i 32 with hi | hi
  · rw [yb_and, yb_not _ hi, yb_one v hv i hi]
    by_cases e : i = v
    · simp [e]
    · simp [e]
  · rw [yb_big hi, yb_big hi]; simp
theorem yLI_res {G : Nat → Prop} {c v : Nat} {y n : Int32} {rY rN : Nat → Int32} (hv : v < 18) (h : yLI G c v y n) (hR : yRI G c rY rN) (h1 : ¬ yb y v = true) (h2 : yb n v = true) :
    yLI G c (v + 1) (y ||| rY v) ((n &&& (((1 : Int32) <<< (nI v &&& 31)) ^^^ (-1))) ||| rN v) := by
  obtain ⟨a1, a2, a3⟩ := h
  obtain ⟨r1, r2, r3⟩ := hR v hv (a2 v h2).2.2
  refine ⟨fun i q => ?_, fun i q => ?_, fun a ha => ?_⟩
  · rw [yb_or] at q
    rcases Bool.or_eq_true_iff.mp q with z | z
    · obtain ⟨b1, b2, b3⟩ := a1 i z
      refine ⟨?_, b2, b3⟩
      rcases Nat.lt_or_ge v i with w | w
      · exact w
      · exact absurd ((show i = v by omega) ▸ z) h1
    · exact r1 i z
  · rw [yb_or] at q
    rcases Bool.or_eq_true_iff.mp q with z | z
    · obtain ⟨z1, z2⟩ := (yb_less hv).mp z
      obtain ⟨b1, b2, b3⟩ := a2 i z1
      exact ⟨by omega, b2, b3⟩
    · exact r2 i z
  · rw [ycl_or]
    rcases r3 a ha with q | q
    · left
      obtain ⟨i, ⟨z, w⟩ | ⟨z, w⟩⟩ := a3 a ha
      · exact ⟨i, Or.inl ⟨z, w⟩⟩
      · refine ⟨i, Or.inr ⟨(yb_less hv).mpr ⟨z, ?_⟩, w⟩⟩
        intro e
        rw [e, q] at w
        cases w
    · exact Or.inr q
/-- the leap: the variable v goes from 0 to 1, all lower ones to 0 -/
theorem yLI_leap {G : Nat → Prop} {c v : Nat} {y n : Int32} {rY rN : Nat → Int32} (hc : c < 262144) (hv : v < 18) (h : yLI G c v y n) (hR : yRI G c rY rN) (h1 : yb y v = true) :
    ∃ c', c' < 262144 ∧ c < c' ∧ (nI c ||| ((1 : Int32) <<< (nI v &&& 31))) &&& (-((1 : Int32) <<< (nI v &&& 31))) = nI c' ∧ (∀ i, i < v → c'.testBit i = false) ∧ yRI G c' (upd rY v (y &&& (((1 : Int32) <<< (nI v &&& 31)) ^^^ (-1)))) (upd rN v n) := by
  obtain ⟨a1, a2, a3⟩ := h
  have hcv := (a1 v h1).2.2
  have hb : ∀ i, yb ((nI c ||| ((1 : Int32) <<< (nI v &&& 31))) &&& (-((1 : Int32) <<< (nI v &&& 31)))) i = (decide (v ≤ i) && (c.testBit i || decide (i = v))) := by
    intro i
    rcases Nat.lt_or_ge i 32 with hi | hi
    · rw [yb_and, yb_or, yb_nI c hi, yb_one v hv i hi, yb_neg1 v hv i hi, Bool.and_comm]
    · rw [yb_big hi, y_tb hc (by omega), decide_eq_false (by omega : ¬ i = v)]; simp
  obtain ⟨c', q1, q2, q3⟩ := ym_nat (x := (nI c ||| ((1 : Int32) <<< (nI v &&& 31))) &&& (-((1 : Int32) <<< (nI v &&& 31)))) (fun i hi => by
    rw [hb, y_tb hc hi, decide_eq_false (by omega : ¬ i = v)]; simp)
  have hb' : ∀ i, c'.testBit i = (decide (v ≤ i) && (c.testBit i || decide (i = v))) := fun i => by rw [q3, hb]
  have hgt : ∀ i, v < i → c'.testBit i = c.testBit i := fun i hi => by
    rw [hb', decide_eq_true (by omega : v ≤ i), decide_eq_false (by omega : ¬ i = v)]; simp
  have hvv : c'.testBit v = true := by rw [hb']; simp
  refine ⟨c', q1, y_lo hc q1 hcv hvv (fun j hj => (hgt j hj).symm), q2, fun i hi => by rw [hb', decide_eq_false (by omega : ¬ v ≤ i)]; rfl, ?_⟩
  intro u hu hcu
  rcases Nat.lt_trichotomy u v with z | z | z
  · rw [hb', decide_eq_false (by omega : ¬ v ≤ u)] at hcu
    cases hcu
  · subst z
    rw [pk_us, pk_us]
    refine ⟨fun i q => ?_, fun i q => ?_, fun a ha => ?_⟩
    · obtain ⟨z1, z2⟩ := (yb_less hv).mp q
      obtain ⟨b1, b2, b3⟩ := a1 i z1
      have : u < i := by omega
      exact ⟨this, b2, by rw [hgt i this]; exact b3⟩
    · obtain ⟨b1, b2, b3⟩ := a2 i q
      have : u < i := by
        rcases Nat.lt_or_ge u i with w | w
        · exact w
        · rw [show i = u by omega, hcv] at b3; cases b3
      exact ⟨this, b2, by rw [hgt i this]; exact b3⟩
    · obtain ⟨i, ⟨z, w⟩ | ⟨z, w⟩⟩ := a3 a ha
      · by_cases e : i = u
        · rw [e] at w; exact Or.inl w
        · exact Or.inr ⟨i, Or.inl ⟨(yb_less hv).mpr ⟨z, e⟩, w⟩⟩
      · exact Or.inr ⟨i, Or.inr ⟨z, w⟩⟩
  · rw [pk_un (by omega), pk_un (by omega)]
    rw [hgt u z] at hcu
    obtain ⟨r1, r2, r3⟩ := hR u hu hcu
    refine ⟨fun i q => ?_, fun i q => ?_, r3⟩
    · obtain ⟨b1, b2, b3⟩ := r1 i q
      exact ⟨b1, b2, by rw [hgt i (by omega)]; exact b3⟩
    · obtain ⟨b1, b2, b3⟩ := r2 i q
      exact ⟨b1, b2, by rw [hgt i (by omega)]; exact b3⟩
/-- who is in G is not below c -/
theorem yRI_least {G : Nat → Prop} {c : Nat} {rY rN : Nat → Int32} (hc : c < 262144) (hR : yRI G c rY rN) {a : Nat} (ha : G a) : c ≤ a := by
  rcases Nat.lt_or_ge a c with q | q
  · exfalso
    obtain ⟨i, p1, p2, p3⟩ := y_hi 18 a c (by omega) (by omega) q
    have hi : i < 18 := by
      rcases Nat.lt_or_ge i 18 with z | z
      · exact z
      · rw [y_tb hc z] at p2; cases p2
    obtain ⟨r1, r2, r3⟩ := hR i hi p2
    rcases r3 a ha with z | ⟨j, ⟨z, w⟩ | ⟨z, w⟩⟩
    · rw [p1] at z; cases z
    · have b := r1 j z
      rw [p3 j b.1, b.2.2] at w; cases w
    · have b := r2 j z
      rw [p3 j b.1, b.2.2] at w; cases w
  · exact q
/-- the reasons at the start -/
theorem yb_start {st v i : Nat} (hv : v < 18) (hs : st < 262144) : yb ((262143 &&& (nI st ^^^ (-1))) &&& ((-2 : Int32) <<< (nI v &&& 31))) i = true ↔ i < 18 ∧ v < i ∧ st.testBit i = false := by
  rcases Nat.lt_or_ge i 32 with hi | hi
  · rw [yb_and, yb_and, yb_high i hi, yb_not _ hi, yb_nI st hi, yb_m2 v hv i hi]
    cases st.testBit i <;> simp <;> omega
  · rw [yb_big hi]; simp; omega
theorem yRI_start {G : Nat → Prop} {st : Nat} {rY rN : Nat → Int32} (hs : st < 262144) (hG : ∀ a, G a → st ≤ a ∧ a < 262144) (h : ∀ v, v < 18 → rY v = (262143 &&& (nI st ^^^ (-1))) &&& ((-2 : Int32) <<< (nI v &&& 31)) ∧ rN v = 0) : yRI G st rY rN := by
  intro v hv hsv
  rw [(h v hv).1, (h v hv).2]
  refine ⟨fun i q => ?_, fun i q => (by rw [yb_0] at q; cases q), fun a ha => ?_⟩
  · obtain ⟨b1, b2, b3⟩ := (yb_start hv hs).mp q
    exact ⟨b2, b1, b3⟩
  · obtain ⟨g1, g2⟩ := hG a ha
    rcases Nat.lt_or_ge st a with q | q
    · obtain ⟨i, p1, p2, p3⟩ := y_hi 18 st a (by omega) (by omega) q
      rcases Nat.lt_trichotomy i v with z | z | z
      · left; rw [← p3 v z]; exact hsv
      · rw [z, hsv] at p1; cases p1
      · right
        have hi : i < 18 := by
          rcases Nat.lt_or_ge i 18 with w | w
          · exact w
          · rw [y_tb g2 w] at p2; cases p2
        exact ⟨i, Or.inl ⟨(yb_start hv hs).mpr ⟨hi, z, p1⟩, p2⟩⟩
    · left; rw [show a = st by omega]; exact hsv
/-- r is the least number from st on (under 2^18) with P, or -1 without one -/
def yL (P : Nat → Prop) (st : Nat) (r : Int32) : Prop := (r = -1 ∧ ∀ a, st ≤ a → a < 262144 → ¬ P a) ∨ ∃ c, r = nI c ∧ st ≤ c ∧ c < 262144 ∧ P c ∧ ∀ a, st ≤ a → a < c → ¬ P a
theorem y_m1 {c : Nat} (h : c < 2 ^ 31) : ¬ nI c = -1 := by
  intro q
  have := nI_pos h
  rw [q] at this
  exact this (by decide)
theorem yL_uniq {P P' : Nat → Prop} {st : Nat} {r r' : Int32} (hp : ∀ a, a < 262144 → (P a ↔ P' a)) (h : yL P st r) (h' : yL P' st r') : r = r' := by
  rcases h with ⟨h1, h2⟩ | ⟨c, h1, h2, h3, h4, h5⟩ <;> rcases h' with ⟨g1, g2⟩ | ⟨d, g1, g2, g3, g4, g5⟩
  · rw [h1, g1]
  · exact absurd ((hp d g3).mpr g4) (h2 d g2 g3)
  · exact absurd ((hp c h3).mp h4) (g2 c h2 h3)
  · have e : c = d := by
      rcases Nat.lt_trichotomy c d with z | z | z
      · exact absurd ((hp c h3).mp h4) (g5 c h2 z)
      · exact z
      · exact absurd ((hp d g3).mpr g4) (h5 d g2 z)
    rw [h1, g1, e]
theorem yL_ne {P : Nat → Prop} {st : Nat} {r : Int32} (h : yL P st r) : (¬ r = -1) ↔ ∃ a, st ≤ a ∧ a < 262144 ∧ P a := by
  rcases h with ⟨h1, h2⟩ | ⟨c, h1, h2, h3, h4, h5⟩
  · constructor
    · intro q; exact absurd h1 q
    · rintro ⟨a, q1, q2, q3⟩; exact absurd q3 (h2 a q1 q2)
  · constructor
    · intro _; exact ⟨c, h2, h3, h4⟩
    · intro _; rw [h1]; exact y_m1 (by omega)
/-- literals as masks, as the program makes them -/
def yYes (x : Int32) : Int32 := if 0 < x then (1 : Int32) <<< ((x - 1) &&& 31) else 0
def yNo (x : Int32) : Int32 := if x < 0 then (1 : Int32) <<< ((-x - 1) &&& 31) else 0
/-- a literal: 1 .. 18, -18 .. -1 -/
def yLit (x : Int32) : Prop := ∃ v, v < 18 ∧ (x = nI (v + 1) ∨ x = -nI (v + 1))
theorem yYes_p : ∀ v, v < 18 → yYes (nI (v + 1)) = (1 : Int32) <<< (nI v &&& 31) ∧ yNo (nI (v + 1)) = 0 := by decide +kernel
theorem yYes_n : ∀ v, v < 18 → yNo (-nI (v + 1)) = (1 : Int32) <<< (nI v &&& 31) ∧ yYes (-nI (v + 1)) = 0 := by decide +kernel
theorem ym_one {v : Nat} (hv : v < 18) : ym ((1 : Int32) <<< (nI v &&& 31)) := by
  intro i hi
  rcases Nat.lt_or_ge i 32 with q | q
  · rw [yb_one v hv i q, decide_eq_false (by omega)]
  · exact yb_big q
theorem yLit_m {x : Int32} (h : yLit x) : ym (yYes x) ∧ ym (yNo x) := by
  obtain ⟨v, hv, rfl | rfl⟩ := h
  · rw [(yYes_p v hv).1, (yYes_p v hv).2]; exact ⟨ym_one hv, ym_0⟩
  · rw [(yYes_n v hv).1, (yYes_n v hv).2]; exact ⟨ym_0, ym_one hv⟩
theorem yLit_p {v a : Nat} (hv : v < 18) : ycl (yYes (nI (v + 1))) (yNo (nI (v + 1))) a ↔ a.testBit v = true := by
  rw [(yYes_p v hv).1, (yYes_p v hv).2]
  constructor
  · rintro ⟨i, ⟨h, ha⟩ | ⟨h, ha⟩⟩
    · rw [yb_one v hv i (yb_lt h)] at h
      rw [← of_decide_eq_true h]; exact ha
    · rw [yb_0] at h; cases h
  · intro h
    exact ⟨v, Or.inl ⟨by rw [yb_one v hv v (by omega)]; simp, h⟩⟩
theorem yLit_n {v a : Nat} (hv : v < 18) : ycl (yYes (-nI (v + 1))) (yNo (-nI (v + 1))) a ↔ a.testBit v = false := by
  rw [(yYes_n v hv).1, (yYes_n v hv).2]
  constructor
  · rintro ⟨i, ⟨h, ha⟩ | ⟨h, ha⟩⟩
    · rw [yb_0] at h; cases h
    · rw [yb_one v hv i (yb_lt h)] at h
      rw [← of_decide_eq_true h]; exact ha
  · intro h
    exact ⟨v, Or.inr ⟨by rw [yb_one v hv v (by omega)]; simp, h⟩⟩
theorem yLit_of {x : Int32} (h0 : ¬ x = 0) (h1 : ¬ x < -18) (h2 : ¬ 18 < x) : yLit x := by
  rw [Int32.lt_iff_toInt_lt] at h1 h2
  have e1 : (-18 : Int32).toInt = -18 := by decide +kernel
  have e2 : (18 : Int32).toInt = 18 := by decide +kernel
  rw [e1] at h1
  rw [e2] at h2
  have hz : ¬ x.toInt = 0 := fun q => h0 (Int32.toInt_inj.mp (by rw [q]; decide +kernel))
  have hn : ∀ v, v < 18 → (nI (v + 1)).toInt = (v + 1 : Nat) ∧ (-nI (v + 1)).toInt = -((v + 1 : Nat) : Int) := by decide +kernel
  rcases Int.lt_or_le 0 x.toInt with q | q
  · refine ⟨x.toInt.toNat - 1, by omega, Or.inl (Int32.toInt_inj.mp ?_)⟩
    rw [(hn (x.toInt.toNat - 1) (by omega)).1]; omega
  · refine ⟨(-x.toInt).toNat - 1, by omega, Or.inr (Int32.toInt_inj.mp ?_)⟩
    rw [(hn ((-x.toInt).toNat - 1) (by omega)).2]; omega
theorem yLit_b : ∀ v, v < 18 → ¬ nI (v + 1) = 0 ∧ ¬ nI (v + 1) < -18 ∧ ¬ 18 < nI (v + 1) ∧ ¬ -nI (v + 1) = 0 ∧ ¬ -nI (v + 1) < -18 ∧ ¬ 18 < -nI (v + 1) := by decide +kernel
theorem yLit_not {x : Int32} (h : yLit x) : ¬ x = 0 ∧ ¬ x < -18 ∧ ¬ 18 < x := by
  obtain ⟨v, hv, rfl | rfl⟩ := h
  · exact ⟨(yLit_b v hv).1, (yLit_b v hv).2.1, (yLit_b v hv).2.2.1⟩
  · exact ⟨(yLit_b v hv).2.2.2.1, (yLit_b v hv).2.2.2.2.1, (yLit_b v hv).2.2.2.2.2⟩
theorem yLit_neg {x : Int32} (h : yLit x) : yLit (-x) := by
  obtain ⟨v, hv, rfl | rfl⟩ := h
  · exact ⟨v, hv, Or.inr rfl⟩
  · exact ⟨v, hv, Or.inl (by rw [Int32.neg_neg])⟩
theorem yLit_negcl {x : Int32} (h : yLit x) {a : Nat} : ycl (yYes (-x)) (yNo (-x)) a ↔ ¬ ycl (yYes x) (yNo x) a := by
  obtain ⟨v, hv, rfl | rfl⟩ := h
  · rw [yLit_n hv, yLit_p hv]; cases a.testBit v <;> simp
  · rw [Int32.neg_neg, yLit_n hv, yLit_p hv]; cases a.testBit v <;> simp
/-- an int whose highest bit is 0 isn't negative -/
theorem y_nneg {x : Int32} (h : yb x 31 = false) : ¬ x < 0 := by
  intro q
  rw [Int32.lt_iff_toInt_lt, Int32.toInt_zero] at q
  have e : x.toInt = x.toBitVec.toInt := rfl
  rw [e, BitVec.toInt_eq_msb_cond, BitVec.msb_eq_getLsbD_last] at q
  rw [show x.toBitVec.getLsbD (32 - 1) = false from h] at q
  simp at q
  omega
theorem y_low {y n : Int32} (hy : ym y) (hn : ym n) (z : Int32) : ¬ ((y ||| n) &&& z) < 0 := by
  apply y_nneg
  rw [yb_and, yb_or, hy 31 (by omega), hn 31 (by omega)]; rfl
end YPURE
