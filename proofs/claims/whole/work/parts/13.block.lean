/-! PURE ROWS of the search by blocks of 64 assignments: rows as two masks of high variables and a word of the low ones -/
section YBLOCK
/-- a mask of the high variables -/
def yh (x : Int32) : Prop := ∀ i, i < 6 ∨ 18 ≤ i → yb x i = false
theorem yh_0 : yh 0 := fun i _ => yb_0 i
theorem yh_m {x : Int32} (h : yh x) : ym x := fun i hi => h i (Or.inr hi)
theorem yh_in {x : Int32} (h : yh x) {i : Nat} (hi : yb x i = true) : 6 ≤ i ∧ i < 18 := by
  refine ⟨?_, ?_⟩
  · rcases Nat.lt_or_ge i 6 with q | q
    · rw [h i (Or.inl q)] at hi; cases hi
    · exact q
  · rcases Nat.lt_or_ge i 18 with q | q
    · exact q
    · rw [h i (Or.inr q)] at hi; cases hi
/-- a row is true: by its high literals, or by the word of its low ones -/
def scl (y n : Int32) (w : Int64) (a : Nat) : Prop := ycl y n a ∨ zb w (a % 64) = true
theorem yb_HIGH : ∀ i, i < 32 → yb 262080 i = decide (6 ≤ i ∧ i < 18) := by decide +kernel
theorem yh_and (x : Int32) : yh (x &&& 262080) := by
  intro i hi
  rcases Nat.lt_or_ge i 32 with q | q
  · rw [yb_and, yb_HIGH i q, decide_eq_false (by omega), Bool.and_false]
  · exact yb_big q
theorem yh_andL (x : Int32) : yh (262080 &&& x) := by
  intro i hi
  rcases Nat.lt_or_ge i 32 with q | q
  · rw [yb_and, yb_HIGH i q, decide_eq_false (by omega), Bool.false_and]
  · exact yb_big q
theorem y_hbit {b k i : Nat} (hb : b % 64 = 0) (hk : k < 64) (hi : 6 ≤ i) : (b + k).testBit i = b.testBit i := by
  have h1 := z_highbit (w := b / 64) hk hi
  have h0 := z_highbit (w := b / 64) (k := 0) (by omega) hi
  rw [show 64 * (b / 64) + k = b + k by omega] at h1
  rw [show 64 * (b / 64) + 0 = b by omega] at h0
  rw [h1, h0]
theorem y_lbit {a v : Nat} (hv : v < 6) : (a % 64).testBit v = a.testBit v := by
  have := z_lowbit (w := a / 64) (k := a % 64) (by omega) hv
  rw [show 64 * (a / 64) + a % 64 = a by omega] at this
  exact this.symm
theorem y_blow {b v : Nat} (hb : b % 64 = 0) (hv : v < 6) : b.testBit v = false := by
  rw [← y_lbit hv, hb, Nat.zero_testBit]
theorem y_mod64 {c : Nat} (h : ∀ i, i < 6 → c.testBit i = false) : c % 64 = 0 := by
  apply Nat.eq_of_testBit_eq
  intro i
  rw [Nat.zero_testBit]
  rcases Nat.lt_or_ge i 6 with q | q
  · rw [y_lbit q]; exact h i q
  · exact Nat.testBit_lt_two_pow (Nat.lt_of_lt_of_le (Nat.mod_lt _ (by omega)) (Nat.pow_le_pow_right (by omega : 2 > 0) q : 2 ^ 6 ≤ 2 ^ i))
theorem ycl_blk {y n : Int32} (hy : yh y) (hn : yh n) {b k : Nat} (hb : b % 64 = 0) (hk : k < 64) : ycl y n (b + k) ↔ ycl y n b := by
  unfold ycl
  constructor
  · rintro ⟨i, ⟨h, q⟩ | ⟨h, q⟩⟩
    · exact ⟨i, Or.inl ⟨h, by rw [← y_hbit hb hk (yh_in hy h).1]; exact q⟩⟩
    · exact ⟨i, Or.inr ⟨h, by rw [← y_hbit hb hk (yh_in hn h).1]; exact q⟩⟩
  · rintro ⟨i, ⟨h, q⟩ | ⟨h, q⟩⟩
    · exact ⟨i, Or.inl ⟨h, by rw [y_hbit hb hk (yh_in hy h).1]; exact q⟩⟩
    · exact ⟨i, Or.inr ⟨h, by rw [y_hbit hb hk (yh_in hn h).1]; exact q⟩⟩
/-- what is to blame: high literals, all false in the block b; who is in P makes one of them true, or is in the word g -/
def yBl (P : Nat → Prop) (b : Nat) (y n : Int32) (g : Int64) : Prop :=
  (∀ i, yb y i = true → 6 ≤ i ∧ i < 18 ∧ b.testBit i = false) ∧ (∀ i, yb n i = true → 6 ≤ i ∧ i < 18 ∧ b.testBit i = true) ∧ ∀ a, P a → ycl y n a ∨ zb g (a % 64) = true
theorem yBl_0 {P : Nat → Prop} {b : Nat} {g : Int64} (h : ∀ a, P a → zb g (a % 64) = true) : yBl P b 0 0 g :=
  ⟨fun i q => (by rw [yb_0] at q; cases q), fun i q => (by rw [yb_0] at q; cases q), fun a ha => Or.inr (h a ha)⟩
theorem y_false {y n : Int32} {b : Nat} (hy : yh y) (hn : yh n) (hf : ¬ ycl y n b) : (∀ i, yb y i = true → 6 ≤ i ∧ i < 18 ∧ b.testBit i = false) ∧ ∀ i, yb n i = true → 6 ≤ i ∧ i < 18 ∧ b.testBit i = true := by
  refine ⟨fun i h => ⟨(yh_in hy h).1, (yh_in hy h).2, ?_⟩, fun i h => ⟨(yh_in hn h).1, (yh_in hn h).2, ?_⟩⟩
  · cases h3 : b.testBit i
    · rfl
    · exact absurd ⟨i, Or.inl ⟨h, h3⟩⟩ hf
  · cases h3 : b.testBit i
    · exact absurd ⟨i, Or.inr ⟨h, h3⟩⟩ hf
    · rfl
theorem yBl_and {P : Nat → Prop} {b : Nat} {y n y' n' : Int32} {g w : Int64} (h : yBl P b y n g) (h1 : yh y') (h2 : yh n') (hf : ¬ ycl y' n' b) (hp : ∀ a, P a → scl y' n' w a) : yBl P b (y ||| y') (n ||| n') (g &&& w) := by
  obtain ⟨f1, f2⟩ := y_false h1 h2 hf
  refine ⟨fun i q => ?_, fun i q => ?_, fun a ha => ?_⟩
  · rw [yb_or] at q
    rcases Bool.or_eq_true_iff.mp q with z | z
    · exact h.1 i z
    · exact f1 i z
  · rw [yb_or] at q
    rcases Bool.or_eq_true_iff.mp q with z | z
    · exact h.2.1 i z
    · exact f2 i z
  · rw [ycl_or]
    rcases h.2.2 a ha with q | q
    · exact Or.inl (Or.inl q)
    · rcases hp a ha with z | z
      · exact Or.inl (Or.inr z)
      · exact Or.inr (by rw [zb_and, q, z]; rfl)
theorem yBl_new {P : Nat → Prop} {b : Nat} {y' n' : Int32} {g w : Int64} (h1 : yh y') (h2 : yh n') (hf : ¬ ycl y' n' b) (hp : ∀ a, P a → scl y' n' w a) (hw : w = 0) : yBl P b (0 ||| y') (0 ||| n') (g &&& w) := by
  have h := yBl_and (g := -1) (w := w) (yBl_0 (P := P) (b := b) (g := -1) (fun a _ => zb_m1 _ (by omega))) h1 h2 hf hp
  rw [hw] at h ⊢
  rw [show g &&& 0 = -1 &&& 0 from zb_ext (fun i hi => by rw [zb_and, zb_and, zb_0, Bool.and_false, Bool.and_false])]
  exact h
theorem yBl_end {P : Nat → Prop} {b : Nat} {y n : Int32} {g : Int64} (h : yBl P b y n g) (hg : g = 0) : yLI P b 6 y n :=
  ⟨h.1, h.2.1, fun a ha => (h.2.2 a ha).resolve_right (by rw [hg, zb_0]; simp)⟩
theorem yBl_mem {P : Nat → Prop} {b k : Nat} {y n : Int32} {g : Int64} (h : yBl P b y n g) (hb : b % 64 = 0) (hk : k < 64) (hp : P (b + k)) : zb g k = true := by
  rcases h.2.2 _ hp with q | q
  · exfalso
    obtain ⟨i, ⟨z, w⟩ | ⟨z, w⟩⟩ := q
    · have := h.1 i z
      rw [y_hbit hb hk this.1, this.2.2] at w; cases w
    · have := h.2.1 i z
      rw [y_hbit hb hk this.1, this.2.2] at w; cases w
  · rw [show (b + k) % 64 = k by omega] at q; exact q
theorem yLI_mono {P G : Nat → Prop} {b v : Nat} {y n : Int32} (h : yLI P b v y n) (hg : ∀ a, G a → P a) : yLI G b v y n := ⟨h.1, h.2.1, fun a ha => h.2.2 a (hg a ha)⟩
/-- the reasons of the high variables, be they at 1 or not -/
def yGR (G : Nat → Prop) (rY rN : Nat → Int32) : Prop := ∀ v, 6 ≤ v → v < 18 → (∀ i, yb (rY v) i = true → v < i ∧ i < 18) ∧ (∀ i, yb (rN v) i = true → v ≤ i ∧ i < 18) ∧ ∀ a, G a → a.testBit v = true ∨ ycl (rY v) (rN v) a
theorem yGR_leap {G : Nat → Prop} {c v : Nat} {y n : Int32} {rY rN : Nat → Int32} (hv : v < 18) (h : yLI G c v y n) (hG : yGR G rY rN) : yGR G (upd rY v (y &&& (((1 : Int32) <<< (nI v &&& 31)) ^^^ (-1)))) (upd rN v n) := by
  intro u h6 h18
  by_cases e : u = v
  · subst e
    rw [pk_us, pk_us]
    obtain ⟨a1, a2, a3⟩ := h
    refine ⟨fun i q => ?_, fun i q => ⟨(a2 i q).1, (a2 i q).2.1⟩, fun a ha => ?_⟩
    · obtain ⟨z1, z2⟩ := (yb_less hv).mp q
      have := a1 i z1
      exact ⟨by omega, this.2.1⟩
    · obtain ⟨i, ⟨z, w⟩ | ⟨z, w⟩⟩ := a3 a ha
      · by_cases e : i = u
        · rw [e] at w; exact Or.inl w
        · exact Or.inr ⟨i, Or.inl ⟨(yb_less hv).mpr ⟨z, e⟩, w⟩⟩
      · exact Or.inr ⟨i, Or.inr ⟨z, w⟩⟩
  · rw [pk_un e, pk_un e]; exact hG u h6 h18
theorem upd_same {f : Nat → Int32} {v : Nat} {x : Int32} (h : x = f v) : upd f v x = f := by
  funext j
  by_cases e : j = v
  · subst e; rw [pk_us, h]
  · rw [pk_un e]
theorem yb_bit {x : Int32} {v i : Nat} (hv : v < 18) : yb (x ||| ((1 : Int32) <<< (nI v &&& 31))) i = true ↔ yb x i = true ∨ i = v := by
  rcases Nat.lt_or_ge i 32 with hi | hi
  · rw [yb_or, yb_one v hv i hi, Bool.or_eq_true_iff, decide_eq_true_iff]
  · rw [yb_big hi, yb_big hi]
    constructor
    · intro q; cases q
    · rintro (q | q)
      · cases q
      · omega
/-- a variable at 0 whose reason is all false goes to 1, all lower ones to 0 -/
theorem yGR_set {G : Nat → Prop} {c v : Nat} {rY rN : Nat → Int32} (hc : c < 262144) (h6 : 6 ≤ v) (hv : v < 18) (hG : yGR G rY rN) (hR : yRI G c rY rN) (hf : ¬ ycl (rY v ||| ((1 : Int32) <<< (nI v &&& 31))) (rN v) c) :
    ∃ c', c' < 262144 ∧ c < c' ∧ (nI c ||| ((1 : Int32) <<< (nI v &&& 31))) &&& (-((1 : Int32) <<< (nI v &&& 31))) = nI c' ∧ (∀ i, i < v → c'.testBit i = false) ∧ yRI G c' rY rN := by
  obtain ⟨g1, g2, g3⟩ := hG v h6 hv
  have hL : yLI G c v (rY v ||| ((1 : Int32) <<< (nI v &&& 31))) (rN v) := by
    refine ⟨fun i q => ?_, fun i q => ?_, fun a ha => ?_⟩
    · have hi : v ≤ i ∧ i < 18 := by
        rcases (yb_bit hv).mp q with z | z
        · have := g1 i z; omega
        · omega
      refine ⟨hi.1, hi.2, ?_⟩
      cases h3 : c.testBit i
      · rfl
      · exact absurd ⟨i, Or.inl ⟨q, h3⟩⟩ hf
    · refine ⟨(g2 i q).1, (g2 i q).2, ?_⟩
      cases h3 : c.testBit i
      · exact absurd ⟨i, Or.inr ⟨q, h3⟩⟩ hf
      · rfl
    · rcases g3 a ha with z | ⟨i, ⟨p, w⟩ | ⟨p, w⟩⟩
      · exact ⟨v, Or.inl ⟨(yb_bit hv).mpr (Or.inr rfl), z⟩⟩
      · exact ⟨i, Or.inl ⟨(yb_bit hv).mpr (Or.inl p), w⟩⟩
      · exact ⟨i, Or.inr ⟨p, w⟩⟩
  obtain ⟨c', z1, z2, z3, z4, z5⟩ := yLI_leap hc hv hL hR ((yb_bit hv).mpr (Or.inr rfl))
  refine ⟨c', z1, z2, z3, z4, ?_⟩
  rw [upd_same (f := rY) (v := v), upd_same (f := rN) (v := v) rfl] at z5
  · exact z5
  · apply yb_ext
    intro i hi
    rw [Bool.eq_iff_iff, yb_less hv, yb_bit hv]
    constructor
    · rintro ⟨z | z, w⟩
      · exact z
      · exact absurd z w
    · intro z
      exact ⟨Or.inl z, by have := (g1 i z).1; omega⟩
/-- the reasons at the start -/
theorem yb_st1 {st v i : Nat} (hv : v < 18) : yb ((nI st ^^^ (-1)) &&& ((1 : Int32) <<< (nI v &&& 31))) i = true ↔ i = v ∧ st.testBit v = false := by
  rcases Nat.lt_or_ge i 32 with hi | hi
  · rw [yb_and, yb_not _ hi, yb_nI st hi, yb_one v hv i hi]
    by_cases e : i = v
    · subst e
      cases st.testBit i <;> simp
    · simp [e]
  · rw [yb_big hi]
    constructor
    · intro q; cases q
    · rintro ⟨q, -⟩; omega
theorem yGR_start {G : Nat → Prop} {st : Nat} {rY rN : Nat → Int32} (hs : st < 262144) (hG : ∀ a, G a → st ≤ a ∧ a < 262144) (h : ∀ v, 6 ≤ v → v < 18 → rY v = (262143 &&& (nI st ^^^ (-1))) &&& ((-2 : Int32) <<< (nI v &&& 31)) ∧ rN v = (nI st ^^^ (-1)) &&& ((1 : Int32) <<< (nI v &&& 31))) : yGR G rY rN := by
  intro v h6 hv
  rw [(h v h6 hv).1, (h v h6 hv).2]
  refine ⟨fun i q => ?_, fun i q => ?_, fun a ha => ?_⟩
  · obtain ⟨b1, b2, b3⟩ := (yb_start hv hs).mp q
    exact ⟨b2, b1⟩
  · have := ((yb_st1 hv).mp q).1
    omega
  · cases hsv : st.testBit v
    · cases hav : a.testBit v
      · exact Or.inr ⟨v, Or.inr ⟨(yb_st1 hv).mpr ⟨rfl, hsv⟩, hav⟩⟩
      · exact Or.inl rfl
    · rcases (yRI_start (rY := fun v => (262143 &&& (nI st ^^^ (-1))) &&& ((-2 : Int32) <<< (nI v &&& 31))) (rN := fun _ => 0) hs hG (fun v _ => ⟨rfl, rfl⟩) v hv hsv).2.2 a ha with q | ⟨i, ⟨q, w⟩ | ⟨q, w⟩⟩
      · exact Or.inl q
      · exact Or.inr ⟨i, Or.inl ⟨q, w⟩⟩
      · rw [yb_0] at q; cases q
theorem yRI_block {G : Nat → Prop} {st : Nat} {rY rN : Nat → Int32} (hs : st < 262144) (hG : ∀ a, G a → st ≤ a ∧ a < 262144) (h : ∀ v, 6 ≤ v → v < 18 → rY v = (262143 &&& (nI st ^^^ (-1))) &&& ((-2 : Int32) <<< (nI v &&& 31)) ∧ rN v = (nI st ^^^ (-1)) &&& ((1 : Int32) <<< (nI v &&& 31))) : yRI G (64 * (st / 64)) rY rN := by
  intro v hv hbv
  have hst : ∀ i, 6 ≤ i → (64 * (st / 64)).testBit i = st.testBit i := fun i hi => by
    have := y_hbit (b := 64 * (st / 64)) (k := st % 64) (by omega) (by omega) hi
    rw [show 64 * (st / 64) + st % 64 = st by omega] at this
    exact this.symm
  have h6 : 6 ≤ v := by
    rcases Nat.lt_or_ge v 6 with q | q
    · rw [y_blow (by omega) q] at hbv; cases hbv
    · exact q
  have hsv : st.testBit v = true := by rw [← hst v h6]; exact hbv
  obtain ⟨g1, g2, g3⟩ := yGR_start hs hG h v h6 hv
  refine ⟨fun i q => ?_, fun i q => ?_, g3⟩
  · rw [(h v h6 hv).1] at q
    obtain ⟨b1, b2, b3⟩ := (yb_start hv hs).mp q
    exact ⟨b2, b1, by rw [hst i (by omega)]; exact b3⟩
  · rw [(h v h6 hv).2] at q
    have := (yb_st1 hv).mp q
    rw [hsv] at this
    cases this.2
theorem y_stblk {st : Nat} (hs : st < 262144) : nI st &&& 262080 = nI (64 * (st / 64)) := by
  apply yb_ext
  intro i hi
  rw [yb_and, yb_nI st hi, yb_nI _ hi, yb_HIGH i hi]
  rcases Nat.lt_or_ge i 6 with q | q
  · rw [y_blow (b := 64 * (st / 64)) (by omega) q, decide_eq_false (by omega), Bool.and_false]
  · have := y_hbit (b := 64 * (st / 64)) (k := st % 64) (by omega) (by omega) q
    rw [show 64 * (st / 64) + st % 64 = st by omega] at this
    rw [← this]
    rcases Nat.lt_or_ge i 18 with z | z
    · rw [decide_eq_true (by omega), Bool.and_true]
    · rw [y_tb hs z]; rfl
/-- the row that bars what lies below the start -/
theorem zb_shl : ∀ m, m < 64 → ∀ k, k < 64 → zb ((-1 : Int64) <<< ((nI m).toInt64 &&& 63)) k = decide (m ≤ k) := by decide +kernel
theorem yb_sr {st i : Nat} : yb (262080 &&& (nI st ^^^ (-1))) i = true ↔ 6 ≤ i ∧ i < 18 ∧ st.testBit i = false := by
  rcases Nat.lt_or_ge i 32 with hi | hi
  · rw [yb_and, yb_HIGH i hi, yb_not _ hi, yb_nI st hi]
    cases st.testBit i <;> simp
  · rw [yb_big hi]
    constructor
    · intro q; cases q
    · rintro ⟨-, q, -⟩; omega
theorem scl_start {st a : Nat} (ha : a < 262144) (hb : st / 64 ≤ a / 64) : scl (262080 &&& (nI st ^^^ (-1))) 0 ((-1 : Int64) <<< ((nI (st % 64)).toInt64 &&& 63)) a ↔ st ≤ a := by
  unfold scl
  rw [zb_shl (st % 64) (by omega) (a % 64) (by omega), decide_eq_true_iff]
  have hbit : ∀ x i : Nat, 6 ≤ i → x.testBit i = (x / 64).testBit (i - 6) := fun x i hi => by
    have := z_highbit (w := x / 64) (k := x % 64) (by omega) hi
    rw [show 64 * (x / 64) + x % 64 = x by omega] at this
    exact this
  constructor
  · rintro (⟨i, ⟨q, w⟩ | ⟨q, -⟩⟩ | h)
    · obtain ⟨z1, z2, z3⟩ := yb_sr.mp q
      rcases Nat.lt_or_ge (st / 64) (a / 64) with y | y
      · omega
      · rw [hbit a i z1, show a / 64 = st / 64 by omega, ← hbit st i z1, z3] at w
        cases w
    · rw [yb_0] at q; cases q
    · omega
  · intro h
    rcases Nat.lt_or_ge (st / 64) (a / 64) with y | y
    · obtain ⟨i, p1, p2, -⟩ := y_hi 12 (st / 64) (a / 64) (by omega) (by omega) y
      have e1 := hbit st (i + 6) (by omega)
      have e2 := hbit a (i + 6) (by omega)
      rw [Nat.add_sub_cancel] at e1 e2
      refine Or.inl ⟨i + 6, Or.inl ⟨yb_sr.mpr ⟨by omega, ?_, by rw [e1]; exact p1⟩, by rw [e2]; exact p2⟩⟩
      rcases Nat.lt_or_ge (i + 6) 18 with z | z
      · exact z
      · rw [y_tb ha z, p2] at e2; cases e2
    · exact Or.inr (by omega)
/-- one row more -/
theorem yRow {f1 f2 : Nat → Int32} {f7 : Nat → Int64} {rows a : Nat} {y n : Int32} {w : Int64} : (∀ j, j < rows + 1 → scl (upd f1 rows y j) (upd f2 rows n j) (vp_updL f7 rows w j) a) ↔ (∀ j, j < rows → scl (f1 j) (f2 j) (f7 j) a) ∧ scl y n w a := by
  constructor
  · intro q
    refine ⟨fun j hj => ?_, ?_⟩
    · have := q j (by omega)
      rw [pk_un (by omega), pk_un (by omega), pk_uLn (by omega)] at this
      exact this
    · have := q rows (by omega)
      rw [pk_us, pk_us, pk_uLs] at this
      exact this
  · rintro ⟨q1, q2⟩ j hj
    by_cases e : j = rows
    · rw [e, pk_us, pk_us, pk_uLs]; exact q2
    · rw [pk_un e, pk_un e, pk_uLn e]; exact q1 j (by omega)
/-- a word of the low literals: those below m -/
def yLw (m : Nat) (y n : Int32) (w : Int64) : Prop := ∀ k, k < 64 → (zb w k = true ↔ ∃ v, v < m ∧ ((yb y v = true ∧ k.testBit v = true) ∨ (yb n v = true ∧ k.testBit v = false)))
theorem yLw_0 {y n : Int32} : yLw 0 y n 0 := fun k _ => by
  rw [zb_0]
  constructor
  · intro q; cases q
  · rintro ⟨v, hv, -⟩; omega
theorem yLw_s {m : Nat} {y n : Int32} {w w1 : Int64} (h : yLw m y n w) (hz : ∀ k, k < 64 → zb w1 k = (zb w k || (yb y m && k.testBit m) || (yb n m && !k.testBit m))) : yLw (m + 1) y n w1 := fun k hk => by
  rw [hz k hk, Bool.or_eq_true_iff, Bool.or_eq_true_iff, Bool.and_eq_true_iff, Bool.and_eq_true_iff, h k hk, Bool.not_eq_true']
  constructor
  · rintro ((⟨v, hv, q⟩ | q) | q)
    · exact ⟨v, by omega, q⟩
    · exact ⟨m, by omega, Or.inl q⟩
    · exact ⟨m, by omega, Or.inr q⟩
  · rintro ⟨v, hv, q⟩
    by_cases e : v = m
    · subst e
      rcases q with q | q
      · exact Or.inl (Or.inr q)
      · exact Or.inr q
    · exact Or.inl (Or.inl ⟨v, by omega, q⟩)
theorem scl_split {y n : Int32} {w : Int64} {a : Nat} (hy : ym y) (hn : ym n) (hw : yLw 6 y n w) : scl (y &&& 262080) (n &&& 262080) w a ↔ ycl y n a := by
  have hh : ∀ (x : Int32) (i : Nat), ym x → (yb (x &&& 262080) i = true ↔ yb x i = true ∧ 6 ≤ i) := by
    intro x i hx
    rcases Nat.lt_or_ge i 32 with q | q
    · rw [yb_and, yb_HIGH i q, Bool.and_eq_true_iff, decide_eq_true_iff]
      exact ⟨fun z => ⟨z.1, z.2.1⟩, fun z => ⟨z.1, z.2, ym_lt hx z.1⟩⟩
    · rw [yb_big q, yb_big q]; simp
  unfold scl
  rw [hw (a % 64) (by omega)]
  constructor
  · rintro (⟨i, ⟨h, q⟩ | ⟨h, q⟩⟩ | ⟨v, hv, ⟨h, q⟩ | ⟨h, q⟩⟩)
    · exact ⟨i, Or.inl ⟨((hh y i hy).mp h).1, q⟩⟩
    · exact ⟨i, Or.inr ⟨((hh n i hn).mp h).1, q⟩⟩
    · exact ⟨v, Or.inl ⟨h, by rw [← y_lbit hv]; exact q⟩⟩
    · exact ⟨v, Or.inr ⟨h, by rw [← y_lbit hv]; exact q⟩⟩
  · rintro ⟨i, ⟨h, q⟩ | ⟨h, q⟩⟩
    · rcases Nat.lt_or_ge i 6 with z | z
      · exact Or.inr ⟨i, z, Or.inl ⟨h, by rw [y_lbit z]; exact q⟩⟩
      · exact Or.inl ⟨i, Or.inl ⟨(hh y i hy).mpr ⟨h, z⟩, q⟩⟩
    · rcases Nat.lt_or_ge i 6 with z | z
      · exact Or.inr ⟨i, z, Or.inr ⟨h, by rw [y_lbit z]; exact q⟩⟩
      · exact Or.inl ⟨i, Or.inr ⟨(hh n i hn).mpr ⟨h, z⟩, q⟩⟩
/-- the least one found: the lowest bit of the first block that has one -/
theorem yL_found {P : Nat → Prop} {st b t : Nat} {x : Int64} {rY rN : Nat → Int32} (hb : b < 262144) (hb0 : b % 64 = 0) (hR : yRI (fun a => st ≤ a ∧ a < 262144 ∧ P a) b rY rN) (hx : ∀ k, k < 64 → (zb x k = true ↔ st ≤ b + k ∧ P (b + k))) (ht : t < 64) (h1 : zb x t = true) (h0 : ∀ j, j < t → zb x j = false) : yL P st (nI (b + t)) := by
  obtain ⟨p1, p2⟩ := (hx t ht).mp h1
  refine Or.inr ⟨b + t, rfl, p1, by omega, p2, fun a g1 g2 g3 => ?_⟩
  have hba := yRI_least hb hR (a := a) ⟨g1, by omega, g3⟩
  have := h0 (a - b) (by omega)
  have h9 := (hx (a - b) (by omega)).mpr (by rw [show b + (a - b) = a by omega]; exact ⟨g1, g3⟩)
  rw [this] at h9
  cases h9
theorem zb_lowest {x : Int64} (h : ¬ x = 0) : ∃ t, t < 64 ∧ zb x t = true ∧ ∀ j, j < t → zb x j = false := by
  obtain ⟨i, hi, h1⟩ := zb_nz.mp h
  induction i using Nat.strongRecOn with
  | ind i ih =>
    by_cases q : ∃ j, j < i ∧ zb x j = true
    · obtain ⟨j, hj, hz⟩ := q
      exact ih j hj (by omega) hz
    · refine ⟨i, hi, h1, fun j hj => ?_⟩
      cases z : zb x j
      · rfl
      · exact absurd ⟨j, hj, z⟩ q
theorem y_dec {v : Nat} (h : 1 ≤ v) : nI v + (-1) = nI (v - 1) := by
  rw [← pk_sub h]; exact (Int32.sub_eq_add_neg _ _).symm
theorem y_shr1 {x : Int32} {v : Nat} (hv : v < 32) : (x >>> (nI v &&& 31)) &&& 1 = 0 ↔ yb x v = false := by
  have e0 : yb (x >>> (nI v &&& 31)) 0 = yb x v := by
    show (x >>> (nI v &&& 31)).toBitVec.getLsbD 0 = _
    rw [Int32.toBitVec_shiftRight]
    show (x.toBitVec.sshiftRight ((nI v &&& 31).toBitVec.smod 32).toNat).getLsbD 0 = _
    rw [zs_l v hv, BitVec.getLsbD_sshiftRight]
    simp [hv]
    rfl
  have e1 : ∀ i, i < 32 → yb 1 i = decide (i = 0) := by decide +kernel
  rw [yb_z]
  constructor
  · intro h
    have := h 0 (by omega)
    rw [yb_and, e0, e1 0 (by omega)] at this
    simpa using this
  · intro h i hi
    rw [yb_and, e1 i hi]
    by_cases e : i = 0
    · rw [e, e0, h]; rfl
    · simp [e]
end YBLOCK
