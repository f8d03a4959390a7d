/-! PURE ROWS of the JDK's trailing zeros and bit count -/
section YBITS
theorem y_low1 {x : Int32} {t : Nat} (h1 : yb x t = true) (h0 : ∀ j, j < t → yb x j = false) : (x ^^^ (-1)) &&& (x - 1) = nI (2 ^ t - 1) := by
  have hX : x.toBitVec.toNat < 2 ^ 32 := x.toBitVec.isLt
  generalize hXe : x.toBitVec.toNat = X at hX
  have hbit : ∀ i, yb x i = X.testBit i := fun i => by rw [← hXe]; rfl
  have hmod : X % 2 ^ (t + 1) = 2 ^ t := by
    apply Nat.eq_of_testBit_eq
    intro i
    rw [Nat.testBit_mod_two_pow, Nat.testBit_two_pow]
    rcases Nat.lt_trichotomy i t with q | q | q
    · rw [← hbit, h0 i q, decide_eq_false (by omega : ¬ t = i)]; simp
    · subst q; rw [← hbit, h1]; simp
    · rw [decide_eq_false (by omega : ¬ i < t + 1), decide_eq_false (by omega : ¬ t = i)]; rfl
  have hpos : 0 < 2 ^ t := Nat.two_pow_pos t
  have hle : 2 ^ t ≤ X := by rw [← hmod]; exact Nat.mod_le _ _
  have hs : (x - 1).toBitVec.toNat = X - 1 := by
    rw [Int32.toBitVec_sub, BitVec.toNat_sub, hXe]
    show (2 ^ 32 - 1 + X) % 2 ^ 32 = X - 1
    omega
  have e1 : X = 2 ^ (t + 1) * (X / 2 ^ (t + 1)) + 2 ^ t := by
    have := Nat.div_add_mod X (2 ^ (t + 1))
    rw [hmod] at this
    exact this.symm
  have hlt : 2 ^ t < 2 ^ (t + 1) := Nat.pow_lt_pow_right (by omega) (by omega)
  have e2 : X - 1 = 2 ^ (t + 1) * (X / 2 ^ (t + 1)) + (2 ^ t - 1) := by
    rw [← Nat.add_sub_assoc hpos, ← e1]
  apply yb_ext
  intro i hi
  have b1 : yb (x - 1) i = (X - 1).testBit i := by rw [← hs]; rfl
  have b2 : X.testBit i = if i < t + 1 then (2 ^ t).testBit i else (X / 2 ^ (t + 1)).testBit (i - (t + 1)) := by
    have := Nat.testBit_two_pow_mul_add (X / 2 ^ (t + 1)) hlt i
    rw [← e1] at this
    exact this
  have b3 : (X - 1).testBit i = if i < t + 1 then (2 ^ t - 1).testBit i else (X / 2 ^ (t + 1)).testBit (i - (t + 1)) := by
    rw [e2]
    exact Nat.testBit_two_pow_mul_add _ (by omega) i
  rw [yb_and, yb_not _ hi, yb_nI _ hi, Nat.testBit_two_pow_sub_one, b1, hbit, b2, b3]
  by_cases q : i < t + 1
  · rw [if_pos q, if_pos q, Nat.testBit_two_pow, Nat.testBit_two_pow_sub_one]
    by_cases z : i = t
    · subst z; simp
    · rw [decide_eq_false (by omega : ¬ t = i), decide_eq_true (by omega : i < t)]; rfl
  · rw [if_neg q, if_neg q, decide_eq_false (by omega : ¬ i < t)]
    cases (X / 2 ^ (t + 1)).testBit (i - (t + 1)) <;> rfl
theorem yb_lo (x : Int64) {i : Nat} (hi : i < 32) : yb x.toInt32 i = zb x i := by
  show x.toInt32.toBitVec.getLsbD i = _
  rw [Int64.toBitVec_toInt32, BitVec.getLsbD_signExtend, decide_eq_true hi, if_pos (by omega)]
  rfl
theorem yb_hi (x : Int64) {i : Nat} (hi : i < 32) : yb (x.toUInt64 >>> ((32 : Int32).toInt64.toUInt64 &&& Int64.toUInt64 63)).toInt64.toInt32 i = zb x (32 + i) := by
  rw [yb_lo _ hi]
  exact zb_ushr 32 (by omega) x i
/-- how many of the first m bits are 1 -/
def cb (X : Nat) : Nat → Nat
  | 0 => 0
  | m + 1 => cb X m + (X.testBit m).toNat
def bq1 (m x : Nat) : Nat := x - ((x / 2) &&& m)
def bq2 (m x : Nat) : Nat := (x &&& m) + ((x / 4) &&& m)
def bq3 (m x : Nat) : Nat := (x + x / 16) &&& m
theorem b_and {h b m c : Nat} (hb : b < 256) (hc : c < 256) : (256 * h + b) &&& (256 * m + c) = 256 * (h &&& m) + (b &&& c) := by
  have hbc : b &&& c < 256 := Nat.lt_of_le_of_lt Nat.and_le_left hb
  apply Nat.eq_of_testBit_eq
  intro i
  rw [Nat.testBit_and]
  have t1 := Nat.testBit_two_pow_mul_add h (b := b) (i := 8) hb i
  have t2 := Nat.testBit_two_pow_mul_add m (b := c) (i := 8) hc i
  have t3 := Nat.testBit_two_pow_mul_add (h &&& m) (b := b &&& c) (i := 8) hbc i
  rw [show (2 : Nat) ^ 8 = 256 from rfl] at t1 t2 t3
  rw [t1, t2, t3]
  by_cases q : i < 8
  · simp only [if_pos q, Nat.testBit_and]
  · simp only [if_neg q, Nat.testBit_and]
theorem bq1_d : ∀ b, b < 256 → ∀ e, e < 2 → (128 * e + b / 2) &&& 85 = (b / 2) &&& 85 ∧ (b / 2) &&& 85 ≤ b := by decide +kernel
theorem bq1_s {h b m : Nat} (hb : b < 256) : bq1 (256 * m + 85) (256 * h + b) = 256 * bq1 m h + bq1 85 b := by
  unfold bq1
  rw [show (256 * h + b) / 2 = 256 * (h / 2) + (128 * (h % 2) + b / 2) by omega, b_and (by omega) (by omega)]
  have hd := bq1_d b hb (h % 2) (by omega)
  rw [hd.1]
  have h2 : (h / 2) &&& m ≤ h := Nat.le_trans Nat.and_le_left (Nat.div_le_self _ _)
  have h3 := hd.2
  generalize (h / 2) &&& m = A at *
  generalize (b / 2) &&& 85 = B at *
  omega
theorem bq2_d : ∀ b, b < 256 → ∀ e, e < 4 → (64 * e + b / 4) &&& 51 = (b / 4) &&& 51 := by decide +kernel
theorem bq2_s {h b m : Nat} (hb : b < 256) : bq2 (256 * m + 51) (256 * h + b) = 256 * bq2 m h + bq2 51 b := by
  unfold bq2
  rw [show (256 * h + b) / 4 = 256 * (h / 4) + (64 * (h % 4) + b / 4) by omega, b_and hb (by omega), b_and (by omega) (by omega), bq2_d b hb (h % 4) (by omega)]
  omega
theorem bq3_d : ∀ b, b < 103 → ∀ e, e < 7 → (b + b / 16 + 16 * e) &&& 15 = (b + b / 16) &&& 15 := by decide +kernel
theorem bq3_s {h b m : Nat} (hb : b < 103) (hh : h % 16 < 7) : bq3 (256 * m + 15) (256 * h + b) = 256 * bq3 m h + bq3 15 b := by
  unfold bq3
  rw [show 256 * h + b + (256 * h + b) / 16 = 256 * (h + h / 16) + (b + b / 16 + 16 * (h % 16)) by omega, b_and (by omega) (by omega), bq3_d b hb (h % 16) hh]
def bM (c : Nat) : Nat → Nat
  | 0 => 0
  | n + 1 => 256 * bM c n + c
def bP (b : Nat) : Nat := bq3 15 (bq2 51 (bq1 85 b))
def bS : Nat → Nat → Nat
  | 0, _ => 0
  | n + 1, X => 256 * bS n (X / 256) + bP (X % 256)
def bC : Nat → Nat → Nat
  | 0, _ => 0
  | n + 1, X => bC n (X / 256) + bP (X % 256)
theorem bq_small : ∀ b, b < 256 → bq1 85 b < 256 ∧ bq2 51 (bq1 85 b) < 103 ∧ bP b = cb b 8 ∧ bP b ≤ 8 := by decide +kernel
theorem bq2_low : ∀ n x, bq2 (bM 51 n) x % 16 < 7 := by
  intro n x
  unfold bq2
  have hm : bM 51 n % 2 ^ 4 ≤ 3 := by
    cases n with
    | zero => decide
    | succ n => show (256 * bM 51 n + 51) % 16 ≤ 3; omega
  have a1 : (x &&& bM 51 n) % 16 ≤ 3 := by
    rw [show (16 : Nat) = 2 ^ 4 from rfl, Nat.and_mod_two_pow]; exact Nat.le_trans Nat.and_le_right hm
  have a2 : ((x / 4) &&& bM 51 n) % 16 ≤ 3 := by
    rw [show (16 : Nat) = 2 ^ 4 from rfl, Nat.and_mod_two_pow]; exact Nat.le_trans Nat.and_le_right hm
  omega
theorem b_all : ∀ n X, X < 256 ^ n → bq3 (bM 15 n) (bq2 (bM 51 n) (bq1 (bM 85 n) X)) = bS n X := by
  intro n
  induction n with
  | zero =>
    intro X h
    have : X = 0 := by simp at h; exact h
    subst this
    decide
  | succ n ih =>
    intro X h
    have hX : X = 256 * (X / 256) + X % 256 := by omega
    have hlt : X / 256 < 256 ^ n := by rw [Nat.pow_succ] at h; omega
    have hq := bq_small (X % 256) (by omega)
    show bq3 (256 * bM 15 n + 15) (bq2 (256 * bM 51 n + 51) (bq1 (256 * bM 85 n + 85) X)) = 256 * bS n (X / 256) + bP (X % 256)
    rw [← ih (X / 256) hlt]
    conv => lhs; rw [hX]
    rw [bq1_s (by omega), bq2_s hq.1, bq3_s hq.2.1 (bq2_low n _)]
    rfl
theorem cb_congr {X Y : Nat} : ∀ m, (∀ i, i < m → X.testBit i = Y.testBit i) → cb X m = cb Y m := by
  intro m
  induction m with
  | zero => intro _; rfl
  | succ m ih =>
    intro h
    show cb X m + _ = cb Y m + _
    rw [ih (fun i hi => h i (by omega)), h m (by omega)]
theorem cb_s {h b : Nat} (hb : b < 256) : ∀ m, cb (256 * h + b) (8 + m) = cb h m + cb b 8 := by
  have t : ∀ i, (256 * h + b).testBit i = if i < 8 then b.testBit i else h.testBit (i - 8) := fun i => Nat.testBit_two_pow_mul_add h (b := b) (i := 8) hb i
  intro m
  induction m with
  | zero => rw [Nat.add_zero, cb_congr 8 (Y := b) (fun i hi => by rw [t i, if_pos hi])]; exact (Nat.zero_add _).symm
  | succ m ih =>
    show cb (256 * h + b) (8 + m) + ((256 * h + b).testBit (8 + m)).toNat = cb h m + (h.testBit m).toNat + cb b 8
    rw [ih, t (8 + m), if_neg (by omega), Nat.add_sub_cancel_left]
    omega
theorem cb_all : ∀ n X, X < 256 ^ n → cb X (8 * n) = bC n X := by
  intro n
  induction n with
  | zero => intro X _; rfl
  | succ n ih =>
    intro X h
    have hlt : X / 256 < 256 ^ n := by rw [Nat.pow_succ] at h; omega
    have := cb_s (h := X / 256) (b := X % 256) (by omega) (8 * n)
    rw [show 256 * (X / 256) + X % 256 = X by omega] at this
    rw [show 8 * (n + 1) = 8 + 8 * n by omega, this, ih _ hlt, ← (bq_small (X % 256) (by omega)).2.2.1]
    rfl
/-- the words' own numbers -/
abbrev zn (x : Int64) : Nat := x.toBitVec.toNat
theorem zu_nat (n : Nat) (hn : n < 64) (x : Int64) : zn (x.toUInt64 >>> ((nI n).toInt64.toUInt64 &&& Int64.toUInt64 63)).toInt64 = zn x / 2 ^ n := by
  show (x.toUInt64 >>> ((nI n).toInt64.toUInt64 &&& Int64.toUInt64 63)).toBitVec.toNat = _
  rw [UInt64.toBitVec_shiftRight]
  show (x.toUInt64.toBitVec >>> (((nI n).toInt64.toUInt64 &&& Int64.toUInt64 63).toBitVec % 64).toNat).toNat = _
  rw [zs_u n hn, BitVec.toNat_ushiftRight, Nat.shiftRight_eq_div_pow]
  rfl
theorem zn_and (x y : Int64) : zn (x &&& y) = zn x &&& zn y := by
  show (x &&& y).toBitVec.toNat = _
  rw [Int64.toBitVec_and, BitVec.toNat_and]
theorem zn_add (x y : Int64) (h : zn x + zn y < 2 ^ 64) : zn (x + y) = zn x + zn y := by
  show (x + y).toBitVec.toNat = _
  rw [Int64.toBitVec_add, BitVec.toNat_add]
  exact Nat.mod_eq_of_lt h
theorem zn_sub (x y : Int64) (h : zn y ≤ zn x) : zn (x - y) = zn x - zn y := by
  have h1 : zn x < 2 ^ 64 := x.toBitVec.isLt
  have h2 : zn y < 2 ^ 64 := y.toBitVec.isLt
  show (x - y).toBitVec.toNat = _
  rw [Int64.toBitVec_sub, BitVec.toNat_sub]
  show (2 ^ 64 - zn y + zn x) % 2 ^ 64 = zn x - zn y
  omega
theorem bS_sum {X : Nat} : ∃ p0 p1 p2 p3 p4 p5 p6 p7 : Nat, p0 ≤ 8 ∧ p1 ≤ 8 ∧ p2 ≤ 8 ∧ p3 ≤ 8 ∧ p4 ≤ 8 ∧ p5 ≤ 8 ∧ p6 ≤ 8 ∧ p7 ≤ 8 ∧ bS 8 X = 256 * (256 * (256 * (256 * (256 * (256 * (256 * p7 + p6) + p5) + p4) + p3) + p2) + p1) + p0 ∧ bC 8 X = p0 + p1 + p2 + p3 + p4 + p5 + p6 + p7 := by
  have hp : ∀ Y : Nat, bP (Y % 256) ≤ 8 := fun Y => (bq_small (Y % 256) (by omega)).2.2.2
  refine ⟨bP (X % 256), bP (X / 256 % 256), bP (X / 256 / 256 % 256), bP (X / 256 / 256 / 256 % 256), bP (X / 256 / 256 / 256 / 256 % 256), bP (X / 256 / 256 / 256 / 256 / 256 % 256), bP (X / 256 / 256 / 256 / 256 / 256 / 256 % 256), bP (X / 256 / 256 / 256 / 256 / 256 / 256 / 256 % 256), hp _, hp _, hp _, hp _, hp _, hp _, hp _, hp _, ?_, ?_⟩
  · simp only [bS, Nat.mul_zero, Nat.zero_add]
  · simp only [bC, Nat.zero_add]
    omega
theorem y_bitCount {x x1 x2 x3 x4 x5 x6 : Int64} (e1 : x1 = x - ((x.toUInt64 >>> ((1 : Int32).toInt64.toUInt64 &&& Int64.toUInt64 63)).toInt64 &&& 6148914691236517205)) (e2 : x2 = (x1 &&& 3689348814741910323) + ((x1.toUInt64 >>> ((2 : Int32).toInt64.toUInt64 &&& Int64.toUInt64 63)).toInt64 &&& 3689348814741910323))
    (e3 : x3 = (x2 + (x2.toUInt64 >>> ((4 : Int32).toInt64.toUInt64 &&& Int64.toUInt64 63)).toInt64) &&& 1085102592571150095) (e4 : x4 = x3 + (x3.toUInt64 >>> ((8 : Int32).toInt64.toUInt64 &&& Int64.toUInt64 63)).toInt64) (e5 : x5 = x4 + (x4.toUInt64 >>> ((16 : Int32).toInt64.toUInt64 &&& Int64.toUInt64 63)).toInt64) (e6 : x6 = x5 + (x5.toUInt64 >>> ((32 : Int32).toInt64.toUInt64 &&& Int64.toUInt64 63)).toInt64) :
    x6.toInt32 &&& 127 = nI (cb (zn x) 64) := by
  have hx : zn x < 256 ^ 8 := x.toBitVec.isLt
  have u1 := zu_nat 1 (by omega) x
  have u2 := zu_nat 2 (by omega) x1
  have u4 := zu_nat 4 (by omega) x2
  have u8 := zu_nat 8 (by omega) x3
  have u16 := zu_nat 16 (by omega) x4
  have u32 := zu_nat 32 (by omega) x5
  have m1 : zn 6148914691236517205 = bM 85 8 := by decide +kernel
  have m2 : zn 3689348814741910323 = bM 51 8 := by decide +kernel
  have m4 : zn 1085102592571150095 = bM 15 8 := by decide +kernel
  have n1 : zn x1 = bq1 (bM 85 8) (zn x) := by
    rw [e1, zn_sub, zn_and, m1]
    · show zn x - (zn _ &&& bM 85 8) = _
      rw [show (1 : Int32) = nI 1 from rfl, u1]; rfl
    · rw [zn_and, show (1 : Int32) = nI 1 from rfl, u1]
      exact Nat.le_trans Nat.and_le_left (Nat.div_le_self _ _)
  have n2 : zn x2 = bq2 (bM 51 8) (zn x1) := by
    have hle : (zn x1 &&& bM 51 8) + ((zn x1 / 4) &&& bM 51 8) < 2 ^ 64 := by
      have a1 : zn x1 &&& bM 51 8 ≤ bM 51 8 := Nat.and_le_right
      have a2 : (zn x1 / 4) &&& bM 51 8 ≤ bM 51 8 := Nat.and_le_right
      have a3 : bM 51 8 = 3689348814741910323 := by decide +kernel
      omega
    rw [e2, zn_add, zn_and, zn_and, m2, show (2 : Int32) = nI 2 from rfl, u2]
    · rfl
    · rw [zn_and, zn_and, m2, show (2 : Int32) = nI 2 from rfl, u2]; exact hle
  have l2 : zn x2 ≤ 2 * 3689348814741910323 := by
    rw [n2]
    have a1 : zn x1 &&& bM 51 8 ≤ bM 51 8 := Nat.and_le_right
    have a2 : (zn x1 / 4) &&& bM 51 8 ≤ bM 51 8 := Nat.and_le_right
    have a3 : bM 51 8 = 3689348814741910323 := by decide +kernel
    show (zn x1 &&& bM 51 8) + ((zn x1 / 4) &&& bM 51 8) ≤ _
    omega
  have n3 : zn x3 = bq3 (bM 15 8) (zn x2) := by
    rw [e3, zn_and, zn_add, m4, show (4 : Int32) = nI 4 from rfl, u4]
    · rfl
    · rw [show (4 : Int32) = nI 4 from rfl, u4]; omega
  rw [n1] at n2
  rw [n2, b_all 8 (zn x) hx] at n3
  have hc := cb_all 8 (zn x) hx
  obtain ⟨p0, p1, p2, p3, p4, p5, p6, p7, q0, q1, q2, q3, q4, q5, q6, q7, hS, hC⟩ := bS_sum (X := zn x)
  rw [hS] at n3
  rw [hC] at hc
  have n4 : zn x4 = zn x3 + zn x3 / 2 ^ 8 := by
    rw [e4, zn_add, show (8 : Int32) = nI 8 from rfl, u8]
    rw [show (8 : Int32) = nI 8 from rfl, u8]; omega
  have v4 : zn x4 = 256 * (256 * (256 * (256 * (256 * (256 * (256 * p7 + (p6 + p7)) + (p5 + p6)) + (p4 + p5)) + (p3 + p4)) + (p2 + p3)) + (p1 + p2)) + (p0 + p1) := by
    rw [n4, n3, show (256 * (256 * (256 * (256 * (256 * (256 * (256 * p7 + p6) + p5) + p4) + p3) + p2) + p1) + p0) / 2 ^ 8 = 256 * (256 * (256 * (256 * (256 * (256 * p7 + p6) + p5) + p4) + p3) + p2) + p1 by omega]
    omega
  have n5 : zn x5 = zn x4 + zn x4 / 2 ^ 16 := by
    rw [e5, zn_add, show (16 : Int32) = nI 16 from rfl, u16]
    rw [show (16 : Int32) = nI 16 from rfl, u16]; omega
  have v5 : zn x5 = 256 * (256 * (256 * (256 * (256 * (256 * (256 * p7 + (p6 + p7)) + (p5 + p6 + p7)) + (p4 + p5 + p6 + p7)) + (p3 + p4 + p5 + p6)) + (p2 + p3 + p4 + p5)) + (p1 + p2 + p3 + p4)) + (p0 + p1 + p2 + p3) := by
    rw [n5, v4, show (256 * (256 * (256 * (256 * (256 * (256 * (256 * p7 + (p6 + p7)) + (p5 + p6)) + (p4 + p5)) + (p3 + p4)) + (p2 + p3)) + (p1 + p2)) + (p0 + p1)) / 2 ^ 16 = 256 * (256 * (256 * (256 * (256 * p7 + (p6 + p7)) + (p5 + p6)) + (p4 + p5)) + (p3 + p4)) + (p2 + p3) by omega]
    omega
  have n6 : zn x6 = zn x5 + zn x5 / 2 ^ 32 := by
    rw [e6, zn_add, show (32 : Int32) = nI 32 from rfl, u32]
    rw [show (32 : Int32) = nI 32 from rfl, u32]; omega
  have v6 : zn x6 % 128 = p0 + p1 + p2 + p3 + p4 + p5 + p6 + p7 := by
    rw [n6, v5, show (256 * (256 * (256 * (256 * (256 * (256 * (256 * p7 + (p6 + p7)) + (p5 + p6 + p7)) + (p4 + p5 + p6 + p7)) + (p3 + p4 + p5 + p6)) + (p2 + p3 + p4 + p5)) + (p1 + p2 + p3 + p4)) + (p0 + p1 + p2 + p3)) / 2 ^ 32 = 256 * (256 * (256 * p7 + (p6 + p7)) + (p5 + p6 + p7)) + (p4 + p5 + p6 + p7) by omega]
    omega
  rw [show (64 : Nat) = 8 * 8 from rfl, hc, ← v6]
  have e127 : ∀ i, i < 32 → yb 127 i = decide (i < 7) := by decide +kernel
  apply yb_ext
  intro i hi
  rw [yb_and, yb_lo _ hi, e127 i hi, yb_nI _ hi, show (128 : Nat) = 2 ^ 7 from rfl, Nat.testBit_mod_two_pow, Bool.and_comm]
  rfl
/-- the paths of Integer.numberOfTrailingZeros, at 2^t - 1 -/
theorem y_ntz0 {t : Nat} (ht : t < 32) (h : ¬ 0 < nI (2 ^ t - 1)) : nI (2 ^ t - 1) &&& 32 = nI t := (by decide +kernel : ∀ t, t < 32 → ¬ 0 < nI (2 ^ t - 1) → nI (2 ^ t - 1) &&& 32 = nI t) t ht h
end YBITS
section YBITS2
theorem y_nblk {c : Nat} (hc : c < 262144) : (nI c &&& (-64)) + 64 = nI (64 * (c / 64) + 64) := by
  have e64 : ∀ i, i < 32 → yb (-64) i = decide (6 ≤ i) := by decide +kernel
  have e : nI c &&& (-64) = nI (64 * (c / 64)) := by
    apply yb_ext
    intro i hi
    rw [yb_and, yb_nI c hi, yb_nI _ hi, e64 i hi]
    rcases Nat.lt_or_ge i 6 with q | q
    · rw [y_blow (b := 64 * (c / 64)) (by omega) q, decide_eq_false (by omega), Bool.and_false]
    · have := y_hbit (b := 64 * (c / 64)) (k := c % 64) (by omega) (by omega) q
      rw [show 64 * (c / 64) + c % 64 = c by omega] at this
      rw [← this, decide_eq_true (by omega), Bool.and_true]
  rw [e]
  exact nI_add _ 64
theorem y_or0 {x y : Int32} (h : x ||| y = 0) : x = 0 ∧ y = 0 := by
  have h := yb_z.mp h
  refine ⟨yb_z.mpr (fun i hi => ?_), yb_z.mpr (fun i hi => ?_)⟩
  · have := h i hi
    rw [yb_or] at this
    cases z : yb x i
    · rfl
    · rw [z] at this; cases this
  · have := h i hi
    rw [yb_or] at this
    cases z : yb y i
    · rfl
    · rw [z, Bool.or_true] at this; cases this
theorem zb_sub0 {x w : Int64} (h : x &&& (w ^^^ (-1)) = 0) {k : Nat} (hk : k < 64) (hx : zb x k = true) : zb w k = true := by
  have := zb_z.mp h k hk
  rw [zb_and, zb_not _ hk, hx] at this
  cases z : zb w k
  · rw [z] at this; cases this
  · rfl
/-- the words of the static table -/
def wO (j : Nat) : Int64 := match j with
  | 0 => -6148914691236517206
  | 1 => -3689348814741910324
  | 2 => -1085102592571150096
  | 3 => -71777214294589696
  | 4 => -281470681808896
  | _ => -4294967296
theorem wO_in : zIn wO := by unfold zIn; decide +kernel
/-- what is known of the class's static table of words -/
def yStat (A : Nat → Prop) (U : State) (H : Heap) : Prop := ∃ tw : Nat, va_Z "ClauseYard$Search" "WHERE_ONE" "[J" (.ref tw) A U H ∧ va_T .long tw 6 (fun j => .long (wO j)) A U H
theorem yStat.moved {A : Nat → Prop} {u U : State} {H : Heap} (hvm : u.vm.Alike U.vm) (h : yStat A u H) : yStat A U H := by
  obtain ⟨tw, h1, h2⟩ := h
  exact ⟨tw, va_Z.moved hvm h1, va_T.moved hvm h2⟩
theorem yStat.kept {A : Nat → Prop} {U : State} {H H1 : Heap} (h : yStat A U H) (hq : ∀ a : Nat, a < H.size → ¬ A a → H1[a]? = H[a]?) : yStat A U H1 := by
  obtain ⟨tw, h1, h2⟩ := h
  exact ⟨tw, h1.kept hq, h2.kept hq⟩
theorem yStat.narrow {A B : Nat → Prop} {U : State} {H : Heap} (h : yStat A U H) (hAB : ∀ q, B q → A q) : yStat B U H := by
  obtain ⟨tw, h1, h2⟩ := h
  exact ⟨tw, h1.narrow hAB, h2.narrow hAB⟩
end YBITS2
