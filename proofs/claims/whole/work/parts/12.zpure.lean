/-! PURE ROWS of the reference: words of 64 assignments -/
section ZPURE
def zb (x : Int64) (k : Nat) : Bool := x.toBitVec.getLsbD k
theorem zb_or (x y : Int64) (i : Nat) : zb (x ||| y) i = (zb x i || zb y i) := by unfold zb; rw [Int64.toBitVec_or, BitVec.getLsbD_or]
theorem zb_and (x y : Int64) (i : Nat) : zb (x &&& y) i = (zb x i && zb y i) := by unfold zb; rw [Int64.toBitVec_and, BitVec.getLsbD_and]
theorem zb_xor (x y : Int64) (i : Nat) : zb (x ^^^ y) i = (zb x i ^^ zb y i) := by unfold zb; rw [Int64.toBitVec_xor, BitVec.getLsbD_xor]
theorem zb_m1 : ∀ i, i < 64 → zb (-1) i = true := by decide +kernel
theorem zb_0 (i : Nat) : zb 0 i = false := BitVec.getLsbD_zero
theorem zb_ext {x y : Int64} (h : ∀ i, i < 64 → zb x i = zb y i) : x = y := Int64.toBitVec_inj.mp (BitVec.eq_of_getLsbD_eq (fun i hi => h i hi))
theorem zb_not (x : Int64) {i : Nat} (h : i < 64) : zb (x ^^^ (-1)) i = !(zb x i) := by
  rw [zb_xor, zb_m1 i h]
  cases zb x i <;> rfl
theorem zb_z {x : Int64} : x = 0 ↔ ∀ i, i < 64 → zb x i = false := by
  constructor
  · intro h i _
    rw [h]; exact zb_0 i
  · intro h
    exact zb_ext (fun i hi => by rw [h i hi, zb_0])
theorem zb_nz {x : Int64} : ¬ x = 0 ↔ ∃ i, i < 64 ∧ zb x i = true := by
  constructor
  · intro h
    refine Classical.byContradiction (fun q => h (zb_z.mpr (fun i hi => ?_)))
    cases z : zb x i
    · rfl
    · exact absurd ⟨i, hi, z⟩ q
  · rintro ⟨i, hi, h⟩ e
    rw [e, zb_0] at h; cases h
theorem zs_u : ∀ n, n < 64 → (((nI n).toInt64.toUInt64 &&& Int64.toUInt64 63).toBitVec % 64).toNat = n := by decide +kernel
theorem zb_ushr (n : Nat) (hn : n < 64) (x : Int64) (i : Nat) : zb ((x.toUInt64 >>> ((nI n).toInt64.toUInt64 &&& Int64.toUInt64 63)).toInt64) i = zb x (n + i) := by
  show (x.toUInt64 >>> ((nI n).toInt64.toUInt64 &&& Int64.toUInt64 63)).toBitVec.getLsbD i = x.toUInt64.toBitVec.getLsbD (n + i)
  rw [UInt64.toBitVec_shiftRight]
  show (x.toUInt64.toBitVec >>> (((nI n).toInt64.toUInt64 &&& Int64.toUInt64 63).toBitVec % 64).toNat).getLsbD i = _
  rw [zs_u n hn, BitVec.getLsbD_ushiftRight]
theorem zb_1 : ∀ i, i < 64 → zb 1 i = decide (i = 0) := by decide +kernel
theorem zb_lo (x : Int64) : x &&& 1 = if zb x 0 = true then 1 else 0 := by
  apply zb_ext
  intro i hi
  rw [zb_and, zb_1 i hi]
  by_cases e : i = 0
  · subst e
    cases h : zb x 0
    · simp [zb_0]
    · simp [zb_1 0 (by omega)]
  · cases h : zb x 0
    · simp [e, zb_0]
    · simp [e, zb_1 i hi]
/-- one bit of a word -/
theorem zb_bit {x : Int64} {k : Nat} (hk : k < 64) : (x.toUInt64 >>> ((nI k).toInt64.toUInt64 &&& Int64.toUInt64 63)).toInt64 &&& 1 = if zb x k = true then 1 else 0 := by
  rw [zb_lo, zb_ushr k hk, Nat.add_zero]
/-- bit v of 64 w + k -/
theorem z_lowbit {w k v : Nat} (hk : k < 64) (hv : v < 6) : (64 * w + k).testBit v = k.testBit v := by
  have := Nat.testBit_two_pow_mul_add w (b := k) (i := 6) (by omega) v
  rw [if_pos hv] at this
  exact this
theorem z_highbit {w k v : Nat} (hk : k < 64) (hv : 6 ≤ v) : (64 * w + k).testBit v = w.testBit (v - 6) := by
  have := Nat.testBit_two_pow_mul_add w (b := k) (i := 6) (by omega) v
  rw [if_neg (by omega)] at this
  exact this
theorem zs_l : ∀ n, n < 32 → ((nI n &&& 31).toBitVec.smod 32).toNat = n := by decide +kernel
theorem z_shr {n j : Nat} (hn : n < 2 ^ 31) (hj : j < 32) : (nI n >>> (nI j &&& 31)) &&& 1 = nI (n / 2 ^ j % 2) := by
  rw [pk_shrN hn _ j (zs_l j hj), pk_andN (m := 1) (Nat.lt_of_le_of_lt (Nat.div_le_self _ _) (by omega)) 1 (by decide)]
theorem z_bit1 {n j : Nat} (hn : n < 2 ^ 31) (hj : j < 32) : (nI n >>> (nI j &&& 31)) &&& 1 = 1 ↔ n.testBit j = true := by
  rw [z_shr hn hj, show (1 : Int32) = nI 1 from rfl, nI_eq (by omega) (by omega), Nat.testBit_eq_decide_div_mod_eq, decide_eq_true_iff]
/-- the constants of the words: bit v of the place in the word -/
def zIn (f : Nat → Int64) : Prop := ∀ v, v < 6 → ∀ k, k < 64 → zb (f v) k = k.testBit v
/-- bit k of x tells of assignment 64 w + k -/
def zW (P : Nat → Prop) (w : Nat) (x : Int64) : Prop := ∀ k, k < 64 → (zb x k = true ↔ P (64 * w + k))
theorem zW_not {P : Nat → Prop} {w : Nat} {x : Int64} (h : zW P w x) : zW (fun a => ¬ P a) w (x ^^^ (-1)) := fun k hk => by
  show zb (x ^^^ (-1)) k = true ↔ ¬ P (64 * w + k)
  rw [zb_not x hk, ← h k hk]
  cases zb x k <;> simp
theorem zW_iff {P P' : Nat → Prop} {w : Nat} {x : Int64} (hp : ∀ k, k < 64 → (P (64 * w + k) ↔ P' (64 * w + k))) (h : zW P w x) : zW P' w x := fun k hk => (h k hk).trans (hp k hk)
theorem zW_or {P P' : Nat → Prop} {w : Nat} {x y : Int64} (h : zW P w x) (h' : zW P' w y) : zW (fun a => P a ∨ P' a) w (x ||| y) := fun k hk => by
  rw [zb_or, Bool.or_eq_true_iff, h k hk, h' k hk]
theorem zW_and {P P' : Nat → Prop} {w : Nat} {x y : Int64} (h : zW P w x) (h' : zW P' w y) : zW (fun a => P a ∧ P' a) w (x &&& y) := fun k hk => by
  rw [zb_and, Bool.and_eq_true_iff, h k hk, h' k hk]
theorem zW_0 {w : Nat} : zW (fun _ => False) w 0 := fun k hk => by rw [zb_0]; simp
theorem zW_m1 {w : Nat} : zW (fun _ => True) w (-1) := fun k hk => by rw [zb_m1 k hk]; simp
theorem zW_z {P : Nat → Prop} {w : Nat} {x : Int64} (h : zW P w x) : x = 0 ↔ ∀ k, k < 64 → ¬ P (64 * w + k) := by
  rw [zb_z]
  constructor
  · intro q k hk z
    rw [← h k hk, q k hk] at z; cases z
  · intro q k hk
    cases z : zb x k
    · rfl
    · exact absurd ((h k hk).mp z) (q k hk)
/-- a literal's word: below 7 the constants, from 7 on all or none -/
theorem zW_low {f : Nat → Int64} (hf : zIn f) {v w : Nat} (hv : v < 6) : zW (fun a => a.testBit v = true) w (f v) := fun k hk => by
  show zb (f v) k = true ↔ (64 * w + k).testBit v = true
  rw [hf v hv k hk, z_lowbit hk hv]
theorem zW_hi1 {v w : Nat} (hv : 6 ≤ v) (h : w.testBit (v - 6) = true) : zW (fun a => a.testBit v = true) w (-1) := fun k hk => by
  show zb (-1) k = true ↔ (64 * w + k).testBit v = true
  rw [zb_m1 k hk, z_highbit hk hv, h]
theorem zW_hi0 {v w : Nat} (hv : 6 ≤ v) (h : ¬ w.testBit (v - 6) = true) : zW (fun a => a.testBit v = true) w 0 := fun k hk => by
  show zb 0 k = true ↔ (64 * w + k).testBit v = true
  rw [zb_0, z_highbit hk hv]
  constructor
  · intro q; cases q
  · intro q; exact absurd q h
theorem zW_p {v w : Nat} {x : Int64} (hv : v < 18) (h : zW (fun a => a.testBit v = true) w x) : zW (ycl (yYes (nI (v + 1))) (yNo (nI (v + 1)))) w x := zW_iff (fun k _ => (yLit_p hv).symm) h
theorem zW_n {v w : Nat} {x : Int64} (hv : v < 18) (h : zW (fun a => a.testBit v = true) w x) : zW (ycl (yYes (-nI (v + 1))) (yNo (-nI (v + 1)))) w (x ^^^ (-1)) := zW_iff (fun k _ => by
  rw [yLit_n hv]
  cases (64 * w + k).testBit v <;> simp) (zW_not h)
/-- the literal x is true in a -/
abbrev yT (x : Int32) (a : Nat) : Prop := ycl (yYes x) (yNo x) a
/-- the reference's clause c: sz literals of the list f from place 18 c on -/
def zC (f : Nat → Int32) (c sz : Nat) (a : Nat) : Prop := ∃ j, j < sz ∧ yT (f (18 * c + j)) a
/-- what a word of the reference tells: clauses by g, assumptions by f, but for one -/
def zP (f : Nat → Int32) (g : Nat → Int64) (an : Nat) (but : Int32) (a : Nat) : Prop := zb (g (a / 64)) (a % 64) = true ∧ ∀ j, j < an → ¬ nI j = but → yT (f j) a
theorem z_div {w k : Nat} (hk : k < 64) : (64 * w + k) / 64 = w ∧ (64 * w + k) % 64 = k := by omega
end ZPURE
