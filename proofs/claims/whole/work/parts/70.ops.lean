/-! WHAT THE TWO SIDES SHARE, and that each call keeps it (no machine here) -/
section YZ
/-- the yard (f1 f2: clauses as masks, f3: clauses below a level, f4: assumptions) and the reference (g1 tape, g2 g3 clauses, g4 their levels, g5 assumptions, g6 words, g7 constants) at the same numbers -/
def yzI (f1 f2 : Nat → Int32) (f7 : Nat → Int64) (f3 f4 g1 g2 g3 g4 g5 : Nat → Int32) (g6 g7 : Nat → Int64) (cc lv ac tc : Nat) (ty tn md : Int32) : Prop :=
  (cc ≤ 400 ∧ lv ≤ 40 ∧ ac ≤ 18 ∧ tc ≤ 18) ∧ (ym ty ∧ ym tn ∧ (∀ j, j < tc → yLit (g1 j)) ∧ ∀ a, ycl ty tn a ↔ ∃ j, j < tc ∧ yT (g1 j) a) ∧
  (∀ j, j < cc → yh (f1 j) ∧ yh (f2 j)) ∧ (∀ j, j < ac → yLit (g5 j) ∧ f4 j = g5 j) ∧ (md = -1 ∨ ∃ c0, c0 < 262144 ∧ md = nI c0) ∧ zIn g7 ∧
  ∃ zs le bl : Nat → Nat, (∀ c, c < cc → g3 c = nI (zs c) ∧ zs c ≤ 18) ∧ (∀ c, c < cc → ∀ j, j < zs c → yLit (g2 (18 * c + j))) ∧
    (∀ c, c < cc → ∀ a, scl (f1 c) (f2 c) (f7 c) a ↔ zC g2 c (zs c) a) ∧ (∀ w, w < 4096 → zW (fun a => ∀ c, c < cc → zC g2 c (zs c) a) w (g6 w)) ∧
    (∀ c, c < cc → g4 c = nI (le c) ∧ le c ≤ lv) ∧ ∀ i, 1 ≤ i → i ≤ lv → f3 i = nI (bl i) ∧ bl i ≤ cc ∧ ∀ c, c < cc → (i ≤ le c ↔ bl i ≤ c)
def yzJ (f1 f2 : Nat → Int32) (f7 : Nat → Int64) (f3 f4 g1 g2 g3 g4 g5 : Nat → Int32) (g6 g7 : Nat → Int64) (cc lv ac tc : Nat) (ty tn md : Int32) (ts cn lz an : Nat) (mz : Int32) : Prop :=
  ts = tc ∧ cn = cc ∧ lz = lv ∧ an = ac ∧ mz = md ∧ yzI f1 f2 f7 f3 f4 g1 g2 g3 g4 g5 g6 g7 cc lv ac tc ty tn md
variable {f1 f2 f3 f4 g1 g2 g3 g4 g5 : Nat → Int32} {f7 g6 g7 : Nat → Int64} {cc lv ac tc : Nat} {ty tn md : Int32}
theorem yzI.J (h : yzI f1 f2 f7 f3 f4 g1 g2 g3 g4 g5 g6 g7 cc lv ac tc ty tn md) : yzJ f1 f2 f7 f3 f4 g1 g2 g3 g4 g5 g6 g7 cc lv ac tc ty tn md tc cc lv ac md := ⟨rfl, rfl, rfl, rfl, rfl, h⟩
theorem yzI.same {d1 d2 : Nat → Int32} {d7 : Nat → Int64} (h : yzI f1 f2 f7 f3 f4 g1 g2 g3 g4 g5 g6 g7 cc lv ac tc ty tn md) (hd : ∀ j, j < cc → d1 j = f1 j ∧ d2 j = f2 j ∧ d7 j = f7 j) : yzI d1 d2 d7 f3 f4 g1 g2 g3 g4 g5 g6 g7 cc lv ac tc ty tn md := by
  obtain ⟨h1, h2, h3, h4, h5, h6, zs, le, bl, k1, k2, k3, k4, k5, k6⟩ := h
  refine ⟨h1, h2, fun j hj => by rw [(hd j hj).1, (hd j hj).2.1]; exact h3 j hj, h4, h5, h6, zs, le, bl, k1, k2, fun c hc a => by rw [(hd c hc).1, (hd c hc).2.1, (hd c hc).2.2]; exact k3 c hc a, k4, k5, k6⟩
theorem yzI.mod {md' : Int32} (h : yzI f1 f2 f7 f3 f4 g1 g2 g3 g4 g5 g6 g7 cc lv ac tc ty tn md) (hm : md' = -1 ∨ ∃ c0, c0 < 262144 ∧ md' = nI c0) : yzI f1 f2 f7 f3 f4 g1 g2 g3 g4 g5 g6 g7 cc lv ac tc ty tn md' :=
  ⟨h.1, h.2.1, h.2.2.1, h.2.2.2.1, hm, h.2.2.2.2.2⟩
theorem yL_md {P : Nat → Prop} {st : Nat} {r : Int32} (h : yL P st r) : r = -1 ∨ ∃ c0, c0 < 262144 ∧ r = nI c0 := by
  rcases h with ⟨h, -⟩ | ⟨c, h1, -, h2, -⟩
  · exact Or.inl h
  · exact Or.inr ⟨c, h2, h1⟩
/-- good for the yard, good for the reference, one assumption left out or none -/
theorem yzI.toP (h : yzI f1 f2 f7 f3 f4 g1 g2 g3 g4 g5 g6 g7 cc lv ac tc ty tn md) {a : Nat} (ha : a < 262144) (bt : Int32) : ((∀ j, j < cc → scl (f1 j) (f2 j) (f7 j) a) ∧ ∀ j, j < ac → ¬ nI j = bt → yT (f4 j) a) ↔ zP g5 g6 ac bt a := by
  obtain ⟨h1, h2, h3, h4, h5, h6, zs, le, bl, k1, k2, k3, k4, k5, k6⟩ := h
  have e : 64 * (a / 64) + a % 64 = a := by omega
  have hg := k4 (a / 64) (by omega) (a % 64) (by omega)
  rw [e] at hg
  refine and_congr ?_ ?_
  · rw [hg]
    exact ⟨fun q c hc => (k3 c hc a).mp (q c hc), fun q c hc => (k3 c hc a).mpr (q c hc)⟩
  · exact ⟨fun q j hj hn => by rw [← (h4 j hj).2]; exact q j hj hn, fun q j hj hn => by rw [(h4 j hj).2]; exact q j hj hn⟩
theorem yzI.good (h : yzI f1 f2 f7 f3 f4 g1 g2 g3 g4 g5 g6 g7 cc lv ac tc ty tn md) {a : Nat} (ha : a < 262144) : yGood f1 f2 f7 f4 cc ac a ↔ zP g5 g6 ac (-1) a := by
  have hac := h.1.2.2.1
  rw [← h.toP ha (-1)]
  exact ⟨fun q => ⟨q.1, fun j hj _ => q.2 j hj⟩, fun q => ⟨q.1, fun j hj => q.2 j hj (y_m1 (by omega))⟩⟩
end YZ
section YZOPS
variable {f1 f2 f3 f4 g1 g2 g3 g4 g5 : Nat → Int32} {f7 g6 g7 : Nat → Int64} {cc lv ac tc : Nat} {ty tn md : Int32} {p0 k b th' : Int32} {o o' : Nat → Int64}
theorem op_put {tc' ts' : Nat} {ty' tn' : Int32} {g1' : Nat → Int32} (hI : yzI f1 f2 f7 f3 f4 g1 g2 g3 g4 g5 g6 g7 cc lv ac tc ty tn md)
    (h1 : (k = 0 ∧ yLit p0 ∧ tc < 18 ∧ (tc', ty', tn', o') = (tc + 1, ty ||| yYes p0, tn ||| yNo p0, vp_updL o 0 (nI (tc + 1)).toInt64)) ∨ (k = 1 ∧ ¬ yLit p0 ∧ (tc', ty', tn', o') = (tc, ty, tn, o)) ∨ (k = 2 ∧ yLit p0 ∧ 18 ≤ tc ∧ (tc', ty', tn', o') = (tc, ty, tn, o)))
    (h2 : (¬ yLit p0 ∧ (th', ts', g1') = (1, tc, g1)) ∨ (yLit p0 ∧ tc = 18 ∧ (th', ts', g1') = (2, tc, g1)) ∨ (yLit p0 ∧ tc < 18 ∧ b = nI (tc + 1) ∧ (th', ts', g1') = (0, tc + 1, upd g1 tc p0))) :
    th' = k ∧ (k = 0 → o' 0 = b.toInt64) ∧ yzJ f1 f2 f7 f3 f4 g1' g2 g3 g4 g5 g6 g7 cc lv ac tc' ty' tn' md ts' cc lv ac md := by
  rcases h1 with ⟨rfl, a1, a2, e⟩ | ⟨rfl, a1, e⟩ | ⟨rfl, a1, a2, e⟩ <;> cases e
  · rcases h2 with ⟨b1, e⟩ | ⟨b1, b2, e⟩ | ⟨b1, b2, rfl, e⟩ <;> cases e
    · exact absurd a1 b1
    · omega
    · refine ⟨rfl, fun _ => pk_uLs, rfl, rfl, rfl, rfl, rfl, ?_⟩
      obtain ⟨q1, ⟨t1, t2, t3, t4⟩, q3⟩ := hI
      refine ⟨⟨q1.1, q1.2.1, q1.2.2.1, by omega⟩, ⟨ym_or t1 (yLit_m a1).1, ym_or t2 (yLit_m a1).2, fun j hj => ?_, fun a => ?_⟩, q3⟩
      · by_cases e : j = tc
        · rw [e, pk_us]; exact a1
        · rw [pk_un e]; exact t3 j (by omega)
      · rw [ycl_or, t4 a]
        constructor
        · rintro (⟨j, h1, h2⟩ | h)
          · exact ⟨j, by omega, by rw [pk_un (by omega)]; exact h2⟩
          · exact ⟨tc, by omega, by rw [pk_us]; exact h⟩
        · rintro ⟨j, h1, h2⟩
          by_cases e : j = tc
          · rw [e, pk_us] at h2; exact Or.inr h2
          · rw [pk_un e] at h2; exact Or.inl ⟨j, by omega, h2⟩
  · rcases h2 with ⟨b1, e⟩ | ⟨b1, b2, e⟩ | ⟨b1, b2, rfl, e⟩ <;> cases e
    · exact ⟨rfl, fun q => absurd q (by decide), hI.J⟩
    · exact absurd b1 a1
    · exact absurd b1 a1
  · rcases h2 with ⟨b1, e⟩ | ⟨b1, b2, e⟩ | ⟨b1, b2, rfl, e⟩ <;> cases e
    · exact absurd a1 b1
    · exact ⟨rfl, fun q => absurd q (by decide), hI.J⟩
    · omega
theorem op_assume {ac' an' : Nat} {md' mz' : Int32} {f4' g5' : Nat → Int32} (hI : yzI f1 f2 f7 f3 f4 g1 g2 g3 g4 g5 g6 g7 cc lv ac tc ty tn md)
    (h1 : (k = 0 ∧ yLit p0 ∧ ac < 18 ∧ (ac', f4', md', o') = (ac + 1, upd f4 ac p0, -1, vp_updL o 0 (nI (ac + 1)).toInt64)) ∨ (k = 1 ∧ ¬ yLit p0 ∧ (ac', f4', md', o') = (ac, f4, md, o)) ∨ (k = 2 ∧ yLit p0 ∧ 18 ≤ ac ∧ (ac', f4', md', o') = (ac, f4, md, o)))
    (h2 : (¬ yLit p0 ∧ (th', an', g5', mz') = (1, ac, g5, md)) ∨ (yLit p0 ∧ ac = 18 ∧ (th', an', g5', mz') = (2, ac, g5, md)) ∨ (yLit p0 ∧ ac < 18 ∧ b = nI (ac + 1) ∧ (th', an', g5', mz') = (0, ac + 1, upd g5 ac p0, -1))) :
    th' = k ∧ (k = 0 → o' 0 = b.toInt64) ∧ yzJ f1 f2 f7 f3 f4' g1 g2 g3 g4 g5' g6 g7 cc lv ac' tc ty tn md' tc cc lv an' mz' := by
  rcases h1 with ⟨rfl, a1, a2, e⟩ | ⟨rfl, a1, e⟩ | ⟨rfl, a1, a2, e⟩ <;> cases e
  · rcases h2 with ⟨b1, e⟩ | ⟨b1, b2, e⟩ | ⟨b1, b2, rfl, e⟩ <;> cases e
    · exact absurd a1 b1
    · omega
    · refine ⟨rfl, fun _ => pk_uLs, rfl, rfl, rfl, rfl, rfl, ?_⟩
      obtain ⟨q1, q2, q3, q4, q5, q6⟩ := hI
      refine ⟨⟨q1.1, q1.2.1, by omega, q1.2.2.2⟩, q2, q3, fun j hj => ?_, Or.inl rfl, q6⟩
      by_cases e : j = ac
      · rw [e, pk_us, pk_us]; exact ⟨a1, rfl⟩
      · rw [pk_un e, pk_un e]; exact q4 j (by omega)
  · rcases h2 with ⟨b1, e⟩ | ⟨b1, b2, e⟩ | ⟨b1, b2, rfl, e⟩ <;> cases e
    · exact ⟨rfl, fun q => absurd q (by decide), hI.J⟩
    · exact absurd b1 a1
    · exact absurd b1 a1
  · rcases h2 with ⟨b1, e⟩ | ⟨b1, b2, e⟩ | ⟨b1, b2, rfl, e⟩ <;> cases e
    · exact absurd a1 b1
    · exact ⟨rfl, fun q => absurd q (by decide), hI.J⟩
    · omega
theorem op_add {cc' tc' cn' ts' : Nat} {ty' tn' md' mz' : Int32} {f1' f2' g2' g3' g4' : Nat → Int32} {f7' g6' : Nat → Int64} (hI : yzI f1 f2 f7 f3 f4 g1 g2 g3 g4 g5 g6 g7 cc lv ac tc ty tn md)
    (h1 : (k = 0 ∧ cc < 400 ∧ ∃ w, yLw 6 ty tn w ∧ (cc', tc', ty', tn', md', f1', f2', f7', o') = (cc + 1, 0, 0, 0, -1, upd f1 cc (ty &&& 262080), upd f2 cc (tn &&& 262080), vp_updL f7 cc w, vp_updL o 0 (nI (cc + 1)).toInt64)) ∨ (k = 1 ∧ 400 ≤ cc ∧ (cc', tc', ty', tn', md', f1', f2', f7', o') = (cc, tc, ty, tn, md, f1, f2, f7, o)))
    (h2 : (cc = 400 ∧ (th', cn', ts', g2', g3', g4', g6', mz') = (1, cc, tc, g2, g3, g4, g6, md)) ∨ (cc < 400 ∧ b = nI (cc + 1) ∧ ∃ j2 j6, (th', cn', ts', g2', g3', g4', g6', mz') = (0, cc + 1, 0, j2, upd g3 cc (nI tc), upd g4 cc (nI lv), j6, -1) ∧ (∀ i, i < 18 * cc → j2 i = g2 i) ∧ (∀ j, j < tc → j2 (18 * cc + j) = g1 j) ∧ ∀ w, w < 4096 → zW (fun a => zb (g6 w) (a % 64) = true ∧ zC j2 cc tc a) w (j6 w))) :
    th' = k ∧ (k = 0 → o' 0 = b.toInt64) ∧ yzJ f1' f2' f7' f3 f4 g1 g2' g3' g4' g5 g6' g7 cc' lv ac tc' ty' tn' md' ts' cn' lv ac mz' := by
  rcases h1 with ⟨rfl, a1, w0, hwL, e⟩ | ⟨rfl, a1, e⟩ <;> cases e
  · rcases h2 with ⟨b1, e⟩ | ⟨b1, rfl, j2, j6, e, c1, c2, c3⟩ <;> cases e
    · omega
    · refine ⟨rfl, fun _ => pk_uLs, rfl, rfl, rfl, rfl, rfl, ?_⟩
      obtain ⟨q1, ⟨t1, t2, t3, t4⟩, q3, q4, q5, q6, zs, le, bl, k1, k2, k3, k4, k5, k6⟩ := hI
      have hu : ∀ {F : Nat → Nat} {x c : Nat}, c ≠ cc → va_up F cc x c = F c := fun h => if_neg h
      have hv : ∀ {F : Nat → Nat} {x : Nat}, va_up F cc x cc = x := if_pos rfl
      have hC : ∀ c, c < cc → ∀ a, zC g2' c (zs c) a ↔ zC g2 c (zs c) a := by
        intro c hc a
        have hz := (k1 c hc).2
        constructor
        · rintro ⟨j, h1, h2⟩
          exact ⟨j, h1, by rw [← c1 (18 * c + j) (by omega)]; exact h2⟩
        · rintro ⟨j, h1, h2⟩
          exact ⟨j, h1, by rw [c1 (18 * c + j) (by omega)]; exact h2⟩
      have hN : ∀ a, ycl ty tn a ↔ zC g2' cc tc a := by
        intro a
        rw [t4 a]
        exact ⟨fun ⟨j, h1, h2⟩ => ⟨j, h1, by rw [c2 j h1]; exact h2⟩, fun ⟨j, h1, h2⟩ => ⟨j, h1, by rw [← c2 j h1]; exact h2⟩⟩
      refine ⟨⟨by omega, q1.2.1, q1.2.2.1, by omega⟩, ⟨ym_0, ym_0, fun j hj => absurd hj (Nat.not_lt_zero j), fun a => ⟨fun q => absurd q ycl_0, fun ⟨j, hj, _⟩ => absurd hj (Nat.not_lt_zero j)⟩⟩, fun j hj => ?_, q4, Or.inl rfl, q6, va_up zs cc tc, va_up le cc lv, bl, fun c hc => ?_, fun c hc j hj => ?_, fun c hc a => ?_, fun w hw => ?_, fun c hc => ?_, fun i h1 h2 => ?_⟩
      · by_cases e : j = cc
        · rw [e, pk_us, pk_us]; exact ⟨yh_and _, yh_and _⟩
        · rw [pk_un e, pk_un e]; exact q3 j (by omega)
      · by_cases e : c = cc
        · rw [e, pk_us, hv]; exact ⟨rfl, q1.2.2.2⟩
        · rw [pk_un e, hu e]; exact k1 c (by omega)
      · by_cases e : c = cc
        · rw [e, hv] at hj; rw [e, c2 j hj]; exact t3 j hj
        · rw [hu e] at hj
          have hz := (k1 c (by omega)).2
          rw [c1 (18 * c + j) (by omega)]
          exact k2 c (by omega) j hj
      · by_cases e : c = cc
        · rw [e, pk_us, pk_us, pk_uLs, hv, scl_split t1 t2 hwL]; exact hN a
        · rw [pk_un e, pk_un e, pk_uLn e, hu e, hC c (by omega) a]; exact k3 c (by omega) a
      · refine zW_iff (fun k9 hk9 => ?_) (c3 w hw)
        have hz := k4 w hw k9 hk9
        rw [(z_div hk9).2]
        constructor
        · rintro ⟨h1, h2⟩ c hc
          by_cases e : c = cc
          · rw [e, hv]; exact h2
          · rw [hu e]; exact (hC c (by omega) _).mpr (hz.mp h1 c (by omega))
        · intro q
          refine ⟨hz.mpr (fun c hc => ?_), ?_⟩
          · have := q c (by omega)
            rw [hu (by omega)] at this
            exact (hC c hc _).mp this
          · have := q cc (by omega)
            rw [hv] at this
            exact this
      · by_cases e : c = cc
        · rw [e, pk_us, hv]; exact ⟨rfl, Nat.le_refl _⟩
        · rw [pk_un e, hu e]; exact k5 c (by omega)
      · obtain ⟨m1, m2, m3⟩ := k6 i h1 h2
        refine ⟨m1, by omega, fun c hc => ?_⟩
        by_cases e : c = cc
        · rw [e, hv]; exact ⟨fun _ => m2, fun _ => h2⟩
        · rw [hu e]; exact m3 c (by omega)
  · rcases h2 with ⟨b1, e⟩ | ⟨b1, rfl, j2, j6, e, c1, c2, c3⟩ <;> cases e
    · exact ⟨rfl, fun q => absurd q (by decide), hI.J⟩
    · omega
theorem op_open {lv' lz' : Nat} {md' mz' : Int32} {f3' : Nat → Int32} (hI : yzI f1 f2 f7 f3 f4 g1 g2 g3 g4 g5 g6 g7 cc lv ac tc ty tn md)
    (h1 : (k = 0 ∧ lv < 40 ∧ (lv', f3', md', o') = (lv + 1, upd f3 (lv + 1) (nI cc), -1, vp_updL o 0 (nI (lv + 1)).toInt64)) ∨ (k = 1 ∧ 40 ≤ lv ∧ (lv', f3', md', o') = (lv, f3, md, o)))
    (h2 : (lv = 40 ∧ (th', lz', mz') = (1, lv, md)) ∨ (lv < 40 ∧ b = nI (lv + 1) ∧ (th', lz', mz') = (0, lv + 1, -1))) :
    th' = k ∧ (k = 0 → o' 0 = b.toInt64) ∧ yzJ f1 f2 f7 f3' f4 g1 g2 g3 g4 g5 g6 g7 cc lv' ac tc ty tn md' tc cc lz' ac mz' := by
  rcases h1 with ⟨rfl, a1, e⟩ | ⟨rfl, a1, e⟩ <;> cases e
  · rcases h2 with ⟨b1, e⟩ | ⟨b1, rfl, e⟩ <;> cases e
    · omega
    · refine ⟨rfl, fun _ => pk_uLs, rfl, rfl, rfl, rfl, rfl, ?_⟩
      obtain ⟨q1, q2, q3, q4, q5, q6, zs, le, bl, k1, k2, k3, k4, k5, k6⟩ := hI
      refine ⟨⟨q1.1, by omega, q1.2.2⟩, q2, q3, q4, Or.inl rfl, q6, zs, le, va_up bl (lv + 1) cc, k1, k2, k3, k4, fun c hc => ⟨(k5 c hc).1, by have := (k5 c hc).2; omega⟩, fun i h1 h2 => ?_⟩
      by_cases e : i = lv + 1
      · rw [e, pk_us, show va_up bl (lv + 1) cc (lv + 1) = cc from if_pos rfl]
        exact ⟨rfl, Nat.le_refl _, fun c hc => ⟨fun q => by have := (k5 c hc).2; omega, fun q => by omega⟩⟩
      · rw [pk_un e, show va_up bl (lv + 1) cc i = bl i from if_neg e]
        exact k6 i h1 (by omega)
  · rcases h2 with ⟨b1, e⟩ | ⟨b1, rfl, e⟩ <;> cases e
    · exact ⟨rfl, fun q => absurd q (by decide), hI.J⟩
    · omega
theorem op_close {c2 cc' lv' cn' lz' : Nat} {md' mz' : Int32} {g6' : Nat → Int64} {zs le bl : Nat → Nat} (hI : yzI f1 f2 f7 f3 f4 g1 g2 g3 g4 g5 g6 g7 cc lv ac tc ty tn md)
    (k1 : ∀ c, c < cc → g3 c = nI (zs c) ∧ zs c ≤ 18) (k2 : ∀ c, c < cc → ∀ j, j < zs c → yLit (g2 (18 * c + j))) (k3 : ∀ c, c < cc → ∀ a, scl (f1 c) (f2 c) (f7 c) a ↔ zC g2 c (zs c) a) (k5 : ∀ c, c < cc → g4 c = nI (le c) ∧ le c ≤ lv)
    (k6 : ∀ i, 1 ≤ i → i ≤ lv → f3 i = nI (bl i) ∧ bl i ≤ cc ∧ ∀ c, c < cc → (i ≤ le c ↔ bl i ≤ c)) (hc2 : c2 = bl lv)
    (h1 : (k = 0 ∧ 0 < lv ∧ (cc', lv', md', o') = (c2, lv - 1, -1, vp_updL o 0 (nI cc - nI c2).toInt64)) ∨ (k = 1 ∧ lv = 0 ∧ (cc', lv', md', o') = (cc, lv, md, o)))
    (h2 : (lv = 0 ∧ (th', cn', lz', g6', mz') = (1, cc, lv, g6, md)) ∨ (0 < lv ∧ ∃ j2 j6, j2 ≤ cc ∧ b = nI (cc - j2) ∧ (th', cn', lz', g6', mz') = (0, j2, lv - 1, j6, -1) ∧ (∀ i, j2 ≤ i → i < cc → g4 i = nI lv) ∧ (j2 = 0 ∨ ¬ g4 (j2 - 1) = nI lv) ∧ ∀ w, w < 4096 → zW (fun a => ∀ c, c < j2 → zC g2 c (zs c) a) w (j6 w))) :
    th' = k ∧ (k = 0 → o' 0 = b.toInt64) ∧ yzJ f1 f2 f7 f3 f4 g1 g2 g3 g4 g5 g6' g7 cc' lv' ac tc ty tn md' tc cn' lz' ac mz' := by
  rcases h1 with ⟨rfl, a1, e⟩ | ⟨rfl, a1, e⟩ <;> cases e
  · rcases h2 with ⟨b1, e⟩ | ⟨b1, j2, j6, b2, rfl, e, d1, d2, d3⟩ <;> cases e
    · omega
    · obtain ⟨q1, q2, q3, q4, q5, q6, -⟩ := hI
      obtain ⟨m1, m2, m3⟩ := k6 lv (by omega) (Nat.le_refl _)
      have hj : cn' = bl lv := by
        have u1 : bl lv ≤ cn' := by
          rcases Nat.lt_or_ge cn' cc with z | z
          · refine (m3 cn' z).mp ?_
            have w1 := d1 cn' (Nat.le_refl _) z
            rw [(k5 cn' z).1, nI_eq (by have := (k5 cn' z).2; omega) (by omega)] at w1
            omega
          · omega
        have u2 : cn' ≤ bl lv := by
          rcases d2 with z | z
          · omega
          · rcases Nat.lt_or_ge (bl lv) cn' with y | y
            · exfalso
              have w2 : lv ≤ le (cn' - 1) := (m3 (cn' - 1) (by omega)).mpr (by omega)
              have w3 := (k5 (cn' - 1) (by omega)).2
              exact z (by rw [(k5 (cn' - 1) (by omega)).1, show le (cn' - 1) = lv by omega])
            · exact y
        omega
      subst hc2
      subst hj
      refine ⟨rfl, fun _ => by rw [pk_uLs, show nI cc - nI (bl lv) = nI (cc - bl lv) from pk_sub m2], rfl, rfl, rfl, rfl, rfl, ?_⟩
      refine ⟨⟨by omega, by omega, q1.2.2⟩, q2, fun j hj => q3 j (by omega), q4, Or.inl rfl, q6, zs, le, bl, fun c hc => k1 c (by omega), fun c hc => k2 c (by omega), fun c hc => k3 c (by omega), d3, fun c hc => ⟨(k5 c (by omega)).1, ?_⟩, fun i h1 h2 => ?_⟩
      · rcases Nat.lt_or_ge (lv - 1) (le c) with y | y
        · exact absurd ((m3 c (by omega)).mp (by omega)) (by omega)
        · exact y
      · obtain ⟨w1, w2, w3⟩ := k6 i h1 (by omega)
        refine ⟨w1, ?_, fun c hc => w3 c (by omega)⟩
        rcases Nat.lt_or_ge (bl lv) cc with y | y
        · exact (w3 (bl lv) y).mp (by have := (m3 (bl lv) y).mpr (Nat.le_refl _); omega)
        · omega
  · rcases h2 with ⟨b1, e⟩ | ⟨b1, j2, j6, b2, rfl, e, d1, d2, d3⟩ <;> cases e
    · exact ⟨rfl, fun q => absurd q (by decide), hI.J⟩
    · omega
theorem op_least {r : Int32} (hI : yzI f1 f2 f7 f3 f4 g1 g2 g3 g4 g5 g6 g7 cc lv ac tc ty tn md) {d1 d2 : Nat → Int32} {d7 : Nat → Int64} (hd : ∀ j, j < cc → d1 j = f1 j ∧ d2 j = f2 j ∧ d7 j = f7 j) (st : Nat) (h1 : yL (yGood f1 f2 f7 f4 cc ac) st r) (h2 : yL (zP g5 g6 ac (-1)) st b) :
    r = b ∧ yzJ d1 d2 d7 f3 f4 g1 g2 g3 g4 g5 g6 g7 cc lv ac tc ty tn r tc cc lv ac b := by
  have e : r = b := yL_uniq (fun a ha => hI.good ha) h1 h2
  subst e
  exact ⟨rfl, ((hI.same hd).mod (yL_md h1)).J⟩
theorem op_next {md' mz' : Int32} {d1 d2 d5 d6 j5 j6 : Nat → Int32} {d7 : Nat → Int64} {dY dN jY jN : Int32} {dF jF : Int64} (hI : yzI f1 f2 f7 f3 f4 g1 g2 g3 g4 g5 g6 g7 cc lv ac tc ty tn md)
    (h1 : (k = 0 ∧ ∃ (c0 : Nat) (v : y8) (r0 : Int32), c0 < 262144 ∧ md = nI c0 ∧ (∀ j, j < cc → v.1 j = f1 j ∧ v.2.1 j = f2 j ∧ v.2.2.1 j = f7 j) ∧ yL (yGood f1 f2 f7 f4 cc ac) (c0 + 1) r0 ∧ ((d1, d2, d7, d5, d6, dY, dN, dF), md', o') = (v, r0, vp_updL o 0 r0.toInt64)) ∨ (k = 1 ∧ md = -1 ∧ ((d1, d2, d7, d5, d6, dY, dN, dF), md', o') = ((f1, f2, f7, j5, j6, jY, jN, jF), md, o)))
    (h2 : (md = -1 ∧ (th', mz') = (1, md)) ∨ (∃ c0, c0 < 262144 ∧ md = nI c0 ∧ yL (zP g5 g6 ac (-1)) (c0 + 1) b ∧ (th', mz') = (0, b))) :
    th' = k ∧ (k = 0 → o' 0 = b.toInt64) ∧ yzJ d1 d2 d7 f3 f4 g1 g2 g3 g4 g5 g6 g7 cc lv ac tc ty tn md' tc cc lv ac mz' := by
  rcases h1 with ⟨rfl, c0, v, r0, a1, a2, a3, a4, e⟩ | ⟨rfl, a1, e⟩ <;> cases e
  · rcases h2 with ⟨b1, e⟩ | ⟨c1, b1, b2, b3, e⟩ <;> cases e
    · exact absurd (a2.symm.trans b1) (y_m1 (by omega))
    · have ec : c0 = c1 := (nI_eq (by omega) (by omega)).mp (a2.symm.trans b2)
      subst ec
      obtain ⟨e, hJ⟩ := op_least hI a3 (c0 + 1) a4 b3
      exact ⟨rfl, fun _ => by rw [pk_uLs, e], hJ⟩
  · rcases h2 with ⟨b1, e⟩ | ⟨c1, b1, b2, b3, e⟩ <;> cases e
    · exact ⟨rfl, fun q => absurd q (by decide), hI.J⟩
    · exact absurd (b2.symm.trans a1) (y_m1 (by omega))
theorem op_bool {P P' : Prop} {r : Int32} (hp : P ↔ P') (h1 : (r = 1 ∧ P) ∨ (r = 0 ∧ ¬ P)) (h2 : (b = 1 ∧ P') ∨ (b = 0 ∧ ¬ P')) : r = b := by
  rcases h1 with ⟨rfl, a⟩ | ⟨rfl, a⟩ <;> rcases h2 with ⟨rfl, c⟩ | ⟨rfl, c⟩
  · rfl
  · exact absurd (hp.mp a) c
  · exact absurd (hp.mpr c) a
  · rfl
theorem op_ex {P P' : Nat → Prop} (hp : ∀ a, a < 262144 → (P a ↔ P' a)) : (∃ a, a < 262144 ∧ P a) ↔ ∃ a, a < 262144 ∧ P' a :=
  ⟨fun ⟨a, h1, h2⟩ => ⟨a, h1, (hp a h1).mp h2⟩, fun ⟨a, h1, h2⟩ => ⟨a, h1, (hp a h1).mpr h2⟩⟩
theorem op_all {P P' : Nat → Prop} (hp : ∀ a, a < 262144 → (P a ↔ P' a)) {q : Nat → Prop} : (∀ a, a < 262144 → P a → q a) ↔ ∀ a, a < 262144 → P' a → q a :=
  ⟨fun h a h1 h2 => h a h1 ((hp a h1).mpr h2), fun h a h1 h2 => h a h1 ((hp a h1).mp h2)⟩
theorem op_forced {x : Int64} {d1 d2 d5 d6 j5 j6 : Nat → Int32} {d7 : Nat → Int64} {dY dN jY jN : Int32} {dF jF : Int64} (hI : yzI f1 f2 f7 f3 f4 g1 g2 g3 g4 g5 g6 g7 cc lv ac tc ty tn md)
    (h1 : (k = 0 ∧ yLit p0 ∧ ∃ (v : y8) (x : Int64), (∀ j, j < cc → v.1 j = f1 j ∧ v.2.1 j = f2 j ∧ v.2.2.1 j = f7 j) ∧ ((x = 1 ∧ (∀ a, a < 262144 → yGood f1 f2 f7 f4 cc ac a → ycl (yYes p0) (yNo p0) a)) ∨ (x = 0 ∧ ¬ (∀ a, a < 262144 → yGood f1 f2 f7 f4 cc ac a → ycl (yYes p0) (yNo p0) a))) ∧ ((d1, d2, d7, d5, d6, dY, dN, dF), o') = (v, vp_updL o 0 x)) ∨ (k = 1 ∧ ¬ yLit p0 ∧ ((d1, d2, d7, d5, d6, dY, dN, dF), o') = ((f1, f2, f7, j5, j6, jY, jN, jF), o)))
    (h2 : (¬ yLit p0 ∧ th' = 1) ∨ (yLit p0 ∧ th' = 0 ∧ ((b = 1 ∧ (∀ a, a < 262144 → zP g5 g6 ac (-1) a → yT p0 a)) ∨ (b = 0 ∧ ¬ (∀ a, a < 262144 → zP g5 g6 ac (-1) a → yT p0 a))))) :
    th' = k ∧ (k = 0 → (b = 1 ∧ o' 0 = 1) ∨ (b = 0 ∧ o' 0 = 0)) ∧ yzJ d1 d2 d7 f3 f4 g1 g2 g3 g4 g5 g6 g7 cc lv ac tc ty tn md tc cc lv ac md := by
  rcases h1 with ⟨rfl, a1, v, x, a2, a3, e⟩ | ⟨rfl, a1, e⟩ <;> cases e
  · rcases h2 with ⟨b1, rfl⟩ | ⟨b1, rfl, b2⟩
    · exact absurd a1 b1
    · refine ⟨rfl, fun _ => ?_, (hI.same a2).J⟩
      have hp := op_all (q := yT p0) (fun a ha => hI.good ha)
      rw [pk_uLs]
      rcases a3 with ⟨rfl, a3⟩ | ⟨rfl, a3⟩ <;> rcases b2 with ⟨rfl, b2⟩ | ⟨rfl, b2⟩
      · exact Or.inl ⟨rfl, rfl⟩
      · exact absurd (hp.mp a3) b2
      · exact absurd (hp.mpr b2) a3
      · exact Or.inr ⟨rfl, rfl⟩
  · rcases h2 with ⟨b1, rfl⟩ | ⟨b1, rfl, b2⟩
    · exact ⟨rfl, fun q => absurd q (by decide), hI.J⟩
    · exact absurd b1 a1
theorem op_blames {x : Int64} {d1 d2 d5 d6 j5 j6 : Nat → Int32} {d7 : Nat → Int64} {dY dN jY jN : Int32} {dF jF : Int64} (hI : yzI f1 f2 f7 f3 f4 g1 g2 g3 g4 g5 g6 g7 cc lv ac tc ty tn md)
    (h1 : (k = 0 ∧ ∃ i0, i0 < ac ∧ p0 = nI i0 ∧ ∃ (v : y8) (x : Int64), (∀ j, j < cc → v.1 j = f1 j ∧ v.2.1 j = f2 j ∧ v.2.2.1 j = f7 j) ∧ ((x = 1 ∧ (¬ ∃ a, a < 262144 ∧ yGood f1 f2 f7 f4 cc ac a) ∧ (∃ a, a < 262144 ∧ (∀ j, j < cc → scl (f1 j) (f2 j) (f7 j) a) ∧ ∀ j, j < ac → j ≠ i0 → ycl (yYes (f4 j)) (yNo (f4 j)) a)) ∨ (x = 0 ∧ ¬ ((¬ ∃ a, a < 262144 ∧ yGood f1 f2 f7 f4 cc ac a) ∧ (∃ a, a < 262144 ∧ (∀ j, j < cc → scl (f1 j) (f2 j) (f7 j) a) ∧ ∀ j, j < ac → j ≠ i0 → ycl (yYes (f4 j)) (yNo (f4 j)) a)))) ∧ ((d1, d2, d7, d5, d6, dY, dN, dF), o') = (v, vp_updL o 0 x)) ∨ (k = 1 ∧ (p0 < 0 ∨ nI ac ≤ p0) ∧ ((d1, d2, d7, d5, d6, dY, dN, dF), o') = ((f1, f2, f7, j5, j6, jY, jN, jF), o)))
    (h2 : ((p0 < 0 ∨ nI ac ≤ p0) ∧ th' = 1) ∨ (¬ (p0 < 0 ∨ nI ac ≤ p0) ∧ th' = 0 ∧ ((b = 1 ∧ (¬ ∃ a, a < 262144 ∧ zP g5 g6 ac (-1) a) ∧ (∃ a, a < 262144 ∧ zP g5 g6 ac p0 a)) ∨ (b = 0 ∧ ¬ ((¬ ∃ a, a < 262144 ∧ zP g5 g6 ac (-1) a) ∧ (∃ a, a < 262144 ∧ zP g5 g6 ac p0 a)))))) :
    th' = k ∧ (k = 0 → (b = 1 ∧ o' 0 = 1) ∨ (b = 0 ∧ o' 0 = 0)) ∧ yzJ d1 d2 d7 f3 f4 g1 g2 g3 g4 g5 g6 g7 cc lv ac tc ty tn md tc cc lv ac md := by
  have hac := hI.1.2.2.1
  rcases h1 with ⟨rfl, i0, a0, rfl, v, x, a2, a3, e⟩ | ⟨rfl, a1, e⟩ <;> cases e
  · rcases h2 with ⟨b1, rfl⟩ | ⟨b1, rfl, b2⟩
    · exact absurd b1 (fun q => q.elim (nI_pos (by omega)) (fun z => nI_ge a0 (by omega) z))
    · refine ⟨rfl, fun _ => ?_, (hI.same a2).J⟩
      have hp1 := op_ex (fun a ha => hI.good ha)
      have hp2 : (∃ a, a < 262144 ∧ (∀ j, j < cc → scl (f1 j) (f2 j) (f7 j) a) ∧ ∀ j, j < ac → j ≠ i0 → ycl (yYes (f4 j)) (yNo (f4 j)) a) ↔ ∃ a, a < 262144 ∧ zP g5 g6 ac (nI i0) a := op_ex (fun a ha => by
        rw [← hI.toP ha (nI i0)]
        exact ⟨fun q => ⟨q.1, fun j hj hn => q.2 j hj (fun e => hn (by rw [e]))⟩, fun q => ⟨q.1, fun j hj hn => q.2 j hj (fun e => hn ((nI_eq (by omega) (by omega)).mp e))⟩⟩)
      rw [pk_uLs]
      rw [hp1, hp2] at a3
      rcases a3 with ⟨rfl, a3⟩ | ⟨rfl, a3⟩ <;> rcases b2 with ⟨rfl, b2⟩ | ⟨rfl, b2⟩
      · exact Or.inl ⟨rfl, rfl⟩
      · exact absurd a3 b2
      · exact absurd b2 a3
      · exact Or.inr ⟨rfl, rfl⟩
  · rcases h2 with ⟨b1, rfl⟩ | ⟨b1, rfl, b2⟩
    · exact ⟨rfl, fun q => absurd q (by decide), hI.J⟩
    · exact absurd a1 b1
theorem op_count {d1 d2 d5 d6 j5 j6 : Nat → Int32} {d7 : Nat → Int64} {dY dN jY jN : Int32} {dF jF : Int64} (hI : yzI f1 f2 f7 f3 f4 g1 g2 g3 g4 g5 g6 g7 cc lv ac tc ty tn md)
    (h1 : (k = 0 ∧ ∃ (n0 : Nat) (v : y8), 1 ≤ n0 ∧ n0 ≤ 64 ∧ p0 = nI n0 ∧ (∀ j, j < cc → v.1 j = f1 j ∧ v.2.1 j = f2 j ∧ v.2.2.1 j = f7 j) ∧ ((d1, d2, d7, d5, d6, dY, dN, dF), o') = (v, vp_updL o 0 (nI (min n0 (yN (yGood f1 f2 f7 f4 cc ac) 262144))).toInt64)) ∨ (k = 1 ∧ (p0 < 1 ∨ 64 < p0) ∧ ((d1, d2, d7, d5, d6, dY, dN, dF), o') = ((f1, f2, f7, j5, j6, jY, jN, jF), o)))
    (h2 : ((p0 < 1 ∨ 64 < p0) ∧ th' = 1) ∨ (∃ n1, 1 ≤ n1 ∧ n1 ≤ 64 ∧ p0 = nI n1 ∧ th' = 0 ∧ b = nI (min n1 (yN (zP g5 g6 ac (-1)) 262144)))) :
    th' = k ∧ (k = 0 → o' 0 = b.toInt64) ∧ yzJ d1 d2 d7 f3 f4 g1 g2 g3 g4 g5 g6 g7 cc lv ac tc ty tn md tc cc lv ac md := by
  have hno : ∀ n, 1 ≤ n → n ≤ 64 → ¬ (nI n < 1 ∨ 64 < nI n) := by
    intro n h1 h2 q
    rcases q with q | q
    · exact nI_nlt (a := n) (b := 1) h1 (by omega) q
    · exact nI_nlt (a := 64) (b := n) h2 (by omega) q
  rcases h1 with ⟨rfl, n0, v, a1, a2, rfl, a3, e⟩ | ⟨rfl, a1, e⟩ <;> cases e
  · rcases h2 with ⟨b1, rfl⟩ | ⟨n1, b1, b2, b3, rfl, rfl⟩
    · exact absurd b1 (hno n0 a1 a2)
    · have en : n0 = n1 := (nI_eq (by omega) (by omega)).mp b3
      subst en
      refine ⟨rfl, fun _ => ?_, (hI.same a3).J⟩
      rw [pk_uLs, yN_congr (fun a ha => hI.good ha)]
  · rcases h2 with ⟨b1, rfl⟩ | ⟨n1, b1, b2, rfl, rfl, rfl⟩
    · exact ⟨rfl, fun q => absurd q (by decide), hI.J⟩
    · exact absurd a1 (hno n1 b1 b2)
theorem op_value (hI : yzI f1 f2 f7 f3 f4 g1 g2 g3 g4 g5 g6 g7 cc lv ac tc ty tn md)
    (h1 : (k = 0 ∧ ∃ v0 c0, v0 < 18 ∧ p0 = nI (v0 + 1) ∧ c0 < 262144 ∧ md = nI c0 ∧ o' = vp_updL o 0 ((nI c0 >>> (nI v0 &&& 31)) &&& 1).toInt64) ∨ (k = 1 ∧ (p0 < 1 ∨ 18 < p0) ∧ o' = o) ∨ (k = 2 ∧ ¬ (p0 < 1 ∨ 18 < p0) ∧ md = -1 ∧ o' = o))
    (h2 : ((p0 < 1 ∨ 18 < p0) ∧ th' = 1) ∨ (¬ (p0 < 1 ∨ 18 < p0) ∧ md < 0 ∧ th' = 2) ∨ (¬ (p0 < 1 ∨ 18 < p0) ∧ ¬ md < 0 ∧ th' = 0 ∧ b = (md >>> ((p0 - 1) &&& 31)) &&& 1)) :
    th' = k ∧ (k = 0 → o' 0 = b.toInt64) ∧ yzJ f1 f2 f7 f3 f4 g1 g2 g3 g4 g5 g6 g7 cc lv ac tc ty tn md tc cc lv ac md := by
  have hno : ∀ v, v < 18 → ¬ (nI (v + 1) < 1 ∨ 18 < nI (v + 1)) := by decide +kernel
  rcases h1 with ⟨rfl, v0, c0, a1, rfl, a2, rfl, rfl⟩ | ⟨rfl, a1, rfl⟩ | ⟨rfl, a1, rfl, rfl⟩
  · rcases h2 with ⟨b1, rfl⟩ | ⟨b1, b2, rfl⟩ | ⟨b1, b2, rfl, rfl⟩
    · exact absurd b1 (hno v0 a1)
    · exact absurd b2 (nI_pos (by omega))
    · exact ⟨rfl, fun _ => by rw [pk_uLs, nI_pred], hI.J⟩
  · rcases h2 with ⟨b1, rfl⟩ | ⟨b1, b2, rfl⟩ | ⟨b1, b2, rfl, rfl⟩
    · exact ⟨rfl, fun q => absurd q (by decide), hI.J⟩
    · exact absurd a1 b1
    · exact absurd a1 b1
  · rcases h2 with ⟨b1, rfl⟩ | ⟨b1, b2, rfl⟩ | ⟨b1, b2, rfl, rfl⟩
    · exact absurd b1 a1
    · exact ⟨rfl, fun q => absurd q (by decide), hI.J⟩
    · exact absurd (by decide) b2
theorem op_look (hI : yzI f1 f2 f7 f3 f4 g1 g2 g3 g4 g5 g6 g7 cc lv ac tc ty tn md)
    (h1 : (k = 0 ∧ ∃ x, ((p0 = 0 ∧ x = nI cc) ∨ (p0 = 1 ∧ x = nI lv) ∨ (p0 = 2 ∧ x = nI ac) ∨ (p0 = 3 ∧ x = nI tc) ∨ (p0 = 4 ∧ md = -1 ∧ x = 0) ∨ (p0 = 4 ∧ ¬ md = -1 ∧ x = 1)) ∧ o' = vp_updL o 0 x.toInt64) ∨ (k = 1 ∧ (p0 < 0 ∨ 4 < p0) ∧ o' = o))
    (h2 : ((p0 < 0 ∨ 4 < p0) ∧ th' = 1) ∨ (¬ (p0 < 0 ∨ 4 < p0) ∧ th' = 0 ∧ ((p0 = 0 ∧ b = nI cc) ∨ (p0 = 1 ∧ b = nI lv) ∨ (p0 = 2 ∧ b = nI ac) ∨ (p0 = 3 ∧ b = nI tc) ∨ (¬ p0 = 0 ∧ ¬ p0 = 1 ∧ ¬ p0 = 2 ∧ ¬ p0 = 3 ∧ md < 0 ∧ b = 0) ∨ (¬ p0 = 0 ∧ ¬ p0 = 1 ∧ ¬ p0 = 2 ∧ ¬ p0 = 3 ∧ ¬ md < 0 ∧ b = 1)))) :
    th' = k ∧ (k = 0 → o' 0 = b.toInt64) ∧ yzJ f1 f2 f7 f3 f4 g1 g2 g3 g4 g5 g6 g7 cc lv ac tc ty tn md tc cc lv ac md := by
  have hm : md < 0 ↔ md = -1 := by
    rcases hI.2.2.2.2.1 with e | ⟨c0, h, e⟩
    · rw [e]; exact ⟨fun _ => rfl, fun _ => by decide⟩
    · rw [e]; exact ⟨fun q => absurd q (nI_pos (by omega)), fun q => absurd q (y_m1 (by omega))⟩
  rcases h1 with ⟨rfl, x, a1, rfl⟩ | ⟨rfl, a1, rfl⟩
  · have hx : ¬ (p0 < 0 ∨ 4 < p0) := by
      rcases a1 with ⟨rfl, -⟩ | ⟨rfl, -⟩ | ⟨rfl, -⟩ | ⟨rfl, -⟩ | ⟨rfl, -⟩ | ⟨rfl, -⟩ <;> decide
    rcases h2 with ⟨b1, rfl⟩ | ⟨b1, rfl, b2⟩
    · exact absurd b1 hx
    · refine ⟨rfl, fun _ => ?_, hI.J⟩
      rw [pk_uLs]
      refine congrArg Int32.toInt64 ?_
      rcases a1 with ⟨rfl, rfl⟩ | ⟨rfl, rfl⟩ | ⟨rfl, rfl⟩ | ⟨rfl, rfl⟩ | ⟨rfl, a1, rfl⟩ | ⟨rfl, a1, rfl⟩
      · rcases b2 with ⟨-, rfl⟩ | ⟨e, -⟩ | ⟨e, -⟩ | ⟨e, -⟩ | ⟨e, -⟩ | ⟨e, -⟩
        · rfl
        · exact absurd e (by decide)
        · exact absurd e (by decide)
        · exact absurd e (by decide)
        · exact absurd rfl e
        · exact absurd rfl e
      · rcases b2 with ⟨e, -⟩ | ⟨-, rfl⟩ | ⟨e, -⟩ | ⟨e, -⟩ | ⟨-, e, -⟩ | ⟨-, e, -⟩
        · exact absurd e (by decide)
        · rfl
        · exact absurd e (by decide)
        · exact absurd e (by decide)
        · exact absurd rfl e
        · exact absurd rfl e
      · rcases b2 with ⟨e, -⟩ | ⟨e, -⟩ | ⟨-, rfl⟩ | ⟨e, -⟩ | ⟨-, -, e, -⟩ | ⟨-, -, e, -⟩
        · exact absurd e (by decide)
        · exact absurd e (by decide)
        · rfl
        · exact absurd e (by decide)
        · exact absurd rfl e
        · exact absurd rfl e
      · rcases b2 with ⟨e, -⟩ | ⟨e, -⟩ | ⟨e, -⟩ | ⟨-, rfl⟩ | ⟨-, -, -, e, -⟩ | ⟨-, -, -, e, -⟩
        · exact absurd e (by decide)
        · exact absurd e (by decide)
        · exact absurd e (by decide)
        · rfl
        · exact absurd rfl e
        · exact absurd rfl e
      · rcases b2 with ⟨e, -⟩ | ⟨e, -⟩ | ⟨e, -⟩ | ⟨e, -⟩ | ⟨-, -, -, -, e, rfl⟩ | ⟨-, -, -, -, e, rfl⟩
        · exact absurd e (by decide)
        · exact absurd e (by decide)
        · exact absurd e (by decide)
        · exact absurd e (by decide)
        · rfl
        · exact absurd (hm.mpr a1) e
      · rcases b2 with ⟨e, -⟩ | ⟨e, -⟩ | ⟨e, -⟩ | ⟨e, -⟩ | ⟨-, -, -, -, e, rfl⟩ | ⟨-, -, -, -, e, rfl⟩
        · exact absurd e (by decide)
        · exact absurd e (by decide)
        · exact absurd e (by decide)
        · exact absurd e (by decide)
        · exact absurd (hm.mp e) a1
        · rfl
  · rcases h2 with ⟨b1, rfl⟩ | ⟨b1, rfl, b2⟩
    · exact ⟨rfl, fun q => absurd q (by decide), hI.J⟩
    · exact absurd a1 b1
end YZOPS
