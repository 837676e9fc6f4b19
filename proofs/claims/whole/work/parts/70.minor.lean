/-! the class's minors, set by set, against the reference's determinants -/
theorem upL_s {f : Nat → Int64} {k : Nat} {x : Int64} : vp_updL f k x k = x := if_pos rfl
theorem upL_n {f : Nat → Int64} {k j : Nat} {x : Int64} (h : j ≠ k) : vp_updL f k x j = f j := if_neg h
theorem mfl_le (tb : Nat → Int64) (co : Nat → Nat) (ci : Nat) (mn : Nat → Int64) : ∀ t s, s ≤ t → mfl tb co ci mn t s = mfl tb co ci mn s s
  | 0, s, h => by rw [show s = 0 by omega]
  | t + 1, s, h => by
    by_cases e : s = t + 1
    · rw [e]
    · rw [mfl, upL_n e]
      exact mfl_le tb co ci mn t s (by omega)
theorem mst_cg {tb : Nat → Int64} {co : Nat → Nat} {M M' : Nat → Int64} {m : Nat} : ∀ J, (∀ j, j < J → m.testBit j = true → M (m ^^^ 2 ^ j) = M' (m ^^^ 2 ^ j)) → mst tb co M m J = mst tb co M' m J
  | 0, _ => rfl
  | J + 1, h => by
    have ih := mst_cg (tb := tb) (co := co) J (fun j hj => h j (by omega))
    rw [mst, mst, ih]
    by_cases hb : m.testBit J = true
    · rw [if_pos hb, if_pos hb, h J (by omega) hb]
    · rw [if_neg hb, if_neg hb]
theorem xor_lt : ∀ m, m < 32 → ∀ j, j < 5 → m.testBit j = true → m ^^^ 2 ^ j < m := by decide +kernel
theorem bit_hi : ∀ n, n < 5 → ∀ m, m < 32 → m < 2 ^ (n + 1) → ∀ j, j < 5 → n + 1 ≤ j → m.testBit j = false := by decide +kernel
theorem mst_hi {tb : Nat → Int64} {co : Nat → Nat} {M : Nat → Int64} {m n : Nat} (hn : n < 5) (hm : m < 2 ^ (n + 1)) : ∀ d, n + 1 + d ≤ 5 → mst tb co M m (n + 1 + d) = mst tb co M m (n + 1)
  | 0, _ => rfl
  | d + 1, h => by
    have m32 : m < 32 := Nat.lt_of_lt_of_le hm (Nat.pow_le_pow_right (n := 2) (j := 5) (by decide) (by omega))
    rw [← Nat.add_assoc, mst, bit_hi n hn m m32 hm _ (by omega) (by omega)]
    simp only [Bool.false_eq_true, if_false]
    exact mst_hi hn hm d (by omega)
def mvF (tb : Nat → Int64) (co : Nat → Nat) (ci : Nat) (mn : Nat → Int64) (s : Nat) : Int64 := mfl tb co ci mn s s
theorem mv_0 (tb : Nat → Int64) (co : Nat → Nat) (ci : Nat) (mn : Nat → Int64) : mvF tb co ci mn 0 = 1 := by
  show mfl tb co ci mn 0 0 = 1
  rw [mfl, upL_s]
theorem mv_s (tb : Nat → Int64) (co : Nat → Nat) {ci : Nat} (mn : Nat → Int64) (hc : ci < 5) {m : Nat} (h1 : 1 ≤ m) (hm : m < 2 ^ (ci + 1)) : mvF tb co ci mn m = (mst tb co (mvF tb co ci mn) m 5).1 := by
  obtain ⟨t, rfl⟩ : ∃ t, m = t + 1 := ⟨m - 1, by omega⟩
  have m32 : t + 1 < 32 := Nat.lt_of_lt_of_le hm (Nat.pow_le_pow_right (n := 2) (j := 5) (by decide) (by omega))
  have e := mst_hi (tb := tb) (co := co) (M := mvF tb co ci mn) hc hm (5 - (ci + 1)) (by omega)
  rw [show ci + 1 + (5 - (ci + 1)) = 5 by omega] at e
  rw [e]
  show mfl tb co ci mn (t + 1) (t + 1) = _
  rw [mfl, upL_s]
  congr 1
  refine mst_cg _ (fun j hj hb => ?_)
  have := xor_lt (t + 1) m32 j (by omega) hb
  exact mfl_le tb co ci mn t _ (by omega)
def aOf (tb : Nat → Int64) (co : Nat → Nat) (i j : Nat) : Int64 := tb (co i * 9 + co j)
theorem ms_1 (tb : Nat → Int64) (co : Nat → Nat) (M : Nat → Int64) : (mst tb co M 1 5).1 = aOf tb co 0 0 * M 0 := by
  simp [mst, popc, aOf, show Nat.testBit 1 0 = true from rfl, show Nat.testBit 1 1 = false from rfl, show Nat.testBit 1 2 = false from rfl, show Nat.testBit 1 3 = false from rfl, show Nat.testBit 1 4 = false from rfl]
  try grind
theorem ms_2 (tb : Nat → Int64) (co : Nat → Nat) (M : Nat → Int64) : (mst tb co M 2 5).1 = aOf tb co 0 1 * M 0 := by
  simp [mst, popc, aOf, show Nat.testBit 2 0 = false from rfl, show Nat.testBit 2 1 = true from rfl, show Nat.testBit 2 2 = false from rfl, show Nat.testBit 2 3 = false from rfl, show Nat.testBit 2 4 = false from rfl]
  try grind
theorem ms_3 (tb : Nat → Int64) (co : Nat → Nat) (M : Nat → Int64) : (mst tb co M 3 5).1 = -(aOf tb co 1 0 * M 2) + aOf tb co 1 1 * M 1 := by
  simp [mst, popc, aOf, show Nat.testBit 3 0 = true from rfl, show Nat.testBit 3 1 = true from rfl, show Nat.testBit 3 2 = false from rfl, show Nat.testBit 3 3 = false from rfl, show Nat.testBit 3 4 = false from rfl]
  try grind
theorem ms_4 (tb : Nat → Int64) (co : Nat → Nat) (M : Nat → Int64) : (mst tb co M 4 5).1 = aOf tb co 0 2 * M 0 := by
  simp [mst, popc, aOf, show Nat.testBit 4 0 = false from rfl, show Nat.testBit 4 1 = false from rfl, show Nat.testBit 4 2 = true from rfl, show Nat.testBit 4 3 = false from rfl, show Nat.testBit 4 4 = false from rfl]
  try grind
theorem ms_5 (tb : Nat → Int64) (co : Nat → Nat) (M : Nat → Int64) : (mst tb co M 5 5).1 = -(aOf tb co 1 0 * M 4) + aOf tb co 1 2 * M 1 := by
  simp [mst, popc, aOf, show Nat.testBit 5 0 = true from rfl, show Nat.testBit 5 1 = false from rfl, show Nat.testBit 5 2 = true from rfl, show Nat.testBit 5 3 = false from rfl, show Nat.testBit 5 4 = false from rfl]
  try grind
theorem ms_6 (tb : Nat → Int64) (co : Nat → Nat) (M : Nat → Int64) : (mst tb co M 6 5).1 = -(aOf tb co 1 1 * M 4) + aOf tb co 1 2 * M 2 := by
  simp [mst, popc, aOf, show Nat.testBit 6 0 = false from rfl, show Nat.testBit 6 1 = true from rfl, show Nat.testBit 6 2 = true from rfl, show Nat.testBit 6 3 = false from rfl, show Nat.testBit 6 4 = false from rfl]
  try grind
theorem ms_7 (tb : Nat → Int64) (co : Nat → Nat) (M : Nat → Int64) : (mst tb co M 7 5).1 = aOf tb co 2 0 * M 6 - aOf tb co 2 1 * M 5 + aOf tb co 2 2 * M 3 := by
  simp [mst, popc, aOf, show Nat.testBit 7 0 = true from rfl, show Nat.testBit 7 1 = true from rfl, show Nat.testBit 7 2 = true from rfl, show Nat.testBit 7 3 = false from rfl, show Nat.testBit 7 4 = false from rfl]
  try grind
theorem ms_8 (tb : Nat → Int64) (co : Nat → Nat) (M : Nat → Int64) : (mst tb co M 8 5).1 = aOf tb co 0 3 * M 0 := by
  simp [mst, popc, aOf, show Nat.testBit 8 0 = false from rfl, show Nat.testBit 8 1 = false from rfl, show Nat.testBit 8 2 = false from rfl, show Nat.testBit 8 3 = true from rfl, show Nat.testBit 8 4 = false from rfl]
  try grind
theorem ms_9 (tb : Nat → Int64) (co : Nat → Nat) (M : Nat → Int64) : (mst tb co M 9 5).1 = -(aOf tb co 1 0 * M 8) + aOf tb co 1 3 * M 1 := by
  simp [mst, popc, aOf, show Nat.testBit 9 0 = true from rfl, show Nat.testBit 9 1 = false from rfl, show Nat.testBit 9 2 = false from rfl, show Nat.testBit 9 3 = true from rfl, show Nat.testBit 9 4 = false from rfl]
  try grind
theorem ms_10 (tb : Nat → Int64) (co : Nat → Nat) (M : Nat → Int64) : (mst tb co M 10 5).1 = -(aOf tb co 1 1 * M 8) + aOf tb co 1 3 * M 2 := by
  simp [mst, popc, aOf, show Nat.testBit 10 0 = false from rfl, show Nat.testBit 10 1 = true from rfl, show Nat.testBit 10 2 = false from rfl, show Nat.testBit 10 3 = true from rfl, show Nat.testBit 10 4 = false from rfl]
  try grind
theorem ms_11 (tb : Nat → Int64) (co : Nat → Nat) (M : Nat → Int64) : (mst tb co M 11 5).1 = aOf tb co 2 0 * M 10 - aOf tb co 2 1 * M 9 + aOf tb co 2 3 * M 3 := by
  simp [mst, popc, aOf, show Nat.testBit 11 0 = true from rfl, show Nat.testBit 11 1 = true from rfl, show Nat.testBit 11 2 = false from rfl, show Nat.testBit 11 3 = true from rfl, show Nat.testBit 11 4 = false from rfl]
  try grind
theorem ms_12 (tb : Nat → Int64) (co : Nat → Nat) (M : Nat → Int64) : (mst tb co M 12 5).1 = -(aOf tb co 1 2 * M 8) + aOf tb co 1 3 * M 4 := by
  simp [mst, popc, aOf, show Nat.testBit 12 0 = false from rfl, show Nat.testBit 12 1 = false from rfl, show Nat.testBit 12 2 = true from rfl, show Nat.testBit 12 3 = true from rfl, show Nat.testBit 12 4 = false from rfl]
  try grind
theorem ms_13 (tb : Nat → Int64) (co : Nat → Nat) (M : Nat → Int64) : (mst tb co M 13 5).1 = aOf tb co 2 0 * M 12 - aOf tb co 2 2 * M 9 + aOf tb co 2 3 * M 5 := by
  simp [mst, popc, aOf, show Nat.testBit 13 0 = true from rfl, show Nat.testBit 13 1 = false from rfl, show Nat.testBit 13 2 = true from rfl, show Nat.testBit 13 3 = true from rfl, show Nat.testBit 13 4 = false from rfl]
  try grind
theorem ms_14 (tb : Nat → Int64) (co : Nat → Nat) (M : Nat → Int64) : (mst tb co M 14 5).1 = aOf tb co 2 1 * M 12 - aOf tb co 2 2 * M 10 + aOf tb co 2 3 * M 6 := by
  simp [mst, popc, aOf, show Nat.testBit 14 0 = false from rfl, show Nat.testBit 14 1 = true from rfl, show Nat.testBit 14 2 = true from rfl, show Nat.testBit 14 3 = true from rfl, show Nat.testBit 14 4 = false from rfl]
  try grind
theorem ms_15 (tb : Nat → Int64) (co : Nat → Nat) (M : Nat → Int64) : (mst tb co M 15 5).1 = -(aOf tb co 3 0 * M 14) + aOf tb co 3 1 * M 13 - aOf tb co 3 2 * M 11 + aOf tb co 3 3 * M 7 := by
  simp [mst, popc, aOf, show Nat.testBit 15 0 = true from rfl, show Nat.testBit 15 1 = true from rfl, show Nat.testBit 15 2 = true from rfl, show Nat.testBit 15 3 = true from rfl, show Nat.testBit 15 4 = false from rfl]
  try grind
theorem ms_16 (tb : Nat → Int64) (co : Nat → Nat) (M : Nat → Int64) : (mst tb co M 16 5).1 = aOf tb co 0 4 * M 0 := by
  simp [mst, popc, aOf, show Nat.testBit 16 0 = false from rfl, show Nat.testBit 16 1 = false from rfl, show Nat.testBit 16 2 = false from rfl, show Nat.testBit 16 3 = false from rfl, show Nat.testBit 16 4 = true from rfl]
  try grind
theorem ms_17 (tb : Nat → Int64) (co : Nat → Nat) (M : Nat → Int64) : (mst tb co M 17 5).1 = -(aOf tb co 1 0 * M 16) + aOf tb co 1 4 * M 1 := by
  simp [mst, popc, aOf, show Nat.testBit 17 0 = true from rfl, show Nat.testBit 17 1 = false from rfl, show Nat.testBit 17 2 = false from rfl, show Nat.testBit 17 3 = false from rfl, show Nat.testBit 17 4 = true from rfl]
  try grind
theorem ms_18 (tb : Nat → Int64) (co : Nat → Nat) (M : Nat → Int64) : (mst tb co M 18 5).1 = -(aOf tb co 1 1 * M 16) + aOf tb co 1 4 * M 2 := by
  simp [mst, popc, aOf, show Nat.testBit 18 0 = false from rfl, show Nat.testBit 18 1 = true from rfl, show Nat.testBit 18 2 = false from rfl, show Nat.testBit 18 3 = false from rfl, show Nat.testBit 18 4 = true from rfl]
  try grind
theorem ms_19 (tb : Nat → Int64) (co : Nat → Nat) (M : Nat → Int64) : (mst tb co M 19 5).1 = aOf tb co 2 0 * M 18 - aOf tb co 2 1 * M 17 + aOf tb co 2 4 * M 3 := by
  simp [mst, popc, aOf, show Nat.testBit 19 0 = true from rfl, show Nat.testBit 19 1 = true from rfl, show Nat.testBit 19 2 = false from rfl, show Nat.testBit 19 3 = false from rfl, show Nat.testBit 19 4 = true from rfl]
  try grind
theorem ms_20 (tb : Nat → Int64) (co : Nat → Nat) (M : Nat → Int64) : (mst tb co M 20 5).1 = -(aOf tb co 1 2 * M 16) + aOf tb co 1 4 * M 4 := by
  simp [mst, popc, aOf, show Nat.testBit 20 0 = false from rfl, show Nat.testBit 20 1 = false from rfl, show Nat.testBit 20 2 = true from rfl, show Nat.testBit 20 3 = false from rfl, show Nat.testBit 20 4 = true from rfl]
  try grind
theorem ms_21 (tb : Nat → Int64) (co : Nat → Nat) (M : Nat → Int64) : (mst tb co M 21 5).1 = aOf tb co 2 0 * M 20 - aOf tb co 2 2 * M 17 + aOf tb co 2 4 * M 5 := by
  simp [mst, popc, aOf, show Nat.testBit 21 0 = true from rfl, show Nat.testBit 21 1 = false from rfl, show Nat.testBit 21 2 = true from rfl, show Nat.testBit 21 3 = false from rfl, show Nat.testBit 21 4 = true from rfl]
  try grind
theorem ms_22 (tb : Nat → Int64) (co : Nat → Nat) (M : Nat → Int64) : (mst tb co M 22 5).1 = aOf tb co 2 1 * M 20 - aOf tb co 2 2 * M 18 + aOf tb co 2 4 * M 6 := by
  simp [mst, popc, aOf, show Nat.testBit 22 0 = false from rfl, show Nat.testBit 22 1 = true from rfl, show Nat.testBit 22 2 = true from rfl, show Nat.testBit 22 3 = false from rfl, show Nat.testBit 22 4 = true from rfl]
  try grind
theorem ms_23 (tb : Nat → Int64) (co : Nat → Nat) (M : Nat → Int64) : (mst tb co M 23 5).1 = -(aOf tb co 3 0 * M 22) + aOf tb co 3 1 * M 21 - aOf tb co 3 2 * M 19 + aOf tb co 3 4 * M 7 := by
  simp [mst, popc, aOf, show Nat.testBit 23 0 = true from rfl, show Nat.testBit 23 1 = true from rfl, show Nat.testBit 23 2 = true from rfl, show Nat.testBit 23 3 = false from rfl, show Nat.testBit 23 4 = true from rfl]
  try grind
theorem ms_24 (tb : Nat → Int64) (co : Nat → Nat) (M : Nat → Int64) : (mst tb co M 24 5).1 = -(aOf tb co 1 3 * M 16) + aOf tb co 1 4 * M 8 := by
  simp [mst, popc, aOf, show Nat.testBit 24 0 = false from rfl, show Nat.testBit 24 1 = false from rfl, show Nat.testBit 24 2 = false from rfl, show Nat.testBit 24 3 = true from rfl, show Nat.testBit 24 4 = true from rfl]
  try grind
theorem ms_25 (tb : Nat → Int64) (co : Nat → Nat) (M : Nat → Int64) : (mst tb co M 25 5).1 = aOf tb co 2 0 * M 24 - aOf tb co 2 3 * M 17 + aOf tb co 2 4 * M 9 := by
  simp [mst, popc, aOf, show Nat.testBit 25 0 = true from rfl, show Nat.testBit 25 1 = false from rfl, show Nat.testBit 25 2 = false from rfl, show Nat.testBit 25 3 = true from rfl, show Nat.testBit 25 4 = true from rfl]
  try grind
theorem ms_26 (tb : Nat → Int64) (co : Nat → Nat) (M : Nat → Int64) : (mst tb co M 26 5).1 = aOf tb co 2 1 * M 24 - aOf tb co 2 3 * M 18 + aOf tb co 2 4 * M 10 := by
  simp [mst, popc, aOf, show Nat.testBit 26 0 = false from rfl, show Nat.testBit 26 1 = true from rfl, show Nat.testBit 26 2 = false from rfl, show Nat.testBit 26 3 = true from rfl, show Nat.testBit 26 4 = true from rfl]
  try grind
theorem ms_27 (tb : Nat → Int64) (co : Nat → Nat) (M : Nat → Int64) : (mst tb co M 27 5).1 = -(aOf tb co 3 0 * M 26) + aOf tb co 3 1 * M 25 - aOf tb co 3 3 * M 19 + aOf tb co 3 4 * M 11 := by
  simp [mst, popc, aOf, show Nat.testBit 27 0 = true from rfl, show Nat.testBit 27 1 = true from rfl, show Nat.testBit 27 2 = false from rfl, show Nat.testBit 27 3 = true from rfl, show Nat.testBit 27 4 = true from rfl]
  try grind
theorem ms_28 (tb : Nat → Int64) (co : Nat → Nat) (M : Nat → Int64) : (mst tb co M 28 5).1 = aOf tb co 2 2 * M 24 - aOf tb co 2 3 * M 20 + aOf tb co 2 4 * M 12 := by
  simp [mst, popc, aOf, show Nat.testBit 28 0 = false from rfl, show Nat.testBit 28 1 = false from rfl, show Nat.testBit 28 2 = true from rfl, show Nat.testBit 28 3 = true from rfl, show Nat.testBit 28 4 = true from rfl]
  try grind
theorem ms_29 (tb : Nat → Int64) (co : Nat → Nat) (M : Nat → Int64) : (mst tb co M 29 5).1 = -(aOf tb co 3 0 * M 28) + aOf tb co 3 2 * M 25 - aOf tb co 3 3 * M 21 + aOf tb co 3 4 * M 13 := by
  simp [mst, popc, aOf, show Nat.testBit 29 0 = true from rfl, show Nat.testBit 29 1 = false from rfl, show Nat.testBit 29 2 = true from rfl, show Nat.testBit 29 3 = true from rfl, show Nat.testBit 29 4 = true from rfl]
  try grind
theorem ms_30 (tb : Nat → Int64) (co : Nat → Nat) (M : Nat → Int64) : (mst tb co M 30 5).1 = -(aOf tb co 3 1 * M 28) + aOf tb co 3 2 * M 26 - aOf tb co 3 3 * M 22 + aOf tb co 3 4 * M 14 := by
  simp [mst, popc, aOf, show Nat.testBit 30 0 = false from rfl, show Nat.testBit 30 1 = true from rfl, show Nat.testBit 30 2 = true from rfl, show Nat.testBit 30 3 = true from rfl, show Nat.testBit 30 4 = true from rfl]
  try grind
theorem ms_31 (tb : Nat → Int64) (co : Nat → Nat) (M : Nat → Int64) : (mst tb co M 31 5).1 = aOf tb co 4 0 * M 30 - aOf tb co 4 1 * M 29 + aOf tb co 4 2 * M 27 - aOf tb co 4 3 * M 23 + aOf tb co 4 4 * M 15 := by
  simp [mst, popc, aOf, show Nat.testBit 31 0 = true from rfl, show Nat.testBit 31 1 = true from rfl, show Nat.testBit 31 2 = true from rfl, show Nat.testBit 31 3 = true from rfl, show Nat.testBit 31 4 = true from rfl]
  try grind
theorem det_1 {tb : Nat → Int64} {co : Nat → Nat} {M : Nat → Int64} (h0 : M 0 = 1) (h : ∀ m, 1 ≤ m → m < 2 ^ 2 → M m = (mst tb co M m 5).1) : M 1 = qn (aOf tb co) 1 ∧ (∀ p, p < 1 → pAb 1 M p = qn (fun i j => if j = p then aOf tb co i 1 else aOf tb co i j) 1) ∧ M 3 = aOf tb co 1 1 * M 1 - aOf tb co 1 0 * pAb 1 M 0 := by
  have e1 := (h 1 (by decide) (by decide)).trans (ms_1 tb co M)
  have e2 := (h 2 (by decide) (by decide)).trans (ms_2 tb co M)
  have e3 := (h 3 (by decide) (by decide)).trans (ms_3 tb co M)
  refine ⟨?_, fun p hp => ?_, ?_⟩
  · rw [e1]
    simp only [h0, qn, q2, q3, q4, reduceIte, Nat.reduceEqDiff]
    try grind
  · have hc : p = 0 := by omega
    subst hc
    simp [pAb, qn, q2, q3, q4]
    simp only [e2, h0]
    try grind
  · rw [e3]
    simp [pAb]
    try grind
theorem det_2 {tb : Nat → Int64} {co : Nat → Nat} {M : Nat → Int64} (h0 : M 0 = 1) (h : ∀ m, 1 ≤ m → m < 2 ^ 3 → M m = (mst tb co M m 5).1) : M 3 = qn (aOf tb co) 2 ∧ (∀ p, p < 2 → pAb 2 M p = qn (fun i j => if j = p then aOf tb co i 2 else aOf tb co i j) 2) ∧ M 7 = aOf tb co 2 2 * M 3 - aOf tb co 2 0 * pAb 2 M 0 - aOf tb co 2 1 * pAb 2 M 1 := by
  have e1 := (h 1 (by decide) (by decide)).trans (ms_1 tb co M)
  have e2 := (h 2 (by decide) (by decide)).trans (ms_2 tb co M)
  have e3 := (h 3 (by decide) (by decide)).trans (ms_3 tb co M)
  have e4 := (h 4 (by decide) (by decide)).trans (ms_4 tb co M)
  have e5 := (h 5 (by decide) (by decide)).trans (ms_5 tb co M)
  have e6 := (h 6 (by decide) (by decide)).trans (ms_6 tb co M)
  have e7 := (h 7 (by decide) (by decide)).trans (ms_7 tb co M)
  refine ⟨?_, fun p hp => ?_, ?_⟩
  · rw [e3]
    simp only [e1, e2, h0, qn, q2, q3, q4, reduceIte, Nat.reduceEqDiff]
    try grind
  · have hc : p = 0 ∨ p = 1 := by omega
    rcases hc with rfl | rfl
    · simp [pAb, qn, q2, q3, q4]
      simp only [e6, e2, e4, h0]
      try grind
    · simp [pAb, qn, q2, q3, q4]
      simp only [e5, e1, e4, h0]
      try grind
  · rw [e7]
    simp [pAb]
    try grind
theorem det_3 {tb : Nat → Int64} {co : Nat → Nat} {M : Nat → Int64} (h0 : M 0 = 1) (h : ∀ m, 1 ≤ m → m < 2 ^ 4 → M m = (mst tb co M m 5).1) : M 7 = qn (aOf tb co) 3 ∧ (∀ p, p < 3 → pAb 3 M p = qn (fun i j => if j = p then aOf tb co i 3 else aOf tb co i j) 3) ∧ M 15 = aOf tb co 3 3 * M 7 - aOf tb co 3 0 * pAb 3 M 0 - aOf tb co 3 1 * pAb 3 M 1 - aOf tb co 3 2 * pAb 3 M 2 := by
  have e1 := (h 1 (by decide) (by decide)).trans (ms_1 tb co M)
  have e2 := (h 2 (by decide) (by decide)).trans (ms_2 tb co M)
  have e3 := (h 3 (by decide) (by decide)).trans (ms_3 tb co M)
  have e4 := (h 4 (by decide) (by decide)).trans (ms_4 tb co M)
  have e5 := (h 5 (by decide) (by decide)).trans (ms_5 tb co M)
  have e6 := (h 6 (by decide) (by decide)).trans (ms_6 tb co M)
  have e7 := (h 7 (by decide) (by decide)).trans (ms_7 tb co M)
  have e8 := (h 8 (by decide) (by decide)).trans (ms_8 tb co M)
  have e9 := (h 9 (by decide) (by decide)).trans (ms_9 tb co M)
  have e10 := (h 10 (by decide) (by decide)).trans (ms_10 tb co M)
  have e11 := (h 11 (by decide) (by decide)).trans (ms_11 tb co M)
  have e12 := (h 12 (by decide) (by decide)).trans (ms_12 tb co M)
  have e13 := (h 13 (by decide) (by decide)).trans (ms_13 tb co M)
  have e14 := (h 14 (by decide) (by decide)).trans (ms_14 tb co M)
  have e15 := (h 15 (by decide) (by decide)).trans (ms_15 tb co M)
  refine ⟨?_, fun p hp => ?_, ?_⟩
  · rw [e7]
    simp only [e3, e5, e6, e1, e2, e4, h0, qn, q2, q3, q4, reduceIte, Nat.reduceEqDiff]
    try grind
  · have hc : p = 0 ∨ p = 1 ∨ p = 2 := by omega
    rcases hc with rfl | rfl | rfl
    · simp [pAb, qn, q2, q3, q4]
      simp only [e14, e6, e10, e12, e2, e4, e8, h0]
      try grind
    · simp [pAb, qn, q2, q3, q4]
      simp only [e13, e5, e9, e12, e1, e4, e8, h0]
      try grind
    · simp [pAb, qn, q2, q3, q4]
      simp only [e11, e3, e9, e10, e1, e2, e8, h0]
      try grind
  · rw [e15]
    simp [pAb]
    try grind
theorem det_4 {tb : Nat → Int64} {co : Nat → Nat} {M : Nat → Int64} (h0 : M 0 = 1) (h : ∀ m, 1 ≤ m → m < 2 ^ 5 → M m = (mst tb co M m 5).1) : M 15 = qn (aOf tb co) 4 ∧ (∀ p, p < 4 → pAb 4 M p = qn (fun i j => if j = p then aOf tb co i 4 else aOf tb co i j) 4) ∧ M 31 = aOf tb co 4 4 * M 15 - aOf tb co 4 0 * pAb 4 M 0 - aOf tb co 4 1 * pAb 4 M 1 - aOf tb co 4 2 * pAb 4 M 2 - aOf tb co 4 3 * pAb 4 M 3 := by
  have e1 := (h 1 (by decide) (by decide)).trans (ms_1 tb co M)
  have e2 := (h 2 (by decide) (by decide)).trans (ms_2 tb co M)
  have e3 := (h 3 (by decide) (by decide)).trans (ms_3 tb co M)
  have e4 := (h 4 (by decide) (by decide)).trans (ms_4 tb co M)
  have e5 := (h 5 (by decide) (by decide)).trans (ms_5 tb co M)
  have e6 := (h 6 (by decide) (by decide)).trans (ms_6 tb co M)
  have e7 := (h 7 (by decide) (by decide)).trans (ms_7 tb co M)
  have e8 := (h 8 (by decide) (by decide)).trans (ms_8 tb co M)
  have e9 := (h 9 (by decide) (by decide)).trans (ms_9 tb co M)
  have e10 := (h 10 (by decide) (by decide)).trans (ms_10 tb co M)
  have e11 := (h 11 (by decide) (by decide)).trans (ms_11 tb co M)
  have e12 := (h 12 (by decide) (by decide)).trans (ms_12 tb co M)
  have e13 := (h 13 (by decide) (by decide)).trans (ms_13 tb co M)
  have e14 := (h 14 (by decide) (by decide)).trans (ms_14 tb co M)
  have e15 := (h 15 (by decide) (by decide)).trans (ms_15 tb co M)
  have e16 := (h 16 (by decide) (by decide)).trans (ms_16 tb co M)
  have e17 := (h 17 (by decide) (by decide)).trans (ms_17 tb co M)
  have e18 := (h 18 (by decide) (by decide)).trans (ms_18 tb co M)
  have e19 := (h 19 (by decide) (by decide)).trans (ms_19 tb co M)
  have e20 := (h 20 (by decide) (by decide)).trans (ms_20 tb co M)
  have e21 := (h 21 (by decide) (by decide)).trans (ms_21 tb co M)
  have e22 := (h 22 (by decide) (by decide)).trans (ms_22 tb co M)
  have e23 := (h 23 (by decide) (by decide)).trans (ms_23 tb co M)
  have e24 := (h 24 (by decide) (by decide)).trans (ms_24 tb co M)
  have e25 := (h 25 (by decide) (by decide)).trans (ms_25 tb co M)
  have e26 := (h 26 (by decide) (by decide)).trans (ms_26 tb co M)
  have e27 := (h 27 (by decide) (by decide)).trans (ms_27 tb co M)
  have e28 := (h 28 (by decide) (by decide)).trans (ms_28 tb co M)
  have e29 := (h 29 (by decide) (by decide)).trans (ms_29 tb co M)
  have e30 := (h 30 (by decide) (by decide)).trans (ms_30 tb co M)
  have e31 := (h 31 (by decide) (by decide)).trans (ms_31 tb co M)
  refine ⟨?_, fun p hp => ?_, ?_⟩
  · rw [e15]
    simp only [e7, e11, e13, e14, e3, e5, e6, e9, e10, e12, e1, e2, e4, e8, h0, qn, q2, q3, q4, reduceIte, Nat.reduceEqDiff]
    try grind
  · have hc : p = 0 ∨ p = 1 ∨ p = 2 ∨ p = 3 := by omega
    rcases hc with rfl | rfl | rfl | rfl
    · simp [pAb, qn, q2, q3, q4]
      simp only [e30, e14, e22, e26, e28, e6, e10, e12, e18, e20, e24, e2, e4, e8, e16, h0]
      try grind
    · simp [pAb, qn, q2, q3, q4]
      simp only [e29, e13, e21, e25, e28, e5, e9, e12, e17, e20, e24, e1, e4, e8, e16, h0]
      try grind
    · simp [pAb, qn, q2, q3, q4]
      simp only [e27, e11, e19, e25, e26, e3, e9, e10, e17, e18, e24, e1, e2, e8, e16, h0]
      try grind
    · simp [pAb, qn, q2, q3, q4]
      simp only [e23, e7, e19, e21, e22, e3, e5, e6, e17, e18, e20, e1, e2, e4, e16, h0]
      try grind
  · rw [e31]
    simp [pAb]
    try grind
