/-! the class's solving, as determinants -/
theorem pkS_ind (m : Nat) (co co' : Nat → Nat) : ∀ c, (pkS m co c).1 = (pkS m co' c).1 ∧ ∀ j, j < (pkS m co c).1 → (pkS m co c).2 j = (pkS m co' c).2 j
  | 0 => ⟨rfl, fun j hj => absurd hj (Nat.not_lt_zero _)⟩
  | c + 1 => by
    obtain ⟨h1, h2⟩ := pkS_ind m co co' c
    rw [pkS, pkS, ← h1]
    by_cases q : (pkS m co c).1 < 4 ∧ m.testBit c = true
    · rw [if_pos q, if_pos q]
      refine ⟨rfl, fun j hj => ?_⟩
      show updN _ _ _ _ = updN _ _ _ _
      unfold updN
      by_cases e : j = (pkS m co c).1
      · rw [if_pos e, if_pos e]
      · rw [if_neg e, if_neg e]
        exact h2 j (by have : j < (pkS m co c).1 + 1 := hj; omega)
    · rw [if_neg q, if_neg q]
      exact ⟨h1, h2⟩
set_option maxRecDepth 100000 in
theorem pkS_d : ∀ m, m < 256 → popc m ≤ 4 → (pkS m (fun _ => 0) 8).1 = popc m ∧ ∀ j, j < 4 → j < popc m → (pkS m (fun _ => 0) 8).2 j = nthB 8 m j := by decide +kernel
def cxm (m i : Nat) : Nat := if i < popc m then nthB 8 m i else 8
theorem colN_eq {m : Nat} {co : Nat → Nat} (hm : m < 256) (h4 : popc m ≤ 4) : colN m co = popc m := (pkS_ind m co (fun _ => 0) 8).1.trans (pkS_d m hm h4).1
theorem cols_eq {m : Nat} {co : Nat → Nat} (hm : m < 256) (h4 : popc m ≤ 4) {i : Nat} (hi : i ≤ popc m) : cols m co i = cxm m i := by
  obtain ⟨e1, e2⟩ := pkS_ind m co (fun _ => 0) 8
  obtain ⟨d1, d2⟩ := pkS_d m hm h4
  unfold cols updN cxm
  rw [e1, d1]
  by_cases e : i = popc m
  · rw [if_pos e, if_neg (by omega)]
  · rw [if_neg e, if_pos (by omega), e2 i (by omega), d2 i (by omega) (by omega)]
theorem qn_cg {R : Type} [Mul R] [Sub R] [Add R] {a b : Nat → Nat → R} {n : Nat} (h1 : 1 ≤ n) (h4 : n ≤ 4) (h : ∀ i j, i < n → j < n → a i j = b i j) : qn a n = qn b n := by
  have hn : n = 1 ∨ n = 2 ∨ n = 3 ∨ n = 4 := by omega
  rcases hn with rfl | rfl | rfl | rfl
  · simp only [qn, reduceIte, h 0 0 (by decide) (by decide)]
  · simp only [qn, q2, reduceIte, Nat.reduceEqDiff, h 0 0 (by decide) (by decide), h 0 1 (by decide) (by decide), h 1 0 (by decide) (by decide), h 1 1 (by decide) (by decide)]
  · simp only [qn, q2, q3, reduceIte, Nat.reduceEqDiff, h 0 0 (by decide) (by decide), h 0 1 (by decide) (by decide), h 0 2 (by decide) (by decide), h 1 0 (by decide) (by decide), h 1 1 (by decide) (by decide), h 1 2 (by decide) (by decide), h 2 0 (by decide) (by decide), h 2 1 (by decide) (by decide), h 2 2 (by decide) (by decide)]
  · simp only [qn, q2, q3, q4, reduceIte, Nat.reduceEqDiff, h 0 0 (by decide) (by decide), h 0 1 (by decide) (by decide), h 0 2 (by decide) (by decide), h 0 3 (by decide) (by decide), h 1 0 (by decide) (by decide), h 1 1 (by decide) (by decide), h 1 2 (by decide) (by decide), h 1 3 (by decide) (by decide), h 2 0 (by decide) (by decide), h 2 1 (by decide) (by decide), h 2 2 (by decide) (by decide), h 2 3 (by decide) (by decide), h 3 0 (by decide) (by decide), h 3 1 (by decide) (by decide), h 3 2 (by decide) (by decide), h 3 3 (by decide) (by decide)]
/-- Cramer's determinant -/
def qA {R : Type} [Mul R] [Sub R] [Add R] (a : Nat → Nat → R) (n p : Nat) : R := qn (fun i j => if j = p then a i n else a i j) n
theorem qA_cg {R : Type} [Mul R] [Sub R] [Add R] {a b : Nat → Nat → R} {n p : Nat} (h1 : 1 ≤ n) (h4 : n ≤ 4) (h : ∀ i j, i < n → j ≤ n → a i j = b i j) : qA a n p = qA b n p := by
  refine qn_cg h1 h4 (fun i j hi hj => ?_)
  show (if j = p then _ else _) = (if j = p then _ else _)
  split
  · exact h i n hi (Nat.le_refl _)
  · exact h i j hi (by omega)
/-- what is left, by the reference's sum -/
def sLf {R : Type} [Mul R] [Sub R] [Add R] (a : Nat → Nat → R) (n : Nat) : Nat → R
  | 0 => a n n * qn a n
  | p + 1 => sLf a n p - qA a n p * a p n
theorem sv_fin {tb : Nat → Int64} {cc : Nat → Nat} {M : Nat → Int64} {A : Nat → Nat → Int64} {n : Nat} (h1 : 1 ≤ n) (h4 : n ≤ 4) (ha : ∀ i j, i ≤ n → j ≤ n → aOf tb cc i j = A i j) (hs : ∀ i j, A i j = A j i) (h0 : M 0 = 1) (hst : ∀ s, 1 ≤ s → s < 2 ^ (n + 1) → M s = (mst tb cc M s 5).1) : M (2 ^ n - 1) = qn (aOf tb cc) n ∧ (∀ p, p < n → pAb n M p = qA (aOf tb cc) n p) ∧ M (2 ^ (n + 1) - 1) = sLf A n n := by
  have hq := qn_cg (R := Int64) h1 h4 (fun i j hi hj => ha i j (by omega) (by omega))
  have hqA : ∀ p, qA (aOf tb cc) n p = qA A n p := fun p => qA_cg h1 h4 (fun i j hi hj => ha i j (by omega) hj)
  have hn : n = 1 ∨ n = 2 ∨ n = 3 ∨ n = 4 := by omega
  rcases hn with rfl | rfl | rfl | rfl
  · obtain ⟨d1, d2, d3⟩ := det_1 h0 hst
    refine ⟨d1, d2, ?_⟩
    have q0 := (d2 0 (by decide)).trans (hqA 0)
    show M 3 = _
    simp only [d3, d1, hq, q0, ha 1 1 (by decide) (by decide), ha 1 0 (by decide) (by decide), sLf, hs 1 0]
    grind
  · obtain ⟨d1, d2, d3⟩ := det_2 h0 hst
    refine ⟨d1, d2, ?_⟩
    have q0 := (d2 0 (by decide)).trans (hqA 0)
    have q1 := (d2 1 (by decide)).trans (hqA 1)
    show M 7 = _
    simp only [d3, d1, hq, q0, q1, ha 2 2 (by decide) (by decide), ha 2 0 (by decide) (by decide), ha 2 1 (by decide) (by decide), sLf, hs 2 0, hs 2 1]
    grind
  · obtain ⟨d1, d2, d3⟩ := det_3 h0 hst
    refine ⟨d1, d2, ?_⟩
    have q0 := (d2 0 (by decide)).trans (hqA 0)
    have q1 := (d2 1 (by decide)).trans (hqA 1)
    have q2 := (d2 2 (by decide)).trans (hqA 2)
    show M 15 = _
    simp only [d3, d1, hq, q0, q1, q2, ha 3 3 (by decide) (by decide), ha 3 0 (by decide) (by decide), ha 3 1 (by decide) (by decide), ha 3 2 (by decide) (by decide), sLf, hs 3 0, hs 3 1, hs 3 2]
    grind
  · obtain ⟨d1, d2, d3⟩ := det_4 h0 hst
    refine ⟨d1, d2, ?_⟩
    have q0 := (d2 0 (by decide)).trans (hqA 0)
    have q1 := (d2 1 (by decide)).trans (hqA 1)
    have q2 := (d2 2 (by decide)).trans (hqA 2)
    have q3 := (d2 3 (by decide)).trans (hqA 3)
    show M 31 = _
    simp only [d3, d1, hq, q0, q1, q2, q3, ha 4 4 (by decide) (by decide), ha 4 0 (by decide) (by decide), ha 4 1 (by decide) (by decide), ha 4 2 (by decide) (by decide), ha 4 3 (by decide) (by decide), sLf, hs 4 0, hs 4 1, hs 4 2, hs 4 3]
    grind
theorem sv {tb : Nat → Int64} {co : Nat → Nat} {mn : Nat → Int64} {m : Nat} {A : Nat → Nat → Int64} (hm : m < 256) (h1 : 1 ≤ popc m) (h4 : popc m ≤ 4) (hA : ∀ i j, i ≤ popc m → j ≤ popc m → tb (cxm m i * 9 + cxm m j) = A i j) (hs : ∀ i j, A i j = A j i) : sMn tb co mn m (2 ^ popc m - 1) = qn A (popc m) ∧ (∀ p, p < popc m → pAb (popc m) (sMn tb co mn m) p = qA A (popc m) p) ∧ sMn tb co mn m (2 ^ (popc m + 1) - 1) = sLf A (popc m) (popc m) := by
  have hcn := colN_eq (co := co) hm h4
  have hM : ∀ s, s < 2 ^ (popc m + 1) → sMn tb co mn m s = mvF tb (cols m co) (popc m) mn s := fun s hs => by
    unfold sMn mvF
    rw [hcn]
    exact mfl_le _ _ _ _ _ s (by omega)
  have ha : ∀ i j, i ≤ popc m → j ≤ popc m → aOf tb (cols m co) i j = A i j := fun i j hi hj => by
    unfold aOf
    rw [cols_eq hm h4 hi, cols_eq hm h4 hj, hA i j hi hj]
  have h0 := mv_0 tb (cols m co) (popc m) mn
  have hst : ∀ s, 1 ≤ s → s < 2 ^ (popc m + 1) → mvF tb (cols m co) (popc m) mn s = (mst tb (cols m co) (mvF tb (cols m co) (popc m) mn) s 5).1 := fun s h1 h2 => mv_s tb (cols m co) mn (by omega) h1 h2
  have hp : ∀ p, p < popc m → pAb (popc m) (sMn tb co mn m) p = pAb (popc m) (mvF tb (cols m co) (popc m) mn) p := fun p hp => by
    unfold pAb
    rw [hM]
    have hx : ∀ n, n < 5 → ∀ p, p < n → (2 ^ (n + 1) - 1) ^^^ 2 ^ p < 2 ^ (n + 1) := by decide +kernel
    exact hx _ (by omega) p hp
  have l1 : 2 ^ popc m - 1 < 2 ^ (popc m + 1) := by
    have := Nat.pow_le_pow_right (n := 2) (by decide) (show popc m ≤ popc m + 1 by omega)
    have := Nat.two_pow_pos (popc m)
    omega
  have l2 : 2 ^ (popc m + 1) - 1 < 2 ^ (popc m + 1) := by
    have := Nat.two_pow_pos (popc m + 1)
    omega
  have fin := sv_fin h1 h4 ha hs h0 hst
  refine ⟨?_, fun p hpp => ?_, ?_⟩
  · rw [hM _ l1, fin.1]
    exact qn_cg h1 h4 (fun i j hi hj => ha i j (by omega) (by omega))
  · rw [hp p hpp, fin.2.1 p hpp]
    exact qA_cg h1 h4 (fun i j hi hj => ha i j (by omega) hj)
  · rw [hM _ l2, fin.2.2]
