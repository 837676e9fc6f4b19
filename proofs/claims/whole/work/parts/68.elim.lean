/-! elimination -/
def rwT (T : Nat → Int64) (k r : Nat) (u : Nat → Int) : Int := isum k (fun j => (T (4 * r + j)).toInt * u j)
abbrev Elm (X : Nat → Nat → Int) (N k : Nat) (T : Nat → Int64) (c rk : Nat) (B : Int) : Prop :=
  (∀ r j, r < N → j < k → bd (T (4 * r + j)) B) ∧
  (∀ u : Nat → Int, (∀ r, r < N → isum k (fun j => X r j * u j) = 0) ↔ (∀ r, r < N → rwT T k r u = 0)) ∧
  (∀ r j, rk ≤ r → r < N → j < c → (T (4 * r + j)).toInt = 0) ∧
  (∃ q, q < 2 ^ c ∧ popc q = rk ∧ ∀ u : Nat → Int, (∀ j, j < k → q.testBit j = false → u j = 0) → (∀ i, i < rk → rwT T k i u = 0) → ∀ j, j < k → u j = 0) ∧
  rk ≤ N ∧ rk ≤ c
theorem elm_0 {X : Nat → Nat → Int} {N k : Nat} {T : Nat → Int64} {B : Int} (h : ∀ r j, r < N → j < k → (T (4 * r + j)).toInt = X r j) (hB : ∀ r j, r < N → j < k → -B ≤ X r j ∧ X r j ≤ B) : Elm X N k T 0 0 B := by
  refine ⟨?_, ?_, ?_, ?_, ?_, ?_⟩
  · exact fun r j hr hj => by
      have := hB r j hr hj
      unfold bd
      rw [h r j hr hj]
      exact this
  · exact fun u => by
      have e : ∀ r, r < N → rwT T k r u = isum k (fun j => X r j * u j) := fun r hr => isum_ext k (fun j hj => by simp only [h r j hr hj])
      constructor
      · intro w r hr
        rw [e r hr, w r hr]
      · intro w r hr
        rw [← e r hr, w r hr]
  · exact fun r j _ _ hj => absurd hj (Nat.not_lt_zero _)
  · exact ⟨0, by decide, by decide, fun u hu _ j hj => hu j hj (by simp)⟩
  · exact Nat.zero_le _
  · exact Nat.le_refl _
theorem elm_n {X : Nat → Nat → Int} {N k : Nat} {T : Nat → Int64} {c rk : Nat} {B B' : Int} (h : Elm X N k T c rk B) (hB : B ≤ B') (hz : ∀ r, rk ≤ r → r < N → T (4 * r + c) = 0) : Elm X N k T (c + 1) rk B' := by
  refine ⟨?_, ?_, ?_, ?_, ?_, ?_⟩
  · exact fun r j hr hj => by
      have := h.1 r j hr hj
      unfold bd at *
      omega
  · exact h.2.1
  · exact fun r j h1 h2 h3 => by
      by_cases e : j = c
      · rw [e, hz r h1 h2]
        rfl
      · exact h.2.2.1 r j h1 h2 (by omega)
  · exact by
      obtain ⟨q, h1, h2, h3⟩ := h.2.2.2.1
      exact ⟨q, Nat.lt_of_lt_of_le h1 (Nat.pow_le_pow_right (by decide) (by omega)), h2, h3⟩
  · exact h.2.2.2.2.1
  · exact by have := h.2.2.2.2.2; omega
theorem q_bit : ∀ c, c < 4 → ∀ q, q < 16 → q < 2 ^ c → popc (q + 2 ^ c) = popc q + 1 ∧ q + 2 ^ c < 2 ^ (c + 1) ∧ ∀ j, j < 4 → (q + 2 ^ c).testBit j = (decide (j = c) || q.testBit j) := by decide +kernel
theorem q_lt : ∀ c, c < 4 → ∀ q, q < 16 → q < 2 ^ c → ∀ j, j < 4 → c ≤ j → q.testBit j = false := by decide +kernel
theorem elm_s {X : Nat → Nat → Int} {N k : Nat} {T T1 T2 : Nat → Int64} {c rk p : Nat} {B B' : Int} (h : Elm X N k T c rk B) (hk4 : k ≤ 4) (hck : c < k) (hB0 : 1 ≤ B) (hB : 2 * (B * B) ≤ B') (hB' : B' < 2 ^ 63) (hp1 : rk ≤ p) (hp2 : p < N) (hpv : T (4 * p + c) ≠ 0)
    (s1 : ∀ j, j < k → T1 (4 * rk + j) = T (4 * p + j)) (s2 : ∀ j, j < k → T1 (4 * p + j) = T (4 * rk + j)) (s3 : ∀ r j, r ≠ rk → r ≠ p → j < k → T1 (4 * r + j) = T (4 * r + j))
    (e1 : ∀ r j, r ≤ rk → j < k → T2 (4 * r + j) = T1 (4 * r + j)) (e2 : ∀ r j, rk < r → r < N → j < k → T2 (4 * r + j) = T1 (4 * r + j) * T1 (4 * rk + c) - T1 (4 * rk + j) * T1 (4 * r + c)) : Elm X N k T2 (c + 1) (rk + 1) B' := by
  have b1 : ∀ r j, r < N → j < k → bd (T1 (4 * r + j)) B := fun r j hr hj => by
    by_cases q : r = rk
    · rw [q, s1 j hj]
      exact h.1 p j hp2 hj
    · by_cases q2 : r = p
      · rw [q2, s2 j hj]
        exact h.1 rk j (by omega) hj
      · rw [s3 r j q q2 hj]
        exact h.1 r j hr hj
  have i2 : ∀ r j, rk < r → r < N → j < k → (T2 (4 * r + j)).toInt = (T1 (4 * r + j)).toInt * (T1 (4 * rk + c)).toInt - (T1 (4 * rk + j)).toInt * (T1 (4 * r + c)).toInt ∧ bd (T2 (4 * r + j)) B' := fun r j h1 h2 h3 => by
    have x1 := b1 r j h2 h3
    have x2 := b1 rk c (by omega) hck
    have x3 := b1 rk j (by omega) h3
    have x4 := b1 r c h2 hck
    have y1 := abs_mul_le x1.1 x1.2 x2.1 x2.2
    have y2 := abs_mul_le x3.1 x3.2 x4.1 x4.2
    have z1 : (T1 (4 * r + j) * T1 (4 * rk + c)).toInt = (T1 (4 * r + j)).toInt * (T1 (4 * rk + c)).toInt := by
      rw [Int64.toInt_mul, bmod64 (by omega) (by omega)]
    have z2 : (T1 (4 * rk + j) * T1 (4 * r + c)).toInt = (T1 (4 * rk + j)).toInt * (T1 (4 * r + c)).toInt := by
      rw [Int64.toInt_mul, bmod64 (by omega) (by omega)]
    have z3 : (T2 (4 * r + j)).toInt = (T1 (4 * r + j)).toInt * (T1 (4 * rk + c)).toInt - (T1 (4 * rk + j)).toInt * (T1 (4 * r + c)).toInt := by
      rw [e2 r j h1 h2 h3, Int64.toInt_sub, z1, z2, bmod64 (by omega) (by omega)]
    refine ⟨z3, ?_⟩
    unfold bd
    rw [z3]
    omega
  have pv : (T1 (4 * rk + c)).toInt ≠ 0 := fun q => hpv (by
    rw [← s1 c hck]
    exact Int64.toInt_inj.mp (q.trans rfl))
  have r1 : ∀ u, rwT T1 k rk u = rwT T k p u := fun u => isum_ext k (fun j hj => by simp only [s1 j hj])
  have r2 : ∀ u, rwT T1 k p u = rwT T k rk u := fun u => isum_ext k (fun j hj => by simp only [s2 j hj])
  have r3 : ∀ r u, r ≠ rk → r ≠ p → rwT T1 k r u = rwT T k r u := fun r u h1 h2 => isum_ext k (fun j hj => by simp only [s3 r j h1 h2 hj])
  have t1 : ∀ r u, r ≤ rk → rwT T2 k r u = rwT T1 k r u := fun r u h1 => isum_ext k (fun j hj => by simp only [e1 r j h1 hj])
  have t2 : ∀ r u, rk < r → r < N → rwT T2 k r u = (T1 (4 * rk + c)).toInt * rwT T1 k r u + (-(T1 (4 * r + c)).toInt) * rwT T1 k rk u := fun r u h1 h2 => by
    unfold rwT
    rw [← isum_mul, ← isum_mul, ← isum_add]
    refine isum_ext k (fun j hj => ?_)
    simp only [(i2 r j h1 h2 hj).1]
    grind
  refine ⟨fun r j hr hj => ?_, fun u => ?_, fun r j h1 h2 h3 => ?_, ?_, by omega, by have := h.2.2.2.2.2; omega⟩
  · by_cases q : rk < r
    · exact (i2 r j q hr hj).2
    · rw [e1 r j (by omega) hj]
      have x1 := b1 r j hr hj
      have : B * 1 ≤ B * B := Int.mul_le_mul_of_nonneg_left hB0 (by omega)
      unfold bd at *
      omega
  · rw [h.2.1 u]
    constructor
    · intro w
      have w1 : ∀ r, r < N → rwT T1 k r u = 0 := fun r hr => by
        by_cases q : r = rk
        · rw [q, r1, w p hp2]
        · by_cases q2 : r = p
          · rw [q2, r2, w rk (by omega)]
          · rw [r3 r u q q2, w r hr]
      intro r hr
      by_cases q : rk < r
      · rw [t2 r u q hr, w1 r hr, w1 rk (by omega)]
        simp
      · rw [t1 r u (by omega), w1 r hr]
    · intro w
      have w0 : rwT T1 k rk u = 0 := by rw [← t1 rk u (Nat.le_refl _), w rk (by omega)]
      have w1 : ∀ r, r < N → rwT T1 k r u = 0 := fun r hr => by
        by_cases q : rk < r
        · have := w r hr
          rw [t2 r u q hr, w0, Int.mul_zero, Int.add_zero] at this
          exact (Int.mul_eq_zero.mp this).elim (fun z => absurd z pv) id
        · rw [← t1 r u (by omega), w r hr]
      intro r hr
      by_cases q : r = rk
      · rw [q, ← r2, w1 p hp2]
      · by_cases q2 : r = p
        · rw [q2, ← r1, w1 rk (by omega)]
        · rw [← r3 r u q q2, w1 r hr]
  · by_cases q : j = c
    · rw [q, (i2 r c (by omega) h2 hck).1, Int.mul_comm]
      omega
    · have z1 : ∀ r, rk ≤ r → r < N → (T1 (4 * r + j)).toInt = 0 := fun r hr1 hr2 => by
        by_cases q1 : r = rk
        · rw [q1, s1 j (by omega)]
          exact h.2.2.1 p j hp1 hp2 (by omega)
        · by_cases q2 : r = p
          · rw [q2, s2 j (by omega)]
            exact h.2.2.1 rk j (Nat.le_refl _) (by omega) (by omega)
          · rw [s3 r j q1 q2 (by omega)]
            exact h.2.2.1 r j hr1 hr2 (by omega)
      rw [(i2 r j (by omega) h2 (by omega)).1, z1 r (by omega) h2, z1 rk (Nat.le_refl _) (by omega)]
      simp
  · obtain ⟨q, h1, h2, h3⟩ := h.2.2.2.1
    have hq16 : q < 16 := Nat.lt_of_lt_of_le h1 (Nat.pow_le_pow_right (n := 2) (j := 4) (by decide) (by omega))
    obtain ⟨g1, g2, g3⟩ := q_bit c (by omega) q hq16 h1
    refine ⟨q + 2 ^ c, g2, by omega, fun u hu hrw => ?_⟩
    have l0 : rwT T1 k rk u = 0 := by
      rw [← t1 rk u (Nat.le_refl _)]
      exact hrw rk (by omega)
    have lz : ∀ j, j < k → j ≠ c → (T1 (4 * rk + j)).toInt * u j = 0 := fun j hj hne => by
      by_cases q' : j < c
      · rw [s1 j hj, h.2.2.1 p j hp1 hp2 q', Int.zero_mul]
      · have : u j = 0 := hu j hj (by
          rw [g3 j (by omega), q_lt c (by omega) q hq16 h1 j (by omega) (by omega), decide_eq_false hne]
          rfl)
        rw [this, Int.mul_zero]
    have uc : u c = 0 := by
      have : rwT T1 k rk u = (T1 (4 * rk + c)).toInt * u c := by
        obtain ⟨k', rfl⟩ : ∃ m, k = m + 1 := ⟨k - 1, by omega⟩
        unfold rwT
        rw [isum_skp _ k' c hck, isum_z, Int.add_zero]
        intro j hj
        refine lz (skp c j) ?_ ?_
        · unfold skp
          split <;> omega
        · unfold skp
          split <;> omega
      rw [this] at l0
      exact (Int.mul_eq_zero.mp l0).elim (fun z => absurd z pv) id
    refine h3 u (fun j hj hb => ?_) (fun i hi => ?_)
    · by_cases e : j = c
      · rw [e, uc]
      · exact hu j hj (by rw [g3 j (by omega), hb, decide_eq_false e]; rfl)
    · rw [← r3 i u (by omega) (by omega), ← t1 i u (by omega)]
      exact hrw i (by omega)
