/-! when two fractions are alike -/
theorem divL_toInt {a b : Int64} (hb : 0 < b.toInt) : (a / b).toInt = a.toInt.tdiv b.toInt := by
  have ha1 : -(2 : Int) ^ 63 ≤ a.toInt := Int64.le_toInt a
  have ha2 : a.toInt < (2 : Int) ^ 63 := Int64.toInt_lt a
  obtain ⟨q2, q1⟩ := tm_bd a.toInt hb
  have q3 := Int.mul_tdiv_add_tmod a.toInt b.toInt
  rw [Int64.toInt_div]
  have n1 := Int.natAbs_tdiv_le_natAbs a.toInt b.toInt
  by_cases p : 0 ≤ a.toInt
  · exact bmod64 (by omega) (by omega)
  · have n2 : a.toInt.tdiv b.toInt ≤ 0 := by
      by_cases w : a.toInt.tdiv b.toInt ≤ 0
      · exact w
      · have : b.toInt * 1 ≤ b.toInt * a.toInt.tdiv b.toInt := Int.mul_le_mul_of_nonneg_left (by omega) (by omega)
        omega
    exact bmod64 (by omega) (by omega)
theorem fdv_mul {a b : Int64} (hb : 0 < b.toInt) : b.toInt * (fdv a b).toInt + (fmd a b).toInt = a.toInt ∧ -(2 : Int) ^ 63 ≤ (fdv a b).toInt := by
  have ha1 : -(2 : Int) ^ 63 ≤ a.toInt := Int64.le_toInt a
  have ha2 : a.toInt < (2 : Int) ^ 63 := Int64.toInt_lt a
  have hq := divL_toInt (a := a) hb
  have hr := remL_toInt (a := a) hb
  have q3 := Int.mul_tdiv_add_tmod a.toInt b.toInt
  have hf := fmd_toInt (a := a) hb
  have d2 := Int.mul_ediv_add_emod a.toInt b.toInt
  have m1 := Int.emod_nonneg a.toInt (show b.toInt ≠ 0 by omega)
  have m2 := Int.emod_lt_of_pos a.toInt hb
  obtain ⟨t2, t1⟩ := tm_bd a.toInt hb
  have z : (0 : Int64).toInt = 0 := rfl
  have hle : -(2 : Int) ^ 63 ≤ (fdv a b).toInt := Int64.le_toInt _
  refine ⟨?_, hle⟩
  have b0 : ¬ b = 0 := fun q => by rw [q] at hb; omega
  have n1 := Int.natAbs_tdiv_le_natAbs a.toInt b.toInt
  have key : (fdv a b).toInt = a.toInt.tdiv b.toInt ∧ (fmd a b).toInt = a.toInt.tmod b.toInt ∨ (fdv a b).toInt = a.toInt.tdiv b.toInt - 1 ∧ (fmd a b).toInt = a.toInt.tmod b.toInt + b.toInt := by
    have hb2 : b.toInt < (2 : Int) ^ 63 := Int64.toInt_lt b
    unfold fdv fmd
    by_cases s : 0 ≤ a ^^^ b
    · rw [if_pos s, if_pos s]
      exact Or.inl ⟨hq, hr⟩
    · rw [if_neg s, if_neg s]
      by_cases w : a / b * b = a
      · have w' : a - a / b * b = 0 := by rw [w]; simp
        rw [if_pos w, if_pos w']
        exact Or.inl ⟨hq, hr⟩
      · have w' : ¬ a - a / b * b = 0 := fun q => w (by
          have : a = a / b * b := by grind
          exact this.symm)
        rw [if_neg w, if_neg w']
        have hneg : ¬ 0 ≤ a.toInt := fun q => s ((xor_sign hb).mpr q)
        have t3 : a.toInt.tmod b.toInt ≤ 0 := by
          have h5 := Int.neg_tmod (-a.toInt) b.toInt
          rw [Int.neg_neg, Int.tmod_eq_emod_of_nonneg (a := -a.toInt) (by omega)] at h5
          have := Int.emod_nonneg (-a.toInt) (show b.toInt ≠ 0 by omega)
          omega
        have hlo : -(2 : Int) ^ 63 < a.toInt.tdiv b.toInt := by
          by_cases e : a.toInt.tdiv b.toInt = -(2 : Int) ^ 63
          · exfalso
            apply w'
            rw [i64_eq, hr, z]
            have hb1 : b.toInt = 1 := by
              have : b.toInt * 2 ^ 63 ≤ 2 ^ 63 + b.toInt := by
                rw [e] at q3
                omega
              omega
            rw [hb1] at t1 t2 ⊢
            omega
          · omega
        refine Or.inr ⟨?_, ?_⟩
        · rw [Int64.toInt_sub, hq, show (1 : Int64).toInt = 1 from rfl, bmod64 (by omega) (by omega)]
        · rw [Int64.toInt_add, hr, bmod64 (by omega) (by omega)]
  rcases key with ⟨k1, k2⟩ | ⟨k1, k2⟩
  · rw [k1, k2]
    exact q3
  · rw [k1, k2, Int.mul_sub]
    omega
/-- the order is 0 just where the fractions are alike -/
theorem ord0 : ∀ (k n : Nat) (a b c d : Int64), 0 < b.toInt → b.toInt < 2 ^ k → 0 < d.toInt → 2 * k + 2 ≤ n → (ordr n a b c d = 0 ↔ a.toInt * d.toInt = c.toInt * b.toInt) := by
  have one : ∀ (n : Nat) (a b c d : Int64), 0 < b.toInt → 0 < d.toInt → (ordr (n + 1) a b c d = 0 ↔ a.toInt * d.toInt = c.toInt * b.toInt) ∨ (0 < (fmd a b).toInt ∧ 0 < (fmd c d).toInt ∧ (fmd a b).toInt < b.toInt ∧ ordr (n + 1) a b c d = ordr n d (fmd c d) b (fmd a b) ∧ (a.toInt * d.toInt = c.toInt * b.toInt ↔ d.toInt * (fmd a b).toInt = b.toInt * (fmd c d).toInt)) := by
    intro n a b c d hb hd
    have z : (0 : Int64).toInt = 0 := rfl
    have b0 : ¬ b = 0 := fun q => by rw [q] at hb; omega
    have d0 : ¬ d = 0 := fun q => by rw [q] at hd; omega
    have b1 : ¬ b ≤ 0 := by rw [i64_le]; omega
    have d1 : ¬ d ≤ 0 := by rw [i64_le]; omega
    have ra := fmd_toInt (a := a) hb
    have rc := fmd_toInt (a := c) hd
    have ra1 := Int.emod_nonneg a.toInt (show b.toInt ≠ 0 by omega)
    have rc1 := Int.emod_nonneg c.toInt (show d.toInt ≠ 0 by omega)
    have ra2 := Int.emod_lt_of_pos a.toInt hb
    have rc2 := Int.emod_lt_of_pos c.toInt hd
    have fa := (fdv_mul (a := a) hb).1
    have fc := (fdv_mul (a := c) hd).1
    have eo : ordr (n + 1) a b c d = if fdv a b = fdv c d then (if fmd a b = 0 then cmpL (fmd a b) (fmd c d) else if fmd c d = 0 then cmpL (fmd a b) (fmd c d) else ordr n d (fmd c d) b (fmd a b)) else cmpL (fdv a b) (fdv c d) := by
      rw [ordr, if_neg b1, if_neg d1, rest_eq b0, rest_eq d0]
    have c0 : ∀ x y : Int64, cmpL x y = 0 ↔ x = y := fun x y => by
      unfold cmpL
      by_cases l : y ≤ x
      · rw [if_pos l]
        by_cases e : x = y
        · rw [if_pos e]; exact ⟨fun _ => e, fun _ => rfl⟩
        · rw [if_neg e]; exact ⟨fun q => absurd q (by decide), fun q => absurd q e⟩
      · rw [if_neg l]
        exact ⟨fun q => absurd q (by decide), fun q => absurd (by rw [q, i64_le]; omega) l⟩
    -- cross products in quotients and rests
    have cross : a.toInt * d.toInt - c.toInt * b.toInt = b.toInt * d.toInt * ((fdv a b).toInt - (fdv c d).toInt) + ((fmd a b).toInt * d.toInt - (fmd c d).toInt * b.toInt) := by
      rw [← fa, ← fc]
      grind
    by_cases f : fdv a b = fdv c d
    · rw [f, Int.sub_self, Int.mul_zero, Int.zero_add] at cross
      by_cases e1 : fmd a b = 0
      · left
        rw [eo, if_pos f, if_pos e1, c0, e1]
        rw [e1, z, Int.zero_mul] at cross
        constructor
        · intro q
          rw [← q, z, Int.zero_mul] at cross
          omega
        · intro q
          have h0 : (fmd c d).toInt * b.toInt = 0 := by omega
          rcases Int.mul_eq_zero.mp h0 with w | w
          · rw [i64_eq, z, w]
          · omega
      · by_cases e2 : fmd c d = 0
        · left
          rw [eo, if_pos f, if_neg e1, if_pos e2, c0, e2]
          rw [e2, z, Int.zero_mul] at cross
          constructor
          · intro q
            exact absurd q e1
          · intro q
            have h0 : (fmd a b).toInt * d.toInt = 0 := by omega
            rcases Int.mul_eq_zero.mp h0 with w | w
            · exact absurd (by rw [i64_eq, z, w]) e1
            · omega
        · right
          have n1 : (fmd a b).toInt ≠ 0 := fun q => e1 (by rw [i64_eq, z, q])
          have n2 : (fmd c d).toInt ≠ 0 := fun q => e2 (by rw [i64_eq, z, q])
          refine ⟨by omega, by omega, by omega, ?_, ?_⟩
          · rw [eo, if_pos f, if_neg e1, if_neg e2]
          · rw [Int.mul_comm d.toInt, Int.mul_comm b.toInt (fmd c d).toInt]
            omega
    · left
      rw [eo, if_neg f, c0]
      have hne : (fdv a b).toInt - (fdv c d).toInt ≠ 0 := fun q => f (by rw [i64_eq]; omega)
      have hB : 0 < b.toInt * d.toInt := Int.mul_pos hb hd
      have hX1 : 0 ≤ (fmd a b).toInt * d.toInt := Int.mul_nonneg (by omega) (by omega)
      have hX2 : (fmd a b).toInt * d.toInt < b.toInt * d.toInt := Int.mul_lt_mul_of_pos_right (by omega) hd
      have hY1 : 0 ≤ (fmd c d).toInt * b.toInt := Int.mul_nonneg (by omega) (by omega)
      have hY2 : (fmd c d).toInt * b.toInt < b.toInt * d.toInt := by
        rw [Int.mul_comm b.toInt d.toInt]
        exact Int.mul_lt_mul_of_pos_right (by omega) hb
      constructor
      · intro q
        exact absurd q f
      · intro q
        exfalso
        by_cases w : 1 ≤ (fdv a b).toInt - (fdv c d).toInt
        · have := Int.mul_le_mul_of_nonneg_left w (Int.le_of_lt hB)
          omega
        · have w2 : (fdv a b).toInt - (fdv c d).toInt ≤ -1 := by omega
          have := Int.mul_le_mul_of_nonneg_left w2 (Int.le_of_lt hB)
          omega
  intro k
  induction k with
  | zero => intro n a b c d h1 h2; exact absurd h2 (by simp; omega)
  | succ k ih =>
    intro n a b c d hb hb2 hd hn
    obtain ⟨n, rfl⟩ : ∃ m, n = m + 1 + 1 := ⟨n - 2, by omega⟩
    rcases one (n + 1) a b c d hb hd with h | ⟨l0, r0, lt, eq, hi⟩
    · exact h
    · rw [eq, hi]
      rcases one n d (fmd c d) b (fmd a b) r0 l0 with h | ⟨l1, r1, lt1, eq1, hi1⟩
      · exact h
      · rw [eq1, hi1]
        have e1 := fmd_toInt (a := b) l0
        have hm := half_mod (b := b.toInt.toNat) (r := (fmd a b).toInt.toNat) (by omega) (by omega)
        have h3 : (b.toInt % (fmd a b).toInt).toNat = b.toInt.toNat % (fmd a b).toInt.toNat := by
          have : ((b.toInt.toNat % (fmd a b).toInt.toNat : Nat) : Int) = b.toInt % (fmd a b).toInt := by
            rw [Int.natCast_emod, Int.toNat_of_nonneg (by omega), Int.toNat_of_nonneg (by omega)]
          omega
        have h4 := Int.emod_nonneg b.toInt (show (fmd a b).toInt ≠ 0 by omega)
        have h5 : (2 : Int) ^ (k + 1) = 2 * 2 ^ k := by rw [Int.pow_succ]; omega
        exact ih n _ _ _ _ r1 (by rw [e1]; omega) l1 (by omega)
