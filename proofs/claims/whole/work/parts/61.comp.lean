/-! comparing fractions -/
theorem rest_eq {a b : Int64} (hb : ¬ b = 0) : a - fdv a b * b = fmd a b := by
  unfold fdv fmd
  by_cases s : 0 ≤ a ^^^ b
  · rw [if_pos s, if_pos s]
  · rw [if_neg s, if_neg s]
    by_cases q : a / b * b = a
    · have q' : a - a / b * b = 0 := by rw [q]; simp
      rw [if_pos q, if_pos q']
    · have q' : ¬ a - a / b * b = 0 := fun w => q (by
        have : a = a / b * b := by grind
        exact this.symm)
      rw [if_neg q, if_neg q']
      grind
theorem xor_sign {a b : Int64} (hb : 0 < b.toInt) : 0 ≤ a ^^^ b ↔ 0 ≤ a.toInt := by
  have z : (0 : Int64).toInt = 0 := rfl
  rw [i64_le, z]
  have h1 : (a ^^^ b).toBitVec.msb = (a.toBitVec.msb ^^ b.toBitVec.msb) := BitVec.msb_xor
  have h2 : b.toBitVec.msb = false := by
    rw [BitVec.msb_eq_toInt]
    exact decide_eq_false (show ¬ b.toInt < 0 by omega)
  rw [h2, Bool.xor_false, BitVec.msb_eq_toInt, BitVec.msb_eq_toInt] at h1
  have h3 : decide ((a ^^^ b).toInt < 0) = decide (a.toInt < 0) := h1
  have h4 := decide_eq_decide.mp h3
  omega
theorem tm_bd (a : Int) {b : Int} (hb : 0 < b) : -b < a.tmod b ∧ a.tmod b < b := by
  have h : (a.tmod b).natAbs < b.natAbs := by
    rw [Int.natAbs_tmod]
    exact Nat.mod_lt _ (by omega)
  omega
theorem remL_toInt {a b : Int64} (hb : 0 < b.toInt) : (a - a / b * b).toInt = a.toInt.tmod b.toInt := by
  have ha1 : -(2 : Int) ^ 63 ≤ a.toInt := Int64.le_toInt a
  have ha2 : a.toInt < (2 : Int) ^ 63 := Int64.toInt_lt a
  have hb2 : b.toInt < (2 : Int) ^ 63 := Int64.toInt_lt b
  obtain ⟨q2, q1⟩ := tm_bd a.toInt hb
  have q3 := Int.mul_tdiv_add_tmod a.toInt b.toInt
  have hq : (a / b).toInt = a.toInt.tdiv b.toInt := by
    rw [Int64.toInt_div]
    have n1 := Int.natAbs_tdiv_le_natAbs a.toInt b.toInt
    by_cases p : 0 ≤ a.toInt
    · exact bmod64 (by omega) (by omega)
    · have n2 : a.toInt.tdiv b.toInt ≤ 0 := by
        by_cases w : a.toInt.tdiv b.toInt ≤ 0
        · exact w
        · have : b.toInt * 1 ≤ b.toInt * a.toInt.tdiv b.toInt := Int.mul_le_mul_of_nonneg_left (by omega) (by omega)
          omega
      exact bmod64 (by omega) (by omega)
  have e : a - a / b * b = Int64.ofInt (a.toInt - a.toInt.tdiv b.toInt * b.toInt) := by
    rw [Int64.ofInt_sub, Int64.ofInt_mul, Int64.ofInt_toInt, Int64.ofInt_toInt, ← hq, Int64.ofInt_toInt]
  have e2 : a.toInt - a.toInt.tdiv b.toInt * b.toInt = a.toInt.tmod b.toInt := by
    rw [Int.mul_comm]
    omega
  rw [e, e2, Int64.toInt_ofInt_of_le (by omega) (by omega)]
theorem fmd_toInt {a b : Int64} (hb : 0 < b.toInt) : (fmd a b).toInt = a.toInt % b.toInt := by
  have hr := remL_toInt (a := a) hb
  have hb2 : b.toInt < (2 : Int) ^ 63 := Int64.toInt_lt b
  obtain ⟨q2, q1⟩ := tm_bd a.toInt hb
  have z : (0 : Int64).toInt = 0 := rfl
  unfold fmd
  by_cases s : 0 ≤ a.toInt
  · rw [if_pos ((xor_sign hb).mpr s), hr, Int.tmod_eq_emod_of_nonneg s]
  · rw [if_neg (fun q => s ((xor_sign hb).mp q))]
    have hn : a.toInt.tmod b.toInt = -((-a.toInt) % b.toInt) := by
      have := Int.neg_tmod (-a.toInt) b.toInt
      rw [Int.neg_neg, Int.tmod_eq_emod_of_nonneg (a := -a.toInt) (by omega)] at this
      exact this
    have m1 := Int.emod_nonneg (-a.toInt) (show b.toInt ≠ 0 by omega)
    have m2 := Int.emod_lt_of_pos (-a.toInt) hb
    have d1 := Int.mul_ediv_add_emod (-a.toInt) b.toInt
    by_cases w : a - a / b * b = 0
    · rw [if_pos w, hr]
      rw [i64_eq, hr, z] at w
      rw [w]
      have hz : (-a.toInt) % b.toInt = 0 := by omega
      have : a.toInt = b.toInt * (-((-a.toInt) / b.toInt)) := by rw [Int.mul_neg]; omega
      rw [this, Int.mul_emod_right]
    · rw [if_neg w]
      rw [i64_eq, hr, z] at w
      rw [Int64.toInt_add, hr, bmod64 (by omega) (by omega)]
      have : a.toInt = (a.toInt.tmod b.toInt + b.toInt) + b.toInt * (-((-a.toInt) / b.toInt) - 1) := by
        rw [Int.mul_sub, Int.mul_neg]
        omega
      have h3 : a.toInt % b.toInt = (a.toInt.tmod b.toInt + b.toInt) % b.toInt := by
        conv => lhs; rw [this]
        rw [Int.add_mul_emod_self_left]
      rw [h3, Int.emod_eq_of_lt (by omega) (by omega)]
theorem cmp_step {fu : Nat} {p0 p1 p2 p3 a b c d : Int64} (hb : 0 < b.toInt) (hd : 0 < d.toInt) : (∃ v, (∀ n, ordr (n + 1) a b c d = v) ∧ (∀ j, lX11_compare_14 fu p0 p1 p2 p3 (j + 1) a b c d = some v)) ∨ (0 < (fmd a b).toInt ∧ 0 < (fmd c d).toInt ∧ (∀ n, ordr (n + 1) a b c d = ordr n d (fmd c d) b (fmd a b)) ∧ (∀ j, lX11_compare_14 fu p0 p1 p2 p3 (j + 1) a b c d = lX11_compare_14 fu p0 p1 p2 p3 j d (fmd c d) b (fmd a b))) := by
  have z : (0 : Int64).toInt = 0 := rfl
  have b0 : ¬ b = 0 := fun q => by rw [q] at hb; omega
  have d0 : ¬ d = 0 := fun q => by rw [q] at hd; omega
  have b1 : ¬ b ≤ 0 := by rw [i64_le]; omega
  have d1 : ¬ d ≤ 0 := by rw [i64_le]; omega
  have ra := fmd_toInt (a := a) hb
  have rc := fmd_toInt (a := c) hd
  have ra1 := Int.emod_nonneg a.toInt (show b.toInt ≠ 0 by omega)
  have rc1 := Int.emod_nonneg c.toInt (show d.toInt ≠ 0 by omega)
  have eo : ∀ n, ordr (n + 1) a b c d = if fdv a b = fdv c d then (if fmd a b = 0 then cmpL (fmd a b) (fmd c d) else if fmd c d = 0 then cmpL (fmd a b) (fmd c d) else ordr n d (fmd c d) b (fmd a b)) else cmpL (fdv a b) (fdv c d) := fun n => by
    rw [ordr, if_neg b1, if_neg d1, rest_eq b0, rest_eq d0]
  have er : ∀ j, lX11_compare_14 fu p0 p1 p2 p3 (j + 1) a b c d = if fdv a b = fdv c d then (if fmd a b = 0 then jX11_compare_86 fu p0 p1 p2 p3 (fmd a b) (fmd c d) else if fmd c d = 0 then jX11_compare_86 fu p0 p1 p2 p3 (fmd a b) (fmd c d) else lX11_compare_14 fu p0 p1 p2 p3 j d (fmd c d) b (fmd a b)) else (if fdv c d ≤ fdv a b then some 1 else some (-1)) := fun j => by
    rw [lX11_compare_14, fJ9_floorDiv_f86c9, fJ9_floorDiv_f86c9, fJ9_floorMod_f86c9, fJ9_floorMod_f86c9, if_pos b0, if_pos d0, if_pos b0, if_pos d0]
    rfl
  have ej : fmd a b = 0 ∨ fmd c d = 0 → jX11_compare_86 fu p0 p1 p2 p3 (fmd a b) (fmd c d) = some (cmpL (fmd a b) (fmd c d)) := fun hz => by
    unfold jX11_compare_86 cmpL
    by_cases e : fmd a b = fmd c d
    · rw [if_pos e, if_pos (show fmd c d ≤ fmd a b by rw [e, i64_le]; omega), if_pos e]
    · rw [if_neg e]
      by_cases e0 : fmd a b = 0
      · have hn : ¬ fmd c d ≤ fmd a b := by
          rw [i64_le, e0, z]
          have : (fmd c d).toInt ≠ 0 := fun q => e (by rw [i64_eq, e0, z, q])
          omega
        rw [if_pos e0, if_neg hn]
      · have hy : fmd c d ≤ fmd a b := by
          rw [i64_le, hz.resolve_left e0, z]
          omega
        rw [if_neg e0, if_pos hy, if_neg e]
  by_cases f : fdv a b = fdv c d
  · by_cases e1 : fmd a b = 0
    · refine Or.inl ⟨cmpL (fmd a b) (fmd c d), fun n => ?_, fun j => ?_⟩
      · rw [eo, if_pos f, if_pos e1]
      · rw [er, if_pos f, if_pos e1, ej (Or.inl e1)]
    · by_cases e2 : fmd c d = 0
      · refine Or.inl ⟨cmpL (fmd a b) (fmd c d), fun n => ?_, fun j => ?_⟩
        · rw [eo, if_pos f, if_neg e1, if_pos e2]
        · rw [er, if_pos f, if_neg e1, if_pos e2, ej (Or.inr e2)]
      · refine Or.inr ⟨?_, ?_, fun n => ?_, fun j => ?_⟩
        · have : (fmd a b).toInt ≠ 0 := fun q => e1 (by rw [i64_eq, z, q])
          omega
        · have : (fmd c d).toInt ≠ 0 := fun q => e2 (by rw [i64_eq, z, q])
          omega
        · rw [eo, if_pos f, if_neg e1, if_neg e2]
        · rw [er, if_pos f, if_neg e1, if_neg e2]
  · refine Or.inl ⟨cmpL (fdv a b) (fdv c d), fun n => ?_, fun j => ?_⟩
    · rw [eo, if_neg f]
    · rw [er, if_neg f, cmpL]
      by_cases l : fdv c d ≤ fdv a b
      · rw [if_pos l, if_pos l, if_neg f]
      · rw [if_neg l, if_neg l]
theorem cmp_eq {fu : Nat} {p0 p1 p2 p3 : Int64} : ∀ (k n j : Nat) (a b c d : Int64), 0 < b.toInt → b.toInt < 2 ^ k → 0 < d.toInt → 2 * k + 2 ≤ n → 2 * k + 2 ≤ j → lX11_compare_14 fu p0 p1 p2 p3 j a b c d = some (ordr n a b c d) := by
  intro k
  induction k with
  | zero => intro n j a b c d h1 h2; exact absurd h2 (by simp; omega)
  | succ k ih =>
    intro n j a b c d hb hb2 hd hn hj
    obtain ⟨n, rfl⟩ : ∃ m, n = m + 1 + 1 := ⟨n - 2, by omega⟩
    obtain ⟨j, rfl⟩ : ∃ m, j = m + 1 + 1 := ⟨j - 2, by omega⟩
    rcases cmp_step (fu := fu) (p0 := p0) (p1 := p1) (p2 := p2) (p3 := p3) (a := a) (c := c) hb hd with ⟨v, v1, v2⟩ | ⟨l0, r0, s1, s2⟩
    · rw [v1, v2]
    · rw [s1, s2]
      rcases cmp_step (fu := fu) (p0 := p0) (p1 := p1) (p2 := p2) (p3 := p3) (a := d) (c := b) r0 l0 with ⟨v, v1, v2⟩ | ⟨l1, r1, w1, w2⟩
      · rw [v1, v2]
      · rw [w1, w2]
        refine ih n j _ _ _ _ r1 ?_ l1 (by omega) (by omega)
        have e1 := fmd_toInt (a := b) l0
        have e2 := fmd_toInt (a := a) hb
        have m1 := Int.emod_lt_of_pos a.toInt hb
        have hm := half_mod (b := b.toInt.toNat) (r := (fmd a b).toInt.toNat) (by omega) (by omega)
        have h3 : (b.toInt % (fmd a b).toInt).toNat = b.toInt.toNat % (fmd a b).toInt.toNat := by
          have : ((b.toInt.toNat % (fmd a b).toInt.toNat : Nat) : Int) = b.toInt % (fmd a b).toInt := by
            rw [Int.natCast_emod, Int.toNat_of_nonneg (by omega), Int.toNat_of_nonneg (by omega)]
          omega
        have h4 := Int.emod_nonneg b.toInt (show (fmd a b).toInt ≠ 0 by omega)
        rw [e1]
        have h5 : (2 : Int) ^ (k + 1) = 2 * 2 ^ k := by rw [Int.pow_succ]; omega
        omega
