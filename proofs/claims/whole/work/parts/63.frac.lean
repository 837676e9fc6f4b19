/-! a told fraction -/
theorem low_parts {ab bl : Int64} (hab : -(2 : Int) ^ 63 < ab.toInt) (hb : 0 < bl.toInt) (hb2 : bl.toInt < 2 ^ 35) : ∃ g : Nat, 0 < g ∧ (lows ab bl false).toInt * g = ab.toInt ∧ (lows ab bl true).toInt * g = bl.toInt ∧ Nat.gcd (lows ab bl false).toInt.natAbs (lows ab bl true).toInt.natAbs = 1 := by
  obtain ⟨n, n1, n2, n3⟩ := abs_lN hab
  obtain ⟨u, u1, rfl⟩ : ∃ u : Nat, u < 2 ^ 63 ∧ bl = lN u := pk_lOf (fun q => by rw [i64_lt] at q; have z : (0 : Int64).toInt = 0 := rfl; omega)
  rw [pk_lT u1] at hb hb2
  have hu : u < 2 ^ 35 := by omega
  have hg1 : 0 < Nat.gcd n u := Nat.gcd_pos_of_pos_right n (by omega)
  have hg2 : Nat.gcd n u ≤ u := Nat.gcd_le_right n (by omega)
  have hg63 : Nat.gcd n u < 2 ^ 63 := by omega
  have he : eu 100 (absL ab) (lN u) = lN (Nat.gcd n u) := by
    rw [absL, n3, eu_lN 100 n u n1 u1, euN_gcd 35 100 n u hu (by omega)]
  -- both parts, whether or not they are divided
  have hval : ∀ t : Bool, lows ab (lN u) t = (if t then lN u else ab) / lN (Nat.gcd n u) := fun t => by
    unfold lows
    rw [he]
    by_cases hle : lN (Nat.gcd n u) ≤ 1
    · have h1 : Nat.gcd n u = 1 := by
        rw [i64_le, pk_lT hg63] at hle
        have z : (1 : Int64).toInt = 1 := rfl
        omega
      rw [if_pos hle, h1, show lN 1 = 1 from rfl, div_one64]
    · rw [if_neg hle]
  have hgi : (lN (Nat.gcd n u)).toInt = ((Nat.gcd n u : Nat) : Int) := pk_lT hg63
  have hpos : 0 < (lN (Nat.gcd n u)).toInt := by rw [hgi]; omega
  have d1 : (Nat.gcd n u : Int) ∣ ab.toInt := by
    have : Nat.gcd n u ∣ ab.toInt.natAbs := by
      have e : n = ab.toInt.natAbs := by omega
      rw [← e]
      exact Nat.gcd_dvd_left n u
    exact Int.ofNat_dvd_left.mpr this
  have d2 : (Nat.gcd n u : Int) ∣ (u : Int) := Int.natCast_dvd_natCast.mpr (Nat.gcd_dvd_right n u)
  have v1 : (lows ab (lN u) false).toInt = ab.toInt.tdiv (Nat.gcd n u) := by
    rw [hval, divL_toInt hpos, hgi]
    rfl
  have v2 : (lows ab (lN u) true).toInt = (u : Int).tdiv (Nat.gcd n u) := by
    rw [hval, divL_toInt hpos, hgi]
    show (lN u).toInt.tdiv _ = _
    rw [pk_lT u1]
  refine ⟨Nat.gcd n u, hg1, ?_, ?_, ?_⟩
  · rw [v1]
    exact Int.tdiv_mul_cancel d1
  · rw [v2, pk_lT u1]
    exact Int.tdiv_mul_cancel d2
  · rw [v1, v2, Int.natAbs_tdiv, Int.natAbs_tdiv]
    have e : ab.toInt.natAbs = n := by omega
    rw [e]
    show Nat.gcd (n / Nat.gcd n u) (u / Nat.gcd n u) = 1
    rw [Nat.gcd_div (Nat.gcd_dvd_left n u) (Nat.gcd_dvd_right n u), Nat.div_self hg1]
theorem frac_eq {fu : Nat} (v w : Int32) {ab bl : Int64} (hab : -(2 : Int) ^ 63 < ab.toInt) (hb : 0 < bl.toInt) (hb2 : bl.toInt < 2 ^ 35) : fX11_isFraction fu v w (lows ab bl false) (lows ab bl true) = some (decide (w.toInt ≠ 0 ∧ v.toInt * bl.toInt = ab.toInt * w.toInt)) := by
  obtain ⟨g, g0, e1, e2, e3⟩ := low_parts hab hb hb2
  generalize lows ab bl false = a at *
  generalize lows ab bl true = b at *
  have hgp : (0 : Int) < g := by omega
  have hbp : 0 < b.toInt := by
    by_cases q : 0 < b.toInt
    · exact q
    · have : b.toInt * g ≤ 0 * g := Int.mul_le_mul_of_nonneg_right (by omega) (by omega)
      omega
  have b0 : ¬ b = 0 := fun q => by
    rw [q] at hbp
    exact absurd hbp (by decide)
  have z : (0 : Int64).toInt = 0 := rfl
  have z2 : (0 : Int32).toInt = 0 := rfl
  -- the common factor goes out
  have hc : v.toInt * bl.toInt = ab.toInt * w.toInt ↔ v.toInt * b.toInt = a.toInt * w.toInt := by
    rw [← e1, ← e2]
    constructor
    · intro q
      have : (g : Int) * (v.toInt * b.toInt) = g * (a.toInt * w.toInt) := by grind
      exact Int.eq_of_mul_eq_mul_left (by omega) this
    · intro q
      grind
  have hv1 : -(2 : Int) ^ 31 ≤ v.toInt := Int32.le_toInt v
  have hv2 : v.toInt < (2 : Int) ^ 31 := Int32.toInt_lt v
  have hw1 : -(2 : Int) ^ 31 ≤ w.toInt := Int32.le_toInt w
  have hw2 : w.toInt < (2 : Int) ^ 31 := Int32.toInt_lt w
  unfold fX11_isFraction
  by_cases w0 : w = 0
  · rw [if_pos w0, w0, z2]
    rw [decide_eq_false (fun q => q.1 rfl)]
  · have wn : w.toInt ≠ 0 := fun q => w0 (by rw [i32_eq, z2, q])
    rw [if_neg w0, if_neg b0, if_neg b0]
    have hr := remL_toInt (a := w.toInt64) hbp
    have hq := divL_toInt (a := w.toInt64) hbp
    rw [Int32.toInt_toInt64] at hr hq
    by_cases r : w.toInt64 - w.toInt64 / b * b = 0
    · rw [if_pos r]
      rw [i64_eq, hr, z] at r
      have ht := Int.mul_tdiv_add_tmod w.toInt b.toInt
      rw [r, Int.add_zero] at ht
      generalize w.toInt.tdiv b.toInt = t at *
      have tn : t ≠ 0 := fun q => wn (by rw [← ht, q, Int.mul_zero])
      have hvt : v.toInt * b.toInt = a.toInt * w.toInt ↔ a.toInt * t = v.toInt := by
        rw [← ht]
        constructor
        · intro q
          have : b.toInt * (a.toInt * t) = b.toInt * v.toInt := by grind
          exact Int.eq_of_mul_eq_mul_left (by omega) this
        · intro q
          rw [← q]
          grind
      have habs : a.toInt * t = v.toInt → a.toInt.natAbs ≤ v.toInt.natAbs := fun q => by
        rw [← q, Int.natAbs_mul]
        exact Nat.le_mul_of_pos_right _ (by omega)
      have c1 : (2147483648 : Int64).toInt = 2147483648 := by decide +kernel
      have c2 : (-2147483648 : Int64).toInt = -2147483648 := by decide +kernel
      by_cases l1 : (2147483648 : Int64) < a
      · rw [if_pos l1]
        rw [i64_lt, c1] at l1
        rw [decide_eq_false (fun q => by
          have := habs (hvt.mp (hc.mp q.2))
          omega)]
      · rw [if_neg l1]
        by_cases l2 : a < (-2147483648 : Int64)
        · rw [if_pos l2]
          rw [i64_lt, c2] at l2
          rw [decide_eq_false (fun q => by
            have := habs (hvt.mp (hc.mp q.2))
            omega)]
        · rw [if_neg l2]
          rw [i64_lt, c1] at l1
          rw [i64_lt, c2] at l2
          have ht2 : -(2 : Int) ^ 31 ≤ t ∧ t ≤ 2 ^ 31 := by
            have : t.natAbs ≤ w.toInt.natAbs := by
              rw [← ht, Int.natAbs_mul]
              exact Nat.le_mul_of_pos_left _ (by omega)
            omega
          obtain ⟨m1, m2⟩ := abs_mul_le (x := a.toInt) (y := t) (A := 2 ^ 31) (B := 2 ^ 31) (by omega) (by omega) ht2.1 ht2.2
          have hm : (a * (w.toInt64 / b)).toInt = a.toInt * t := by
            rw [Int64.toInt_mul, hq, bmod64 (by omega) (by omega)]
          by_cases l3 : a * (w.toInt64 / b) = v.toInt64
          · rw [if_pos l3]
            rw [i64_eq, hm, Int32.toInt_toInt64] at l3
            rw [decide_eq_true ⟨wn, hc.mpr (hvt.mpr l3)⟩]
          · rw [if_neg l3]
            rw [i64_eq, hm, Int32.toInt_toInt64] at l3
            rw [decide_eq_false (fun q => l3 (hvt.mp (hc.mp q.2)))]
    · rw [if_neg r]
      rw [i64_eq, hr, z] at r
      rw [decide_eq_false (fun q => r (by
        have h1 := hc.mp q.2
        have h2 : b.toInt.natAbs ∣ a.toInt.natAbs * w.toInt.natAbs := by
          rw [← Int.natAbs_mul, ← h1, Int.natAbs_mul]
          exact Nat.dvd_mul_left _ _
        have h3 : b.toInt.natAbs ∣ w.toInt.natAbs := Nat.Coprime.dvd_of_dvd_mul_left (show Nat.Coprime b.toInt.natAbs a.toInt.natAbs by rw [Nat.Coprime, Nat.gcd_comm]; exact e3) h2
        have h4 : b.toInt ∣ w.toInt := Int.natAbs_dvd_natAbs.mp h3
        exact Int.tmod_eq_zero_of_dvd h4))]
