/-! Euclid's steps: the class's, at most a hundred, and the reference's, as many as it takes. -/
theorem half_mod {b r : Nat} (h : r < b) (h0 : 0 < r) : 2 * (b % r) < b := by
  have h1 := Nat.mod_lt b h0
  have h2 := Nat.div_add_mod b r
  have h3 : 1 ≤ b / r := Nat.div_pos (Nat.le_of_lt h) h0
  have h4 : r * 1 ≤ r * (b / r) := Nat.mul_le_mul_left r h3
  omega
def euN : Nat → Nat → Nat → Nat
  | 0, a, _ => a
  | n + 1, a, b => if b = 0 then a else euN n b (a % b)
theorem euN_gcd : ∀ (k n a b : Nat), b < 2 ^ k → 2 * k + 1 ≤ n → euN n a b = Nat.gcd a b := by
  intro k
  induction k with
  | zero =>
    intro n a b hb hn
    obtain ⟨m, rfl⟩ : ∃ m, n = m + 1 := ⟨n - 1, by omega⟩
    have : b = 0 := by omega
    subst this
    rw [euN, if_pos rfl, Nat.gcd_zero_right]
  | succ k ih =>
    intro n a b hb hn
    obtain ⟨m, rfl⟩ : ∃ m, n = m + 1 + 1 := ⟨n - 2, by omega⟩
    rw [euN]
    by_cases h0 : b = 0
    · subst h0
      rw [if_pos rfl, Nat.gcd_zero_right]
    · rw [if_neg h0, euN]
      have hr := Nat.mod_lt a (Nat.pos_of_ne_zero h0)
      have e1 : Nat.gcd a b = Nat.gcd (a % b) b := by rw [Nat.gcd_comm a b, Nat.gcd_rec b a]
      by_cases h1 : a % b = 0
      · rw [if_pos h1, e1, h1, Nat.gcd_zero_left]
      · rw [if_neg h1]
        have h2 := half_mod hr (Nat.pos_of_ne_zero h1)
        have e2 : Nat.gcd (a % b) b = Nat.gcd (b % (a % b)) (a % b) := Nat.gcd_rec (a % b) b
        rw [ih m (a % b) (b % (a % b)) (by rw [Nat.pow_succ] at hb; omega) (by omega), e1, e2, Nat.gcd_comm]
theorem lN_0 : lN 0 = 0 := rfl
theorem lN_z {b : Nat} (h : b < 2 ^ 63) : lN b = 0 ↔ b = 0 := pk_lEQ (b := 0) h (by decide)
theorem eu_lN : ∀ (n a b : Nat), a < 2 ^ 63 → b < 2 ^ 63 → eu n (lN a) (lN b) = lN (euN n a b) := by
  intro n
  induction n with
  | zero => intro a b _ _; rfl
  | succ n ih =>
    intro a b ha hb
    rw [eu, euN]
    by_cases h0 : b = 0
    · rw [if_pos ((lN_z hb).mpr h0), if_pos h0]
    · rw [if_neg (fun q => h0 ((lN_z hb).mp q)), if_neg h0, pk_lRem ha (Nat.pos_of_ne_zero h0) hb]
      have := Nat.mod_lt a (Nat.pos_of_ne_zero h0)
      exact ih b (a % b) hb (by omega)
theorem common_gcd (fu : Nat) (v0 v2 : Int64) : ∀ (k n a b : Nat), a < 2 ^ 63 → b < 2 ^ 63 → b < 2 ^ k → 2 * k + 1 ≤ n → lX11_common_28 fu v0 v2 n (lN a) (lN b) = some (lN (Nat.gcd a b)) := by
  intro k
  induction k with
  | zero =>
    intro n a b ha hb63 hb hn
    obtain ⟨m, rfl⟩ : ∃ m, n = m + 1 := ⟨n - 1, by omega⟩
    have : b = 0 := by omega
    subst this
    rw [lX11_common_28, if_pos lN_0, Nat.gcd_zero_right]
  | succ k ih =>
    intro n a b ha hb63 hb hn
    obtain ⟨m, rfl⟩ : ∃ m, n = m + 1 + 1 := ⟨n - 2, by omega⟩
    rw [lX11_common_28]
    by_cases h0 : b = 0
    · subst h0
      rw [if_pos lN_0, Nat.gcd_zero_right]
    · have h0' : ¬ lN b = 0 := fun q => h0 ((lN_z hb63).mp q)
      have hr := Nat.mod_lt a (Nat.pos_of_ne_zero h0)
      have hr63 : a % b < 2 ^ 63 := by omega
      rw [if_neg h0', if_neg h0', pk_lRem ha (Nat.pos_of_ne_zero h0) hb63, lX11_common_28]
      have e1 : Nat.gcd a b = Nat.gcd (a % b) b := by rw [Nat.gcd_comm a b, Nat.gcd_rec b a]
      by_cases h1 : a % b = 0
      · rw [h1, if_pos lN_0, e1, h1, Nat.gcd_zero_left]
      · have h1' : ¬ lN (a % b) = 0 := fun q => h1 ((lN_z hr63).mp q)
        have h2 := half_mod hr (Nat.pos_of_ne_zero h1)
        have e2 : Nat.gcd (a % b) b = Nat.gcd (b % (a % b)) (a % b) := Nat.gcd_rec (a % b) b
        rw [if_neg h1', if_neg h1', pk_lRem hb63 (Nat.pos_of_ne_zero h1) hr63]
        rw [ih m (a % b) (b % (a % b)) hr63 (by omega) (by rw [Nat.pow_succ] at hb; omega) (by omega), e1, e2, Nat.gcd_comm]
/-- a number but the least one, without its sign -/
theorem abs_lN {a : Int64} (h : -(2 : Int) ^ 63 < a.toInt) : ∃ n : Nat, n < 2 ^ 63 ∧ (n : Int) = a.toInt.natAbs ∧ (if 0 ≤ a then a else -a) = lN n := by
  have h2 : a.toInt < 2 ^ 63 := Int64.toInt_lt a
  have z : (0 : Int64).toInt = 0 := rfl
  refine ⟨a.toInt.natAbs, by omega, rfl, ?_⟩
  by_cases h0 : 0 ≤ a
  · rw [if_pos h0]
    rw [i64_le, z] at h0
    rw [i64_eq, pk_lT (by omega)]
    omega
  · rw [if_neg h0]
    rw [i64_le, z] at h0
    rw [i64_eq, pk_lT (by omega), Int64.toInt_neg]
    rw [Int.bmod_def]
    omega
theorem div_one64 (x : Int64) : x / 1 = x := by simp
theorem part_lows {fu : Nat} (hfu : 80 ≤ fu) {a b : Int64} (ha : -(2 : Int) ^ 63 < a.toInt) (hb : 0 < b.toInt) (hb2 : b.toInt < 2 ^ 35) (t : Bool) : fX11_part fu a b t = some (lows a b t) := by
  obtain ⟨n, n1, n2, n3⟩ := abs_lN ha
  obtain ⟨u, u1, rfl⟩ : ∃ u : Nat, u < 2 ^ 63 ∧ b = lN u := pk_lOf (fun q => by rw [i64_lt] at q; have z : (0 : Int64).toInt = 0 := rfl; omega)
  rw [pk_lT u1] at hb hb2
  have hu : u < 2 ^ 35 := by omega
  have hb0 : (0 : Int64) ≤ lN u := by rw [i64_le, pk_lT u1]; have z : (0 : Int64).toInt = 0 := rfl; omega
  have hc : fX11_common fu a (lN u) = some (lN (Nat.gcd n u)) := by
    unfold fX11_common
    by_cases h0 : (0 : Int64) ≤ a
    · rw [if_pos h0, if_pos hb0]
      rw [if_pos h0] at n3
      have := common_gcd fu a (lN u) 35 fu n u n1 u1 hu (by omega)
      rw [← n3] at this
      exact this
    · rw [if_neg h0, if_pos hb0]
      rw [if_neg h0] at n3
      have := common_gcd fu a (lN u) 35 fu n u n1 u1 hu (by omega)
      rw [← n3] at this
      exact this
  have hg1 : 0 < Nat.gcd n u := Nat.gcd_pos_of_pos_right n (by omega)
  have hg2 : Nat.gcd n u ≤ u := Nat.gcd_le_right n (by omega)
  have hg63 : Nat.gcd n u < 2 ^ 63 := by omega
  have hg0 : ¬ lN (Nat.gcd n u) = 0 := fun q => by
    have := (lN_z hg63).mp q
    omega
  have he : eu 100 (absL a) (lN u) = lN (Nat.gcd n u) := by
    rw [absL, n3, eu_lN 100 n u n1 u1, euN_gcd 35 100 n u hu (by omega)]
  unfold fX11_part lows
  rw [hc, he, Option.bind_some]
  by_cases hle : lN (Nat.gcd n u) ≤ 1
  · have h1 : Nat.gcd n u = 1 := by
      rw [i64_le, pk_lT hg63] at hle
      have z : (1 : Int64).toInt = 1 := rfl
      omega
    have e1 : lN 1 = 1 := rfl
    have h10 : ¬ (1 : Int64) = 0 := by decide
    rw [if_pos hle, h1, e1]
    cases t
    · show (if (1 : Int64) = 0 then none else some (a / 1)) = some a
      rw [if_neg h10, div_one64]
    · show (if (1 : Int64) = 0 then none else some (lN u / 1)) = some (lN u)
      rw [if_neg h10, div_one64]
  · rw [if_neg hle, if_neg hg0, if_neg hg0]
    cases t <;> rfl
