/-! sums -/
def isum : Nat → (Nat → Int) → Int
  | 0, _ => 0
  | n + 1, F => isum n F + F n
theorem isum_ext {F G : Nat → Int} : ∀ n, (∀ r, r < n → F r = G r) → isum n F = isum n G
  | 0, _ => rfl
  | n + 1, h => by rw [isum, isum, isum_ext n (fun r hr => h r (by omega)), h n (by omega)]
theorem isum_0 : ∀ n, isum n (fun _ => 0) = 0
  | 0 => rfl
  | n + 1 => by rw [isum, isum_0 n]; rfl
theorem isum_z {F : Nat → Int} {n : Nat} (h : ∀ r, r < n → F r = 0) : isum n F = 0 := (isum_ext n h).trans (isum_0 n)
theorem isum_add (F G : Nat → Int) : ∀ n, isum n (fun r => F r + G r) = isum n F + isum n G
  | 0 => rfl
  | n + 1 => by rw [isum, isum, isum, isum_add F G n]; omega
theorem isum_mul (a : Int) (F : Nat → Int) : ∀ n, isum n (fun r => a * F r) = a * isum n F
  | 0 => by simp [isum]
  | n + 1 => by rw [isum, isum, isum_mul a F n, Int.mul_add]
theorem isum_comm (F : Nat → Nat → Int) (k : Nat) : ∀ n, isum n (fun r => isum k (fun j => F r j)) = isum k (fun j => isum n (fun r => F r j))
  | 0 => by
    show 0 = isum k (fun _ => 0)
    rw [isum_0]
  | n + 1 => by
    rw [isum, isum_comm F k n, ← isum_add]
    rfl
theorem isum_sq (F : Nat → Int) : ∀ n, 0 ≤ isum n (fun r => F r * F r) ∧ (isum n (fun r => F r * F r) = 0 → ∀ r, r < n → F r = 0)
  | 0 => ⟨Int.le_refl _, fun _ r hr => absurd hr (Nat.not_lt_zero _)⟩
  | n + 1 => by
    obtain ⟨h1, h2⟩ := isum_sq F n
    have h3 : 0 ≤ F n * F n := by
      by_cases q : 0 ≤ F n
      · exact Int.mul_nonneg q q
      · have := Int.mul_nonneg (show 0 ≤ -F n by omega) (show 0 ≤ -F n by omega)
        rw [Int.neg_mul_neg] at this
        exact this
    rw [isum]
    refine ⟨by omega, fun h r hr => ?_⟩
    by_cases q : r = n
    · rw [q]
      exact (Int.mul_eq_zero.mp (show F n * F n = 0 by omega)).elim id id
    · exact h2 (by omega) r (by omega)
/-! Gram's determinants -/
def gA (X : Nat → Nat → Int) (N : Nat) (i j : Nat) : Int := isum N (fun r => X r i * X r j)
theorem gA_v (X : Nat → Nat → Int) (N n i : Nat) (v : Nat → Int) : isum N (fun r => X r i * isum n (fun j => X r j * v j)) = isum n (fun j => gA X N i j * v j) := by
  rw [isum_ext (G := fun r => isum n (fun j => X r i * (X r j * v j))) N (fun r _ => (isum_mul _ _ _).symm), isum_comm]
  refine isum_ext n (fun j _ => ?_)
  rw [gA, Int.mul_comm, ← isum_mul]
  refine isum_ext N (fun r _ => ?_)
  grind
theorem gA_vv (X : Nat → Nat → Int) (N n : Nat) (u v : Nat → Int) : isum N (fun r => isum n (fun j => X r j * u j) * isum n (fun j => X r j * v j)) = isum n (fun i => u i * isum n (fun j => gA X N i j * v j)) := by
  rw [isum_ext (G := fun r => isum n (fun i => u i * (X r i * isum n (fun j => X r j * v j)))) N (fun r _ => ?_), isum_comm]
  · refine isum_ext n (fun i _ => ?_)
    rw [isum_mul, gA_v]
  · rw [Int.mul_comm, ← isum_mul]
    refine isum_ext n (fun i _ => ?_)
    grind
/-- the columns are not independent -/
def Dep (X : Nat → Nat → Int) (N n : Nat) : Prop := ∃ u : Nat → Int, (∃ j, j < n ∧ u j ≠ 0) ∧ ∀ r, r < N → isum n (fun j => X r j * u j) = 0
theorem gram_step {X : Nat → Nat → Int} {N n : Nat} {v : Nat → Int} {D D' : Int} (h0 : 0 ≤ D') (hd : D' = 0 ↔ Dep X N n) (hv : v n = D') (hE : ∀ i, i < n → isum (n + 1) (fun j => gA X N i j * v j) = 0) (hE' : isum (n + 1) (fun j => gA X N n j * v j) = D) : 0 ≤ D ∧ (D = 0 ↔ Dep X N (n + 1)) := by
  have s1 : isum N (fun r => isum (n + 1) (fun j => X r j * v j) * isum (n + 1) (fun j => X r j * v j)) = D' * D := by
    rw [gA_vv, isum, hE', hv, isum_z (fun i hi => by rw [hE i hi, Int.mul_zero]), Int.zero_add]
  have s2 := isum_sq (fun r => isum (n + 1) (fun j => X r j * v j)) N
  simp only [s1] at s2
  have b : D' = 0 → D = 0 := fun q => by
    rw [q, Int.zero_mul] at s2
    rw [← hE', ← gA_v]
    exact isum_z (fun r hr => by rw [s2.2 rfl r hr, Int.mul_zero])
  refine ⟨?_, ?_, ?_⟩
  · by_cases q : D' = 0
    · rw [b q]
      exact Int.le_refl _
    · by_cases w : 0 ≤ D
      · exact w
      · have := Int.mul_pos (show 0 < D' by omega) (show 0 < -D by omega)
        rw [Int.mul_neg] at this
        omega
  · intro q
    by_cases w : D' = 0
    · obtain ⟨u, ⟨j, hj, hu⟩, hr⟩ := hd.mp w
      refine ⟨fun j => if j < n then u j else 0, ⟨j, by omega, by simp only [if_pos hj]; exact hu⟩, fun r hrN => ?_⟩
      rw [isum]
      simp only [if_neg (Nat.lt_irrefl n), Int.mul_zero, Int.add_zero]
      rw [← hr r hrN]
      exact isum_ext n (fun j hj => by simp only [if_pos hj])
    · refine ⟨v, ⟨n, by omega, by rw [hv]; exact w⟩, fun r hr => ?_⟩
      rw [q, Int.mul_zero] at s2
      exact s2.2 rfl r hr
  · rintro ⟨u, ⟨j, hj, hu⟩, hr⟩
    by_cases w : u n = 0
    · refine b (hd.mpr ⟨u, ⟨j, ?_, hu⟩, fun r hrN => ?_⟩)
      · by_cases e : j = n
        · rw [e] at hu
          exact absurd w hu
        · omega
      · have := hr r hrN
        rw [isum, w, Int.mul_zero, Int.add_zero] at this
        exact this
    · have := gA_vv X N (n + 1) u v
      rw [isum, hE', isum_z (n := n) (fun i hi => by rw [hE i hi, Int.mul_zero]), Int.zero_add, isum_z (fun r hrN => by rw [hr r hrN, Int.zero_mul])] at this
      exact (Int.mul_eq_zero.mp this.symm).elim (fun q => absurd q w) id
/-! determinants, as the reference writes them -/
def q2 {R : Type} [Mul R] [Sub R] (a : Nat → Nat → R) (r s c d : Nat) : R := a r c * a s d - a r d * a s c
def q3 {R : Type} [Mul R] [Sub R] [Add R] (a : Nat → Nat → R) (r s t c d e : Nat) : R := a r c * q2 a s t d e - a r d * q2 a s t c e + a r e * q2 a s t c d
def q4 {R : Type} [Mul R] [Sub R] [Add R] (a : Nat → Nat → R) : R := a 0 0 * q3 a 1 2 3 1 2 3 - a 0 1 * q3 a 1 2 3 0 2 3 + a 0 2 * q3 a 1 2 3 0 1 3 - a 0 3 * q3 a 1 2 3 0 1 2
def qn {R : Type} [Mul R] [Sub R] [Add R] (a : Nat → Nat → R) (n : Nat) : R := if n = 1 then a 0 0 else if n = 2 then q2 a 0 1 0 1 else if n = 3 then q3 a 0 1 2 0 1 2 else q4 a
theorem gram (X : Nat → Nat → Int) (N : Nat) : ∀ n, 1 ≤ n → n ≤ 4 → 0 ≤ qn (gA X N) n ∧ (qn (gA X N) n = 0 ↔ Dep X N n) := by
  have sy : ∀ i j, gA X N i j = gA X N j i := fun i j => isum_ext N (fun r _ => Int.mul_comm _ _)
  have c1 : ∀ i, i < 1 → i = 0 := fun i h => by omega
  have c2 : ∀ i, i < 2 → i = 0 ∨ i = 1 := fun i h => by omega
  have c3 : ∀ i, i < 3 → i = 0 ∨ i = 1 ∨ i = 2 := fun i h => by omega
  have k1 : 0 ≤ qn (gA X N) 1 ∧ (qn (gA X N) 1 = 0 ↔ Dep X N 1) := by
    refine gram_step (v := fun _ => 1) (D' := 1) (by decide) (Iff.intro (fun q => absurd q (by decide)) (fun ⟨u, ⟨j, hj, _⟩, _⟩ => absurd hj (Nat.not_lt_zero _))) rfl (fun i hi => absurd hi (Nat.not_lt_zero _)) ?_
    simp only [isum, qn, if_true]
    omega
  have k2 : 0 ≤ qn (gA X N) 2 ∧ (qn (gA X N) 2 = 0 ↔ Dep X N 2) := by
    refine gram_step (v := fun j => if j = 0 then -(gA X N 0 1) else gA X N 0 0) k1.1 k1.2 rfl (fun i hi => ?_) ?_
    · rw [c1 i hi]
      simp [isum]
      grind
    · simp [isum, qn, q2]
      grind
  have k3 : 0 ≤ qn (gA X N) 3 ∧ (qn (gA X N) 3 = 0 ↔ Dep X N 3) := by
    refine gram_step (v := fun j => if j = 0 then q2 (gA X N) 0 1 1 2 else if j = 1 then -(q2 (gA X N) 0 1 0 2) else q2 (gA X N) 0 1 0 1) k2.1 k2.2 rfl (fun i hi => ?_) ?_
    · rcases c2 i hi with rfl | rfl
      · simp [isum, q2]
        grind
      · simp [isum, q2]
        grind
    · simp [isum, qn, q2, q3]
      grind
  have k4 : 0 ≤ qn (gA X N) 4 ∧ (qn (gA X N) 4 = 0 ↔ Dep X N 4) := by
    refine gram_step (v := fun j => if j = 0 then -(q3 (gA X N) 0 1 2 1 2 3) else if j = 1 then q3 (gA X N) 0 1 2 0 2 3 else if j = 2 then -(q3 (gA X N) 0 1 2 0 1 3) else q3 (gA X N) 0 1 2 0 1 2) k3.1 k3.2 rfl (fun i hi => ?_) ?_
    · rcases c3 i hi with rfl | rfl | rfl
      · simp [isum, q2, q3]
        grind
      · simp [isum, q2, q3]
        grind
      · simp [isum, q2, q3]
        grind
    · simp [isum, qn, q2, q3, q4]
      grind
  intro n h1 h2
  have : n = 1 ∨ n = 2 ∨ n = 3 ∨ n = 4 := by omega
  rcases this with rfl | rfl | rfl | rfl
  · exact k1
  · exact k2
  · exact k3
  · exact k4
/-! fewer equations than unknowns -/
def skp (p j : Nat) : Nat := if j < p then j else j + 1
theorem isum_skp (F : Nat → Int) : ∀ k p, p < k + 1 → isum (k + 1) F = F p + isum k (fun j => F (skp p j))
  | 0, p, h => by
    have : p = 0 := by omega
    subst this
    simp [isum]
  | k + 1, p, h => by
    by_cases e : p = k + 1
    · subst e
      rw [isum, Int.add_comm]
      congr 1
      exact isum_ext _ (fun j hj => by rw [skp, if_pos hj])
    · rw [isum, isum_skp F k p (by omega), isum, skp, if_neg (show ¬ k < p by omega)]
      omega
theorem homog : ∀ (r k : Nat) (L : Nat → Nat → Int), r < k → ∃ u : Nat → Int, (∃ j, j < k ∧ u j ≠ 0) ∧ ∀ i, i < r → isum k (fun j => L i j * u j) = 0
  | 0, k, L, h => ⟨fun _ => 1, ⟨0, h, by decide⟩, fun i hi => absurd hi (Nat.not_lt_zero _)⟩
  | r + 1, k, L, h => by
    obtain ⟨k, rfl⟩ : ∃ m, k = m + 1 := ⟨k - 1, by omega⟩
    by_cases q : ∃ p, p < k + 1 ∧ L r p ≠ 0
    · obtain ⟨p, hp, hL⟩ := q
      obtain ⟨u, ⟨j, hj, hu⟩, he⟩ := homog r k (fun i j => L i (skp p j) * L r p - L i p * L r (skp p j)) (by omega)
      obtain ⟨w, hw, hn⟩ : ∃ w : Nat → Int, w p = -(isum k (fun j => L r (skp p j) * u j)) ∧ ∀ t, w (skp p t) = L r p * u t := by
        refine ⟨fun t => if t = p then -(isum k (fun j => L r (skp p j) * u j)) else if t < p then L r p * u t else L r p * u (t - 1), if_pos rfl, fun t => ?_⟩
        show (if skp p t = p then _ else if skp p t < p then _ else _) = _
        unfold skp
        by_cases w : t < p
        · rw [if_pos w, if_neg (by omega), if_pos w]
        · rw [if_neg w, if_neg (by omega), if_neg (by omega), Nat.add_sub_cancel]
      refine ⟨w, ⟨skp p j, by unfold skp; split <;> omega, ?_⟩, fun i hi => ?_⟩
      · rw [hn]
        exact fun q => (Int.mul_eq_zero.mp q).elim hL hu
      · rw [isum_skp _ k p hp, hw]
        rw [isum_ext (F := fun j => L i (skp p j) * w (skp p j)) (G := fun j => L r p * (L i (skp p j) * u j)) k (fun j _ => by simp only [hn]; grind), isum_mul]
        by_cases e : i = r
        · subst e
          grind
        · have := he i (by omega)
          rw [isum_ext (G := fun j => L r p * (L i (skp p j) * u j) + (-(L i p)) * (L r (skp p j) * u j)) k (fun j _ => by grind), isum_add, isum_mul, isum_mul] at this
          rw [Int.neg_mul] at this
          rw [Int.mul_neg]
          omega
    · obtain ⟨u, hu, he⟩ := homog r (k + 1) L (by omega)
      refine ⟨u, hu, fun i hi => ?_⟩
      by_cases e : i = r
      · subst e
        refine isum_z (fun j hj => ?_)
        have : L i j = 0 := by
          by_cases w : L i j = 0
          · exact w
          · exact absurd ⟨j, hj, w⟩ q
        rw [this, Int.zero_mul]
      · exact he i (by omega)
