/-! one try of the class's search -/
def abV (x : Int64) : Int64 := if 0 ≤ x then x else -x
def gmF (R : Nat → Int64) : Nat → Int64
  | 0 => 0
  | i + 1 => if gmF R i < abV (R i) then abV (R i) else gmF R i
theorem gm_ge (R : Nat → Int64) {i : Nat} : ∀ n, i < n → (abV (R i)).toInt ≤ (gmF R n).toInt
  | 0, h => absurd h (Nat.not_lt_zero _)
  | n + 1, h => by
    rw [gmF]
    by_cases e : i = n
    · subst e
      by_cases q : gmF R i < abV (R i)
      · rw [if_pos q]
        omega
      · rw [if_neg q]
        rw [i64_lt] at q
        omega
    · have ih := gm_ge R n (show i < n by omega)
      by_cases q : gmF R n < abV (R n)
      · rw [if_pos q]
        rw [i64_lt] at q
        omega
      · rw [if_neg q]
        exact ih
theorem gm_lt (R : Nat → Int64) {l : Int64} (h0 : 0 < l.toInt) : ∀ n, (∀ i, i < n → abV (R i) < l) → gmF R n < l
  | 0, _ => by
    rw [i64_lt]
    exact h0
  | n + 1, h => by
    have ih := gm_lt R h0 n (fun i hi => h i (by omega))
    rw [gmF]
    by_cases q : gmF R n < abV (R n)
    · rw [if_pos q]
      exact h n (by omega)
    · rw [if_neg q]
      exact ih
theorem gm_iff (R : Nat → Int64) {l : Int64} {n : Nat} (hn : 0 < n) (hp : ∀ i, i < n → 0 ≤ (abV (R i)).toInt) : gmF R n < l ↔ ∀ i, i < n → abV (R i) < l := by
  constructor
  · intro h i hi
    have := gm_ge R n hi
    rw [i64_lt] at h ⊢
    omega
  · intro h
    have h0 := h 0 hn
    have h1 := hp 0 hn
    rw [i64_lt] at h0
    exact gm_lt R (by omega) n h
/-- places of states: a state's place is the number of spans before it -/
theorem wst_gm {V R : Nat → Int64} {th : Nat → Bool} : ∀ k, (∀ s, s < k → th s = true → R (cnt th s) = V s) → wstF V th k = gmF R (cnt th k)
  | 0, _ => rfl
  | k + 1, h => by
    have ih := wst_gm k (fun s hs => h s (by omega))
    rw [wstF]
    by_cases q : th k = true
    · rw [if_pos q, ih, ← cnt_t q, gmF, h k (by omega) q]
      rfl
    · rw [if_neg q, ih]
      have q' : th k = false := by cases hh : th k with | true => exact absurd hh q | false => rfl
      rw [← cnt_f q']
theorem try_loop {fu : Nat} {M : sMs} {P a b : Nat} (hP : P ≤ 36) (hM : M.2.2.1 = nI P) (ha : a ≤ 7) (hb : b ≤ 7) (m s n t : Int32) (R : Nat → Int64) (hR : ∀ i, i < P → R i = (M.1 i + s.toInt64 * M.2.1 (a * 36 + i)) + t.toInt64 * M.2.1 (b * 36 + i)) (l ans : Int64) : ∀ (j i : Nat), i ≤ P → P - i < j → (∀ k, k < i → abV (R k) < l) → ((∀ k, k < P → abV (R k) < l) → lX1_tryOut_26 fu m s n t j (nI (a * 36)) (nI (b * 36)) (gmF R i) (nI i) (mkM M l ans) = some (mkM M (gmF R P) (((((10000 : Int32) * (m + 1)) + ((1000 : Int32) * (s + 3))) + ((10 : Int32) * (n + 1))) + (t + 3)).toInt64)) ∧ (¬ (∀ k, k < P → abV (R k) < l) → lX1_tryOut_26 fu m s n t j (nI (a * 36)) (nI (b * 36)) (gmF R i) (nI i) (mkM M l ans) = some (mkM M l ans)) := by
  intro j
  induction j with
  | zero => intro i _ hj; exact absurd hj (Nat.not_lt_zero _)
  | succ j ih =>
    intro i hi hj hk
    rw [lX1_tryOut_26]
    have e0 : (mkM M l ans).2.2.1 = nI P := hM
    rw [e0]
    by_cases e : i = P
    · subst e
      rw [if_pos (nI_le (Nat.le_refl _) (by omega))]
      exact ⟨fun _ => rfl, fun q => absurd hk q⟩
    · have hR' := hR i (by omega)
      rw [if_neg (nI_ge (by omega) (by omega)), gIx_n (show i < 36 by omega) (by decide), nI_add, nI_add, gIx_n (show a * 36 + i < 288 by omega) (by decide), gIx_n (show b * 36 + i < 288 by omega) (by decide)]
      simp only [Option.bind_some]
      have e1 : ((mkM M l ans).1 i + s.toInt64 * (mkM M l ans).2.1 (a * 36 + i)) + t.toInt64 * (mkM M l ans).2.1 (b * 36 + i) = R i := hR'.symm
      rw [e1]
      simp only [fJ9_abs_067f4, fJ9_max_f86c9, Option.bind_some]
      have e2 : (mkM M l ans).2.2.2.2.1 = l := rfl
      rw [e2]
      show ((∀ k, k < P → abV (R k) < l) → (if abV (R i) < l then lX1_tryOut_26 fu m s n t j (nI (a * 36)) (nI (b * 36)) (if gmF R i < abV (R i) then abV (R i) else gmF R i) (nI i + 1) (mkM M l ans) else some (mkM M l ans)) = _) ∧ (¬ (∀ k, k < P → abV (R k) < l) → (if abV (R i) < l then lX1_tryOut_26 fu m s n t j (nI (a * 36)) (nI (b * 36)) (if gmF R i < abV (R i) then abV (R i) else gmF R i) (nI i + 1) (mkM M l ans) else some (mkM M l ans)) = _)
      by_cases q : abV (R i) < l
      · rw [if_pos q, nI_1]
        exact ih (i + 1) (by omega) (by omega) (fun k hk2 => by
          by_cases ek : k = i
          · rw [ek]; exact q
          · exact hk k (by omega))
      · rw [if_neg q]
        exact ⟨fun w => absurd (w i (by omega)) q, fun _ => rfl⟩
