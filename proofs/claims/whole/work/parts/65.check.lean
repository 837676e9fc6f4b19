/-! check -/
theorem pcN_le : ∀ r cs, pcN r cs ≤ r
  | 0, _ => Nat.le_refl 0
  | r + 1, cs => by
    have := pcN_le r cs
    rw [pcN]
    split <;> omega
theorem check_join {fu : Nat} (hfu : 80 ≤ fu) {T : sWB} {S : gS} (hcs : T.2.2.2.2.2.1.2.2.1 < 256) (hf : fresh T.1 T.2.2.2.2.2.1 (iF S 14) (iF S 15) (iA S 16) (lA S 17) (lF S 18) (lF S 19)) {N : Nat} (hN : N ≤ 16) (hto : ∀ j, j < N → iA S 9 j = T.2.2.2.2.2.2.2.2.2.1 j) : ∀ (r p j1 j2 : Nat), r ≤ 8 → r < j1 → pcN r T.2.2.2.2.2.1.2.2.1 < j2 → p + pcN r T.2.2.2.2.2.1.2.2.1 = popc T.2.2.2.2.2.1.2.2.1 → (∀ i, i < pcN r T.2.2.2.2.2.1.2.2.1 → nthB 8 T.2.2.2.2.2.1.2.2.1 (p + i) = nthB r T.2.2.2.2.2.1.2.2.1 i) → ∃ v : Int32, lX10_judge_7 fu T (nI N) j1 (nI p) (nI (2 * p)) (nI (8 - r)) = some v ∧ lX11_check_30 fu j2 (nI N) (nI p) S = some (v.toInt64, S) := by
  obtain ⟨b1, b2, b3, b4⟩ := fresh_bd hf
  obtain ⟨-, g1, g2, g3, -, g5, g6, -⟩ := hf
  intro r
  induction r with
  | zero =>
    intro p j1 j2 hr h1 h2 hp hn
    obtain ⟨j1, rfl⟩ : ∃ i, j1 = i + 1 := ⟨j1 - 1, by omega⟩
    obtain ⟨j2, rfl⟩ : ∃ i, j2 = i + 1 := ⟨j2 - 1, by omega⟩
    have hp' : p = popc T.2.2.2.2.2.1.2.2.1 := by
      have : pcN 0 T.2.2.2.2.2.1.2.2.1 = 0 := rfl
      omega
    rw [lX10_judge_7, lX11_check_30, g1, if_pos (show (8 : Int32) ≤ nI (8 - 0) by decide), if_pos (show nI (popc T.2.2.2.2.2.1.2.2.1) ≤ nI p from nI_le (by omega) (by omega))]
    have e2 : (2 : Int32) * nI (popc T.2.2.2.2.2.1.2.2.1) = nI (2 * p) := by
      rw [show (2 : Int32) = nI 2 from rfl, pk_mul, hp']
    rw [e2]
    by_cases q : nI N ≤ nI (2 * p)
    · rw [if_pos q, if_pos q]
      exact ⟨0, rfl, rfl⟩
    · rw [if_neg q, if_neg q]
      exact ⟨100, rfl, rfl⟩
  | succ r ih =>
    intro p j1 j2 hr h1 h2 hp hn
    obtain ⟨j1, rfl⟩ : ∃ i, j1 = i + 1 := ⟨j1 - 1, by omega⟩
    have hc8 : 8 - (r + 1) < 8 := by omega
    have hh : fX6_has T.2.2.2.2.2.1 (nI (8 - (r + 1))) = some (T.2.2.2.2.2.1.2.2.1.testBit (8 - (r + 1))) := by rw [fX6_has, if_pos hcs, szHas_lt hc8]
    have hnx : nI (8 - (r + 1)) + 1 = nI (8 - r) := by rw [nI_1]; congr 1; omega
    have epc : pcN (r + 1) T.2.2.2.2.2.1.2.2.1 = (if T.2.2.2.2.2.1.2.2.1.testBit (8 - (r + 1)) then 1 else 0) + pcN r T.2.2.2.2.2.1.2.2.1 := rfl
    have enth : ∀ i, nthB (r + 1) T.2.2.2.2.2.1.2.2.1 i = if T.2.2.2.2.2.1.2.2.1.testBit (8 - (r + 1)) then (if i = 0 then 8 - (r + 1) else nthB r T.2.2.2.2.2.1.2.2.1 (i - 1)) else nthB r T.2.2.2.2.2.1.2.2.1 i := fun i => rfl
    rw [lX10_judge_7, if_neg (show ¬ (8 : Int32) ≤ nI (8 - (r + 1)) from nI_ge (b := 8) hc8 (by decide)), hh, hnx]
    simp only [Option.bind_some]
    cases hb : T.2.2.2.2.2.1.2.2.1.testBit (8 - (r + 1))
    · simp only [hb, Bool.false_eq_true, if_false, Nat.zero_add] at epc enth ⊢
      rw [epc] at h2 hp hn
      exact ih p j1 j2 (by omega) (by omega) h2 hp (fun i hi => by rw [hn i hi, enth])
    · simp only [hb, if_true] at epc enth ⊢
      rw [epc] at h2 hp hn
      have hp4 : p < popc T.2.2.2.2.2.1.2.2.1 := by omega
      have en : nthB 8 T.2.2.2.2.2.1.2.2.1 p = 8 - (r + 1) := by
        have := hn 0 (by omega)
        rw [Nat.add_zero, enth, if_pos rfl] at this
        exact this
      obtain ⟨j2, rfl⟩ : ∃ i, j2 = i + 1 := ⟨j2 - 1, by omega⟩
      obtain ⟨q1, q2⟩ := g2 p hp4
      rw [lX11_check_30, g1, if_neg (nI_ge hp4 (by omega)), gIx_n (show p < 4 by omega) (by decide)]
      simp only [Option.bind_some]
      have hab := bd_min (b1 (8 - (r + 1)) hc8) (by decide)
      rw [q2, en, g3, part_lows hfu hab b3 b4, part_lows hfu hab b3 b4]
      simp only [Option.bind_some]
      have e2 : (2 : Int32) * nI p = nI (2 * p) := by rw [show (2 : Int32) = nI 2 from rfl, pk_mul]
      have e3 : (1 : Int32) + nI p = nI (1 + p) := nI_add 1 p
      rw [e2, e3, nI_1]
      by_cases q : nI N ≤ nI (2 * p + 1)
      · rw [if_pos q, if_pos q]
        exact ⟨_, rfl, rfl⟩
      · have hq : 2 * p + 1 < N := by
          rw [nI_leI (by omega) (by omega)] at q
          omega
        rw [if_neg q, if_neg q, if_neg (show ¬ (16 : Int32) ≤ nI (2 * p + 1) from nI_ge (b := 16) (by omega) (by decide)), gIx_n (show 2 * p < 16 by omega) (by decide), gIx_n (show 2 * p + 1 < 16 by omega) (by decide)]
        simp only [Option.bind_some]
        rw [hto _ (by omega), hto _ hq, frac_eq _ _ hab b3 b4]
        have hi : fX6_isSize T.2.2.2.2.2.1 (nI (8 - (r + 1))) (T.2.2.2.2.2.2.2.2.2.1 (2 * p)) (T.2.2.2.2.2.2.2.2.2.1 (2 * p + 1)) = some (decide ((T.2.2.2.2.2.2.2.2.2.1 (2 * p + 1)).toInt ≠ 0 ∧ (T.2.2.2.2.2.2.2.2.2.1 (2 * p)).toInt * T.2.2.2.2.2.1.2.2.2.2.1.toInt = (T.2.2.2.2.2.1.2.2.2.1 (8 - (r + 1))).toInt * (T.2.2.2.2.2.2.2.2.2.1 (2 * p + 1)).toInt)) := by
          rw [fX6_isSize, if_pos hcs, isSz_eq hc8 (by rw [szHas_lt hc8]; exact hb) b3]
        rw [hi]
        simp only [Option.bind_some]
        split
        · have e4 : nI (2 * p) + 2 = nI (2 * (p + 1)) := nI_add (2 * p) 2
          rw [e4, nI_1]
          exact ih (p + 1) j1 j2 (by omega) (by omega) (by omega) (by omega) (fun i hi => by
            have := hn (i + 1) (by omega)
            rw [enth, if_neg (by omega), Nat.add_sub_cancel] at this
            rw [← this]
            congr 1
            omega)
        · exact ⟨_, rfl, rfl⟩
