/-! behind -/
theorem ringB (a s t l p q u v : Int64) : (a + s * (l * p * q)) + t * (l * u * v) = a + (q * p * s + v * u * t) * l := by grind
theorem ringB1 (a s t l p q : Int64) : (a + s * (l * p * q)) + t * 0 = a + (q * p * s + 0) * l := by grind
theorem ringB2 (a s t l u v : Int64) : (a + s * 0) + t * (l * u * v) = a + (0 + v * u * t) * l := by grind
theorem ringB0 (a s t l : Int64) : (a + s * 0) + t * 0 = a + (0 + 0) * l := by simp
theorem stIn_eq {s : sSt} {z : sSz} (h8 : s.2.2.1.1 ≤ 8) {i : Nat} (hi : i < s.2.2.1.1) (x : Int32) : stIn z.2.2.1 z.2.2.2.2.1 s.1.1 s.1.2.1 s.1.2.2.1 s.1.2.2.2 s.2.2.1.1 s.2.2.1.2.1 s.2.2.1.2.2 x (nI i) = if szHas z.2.2.1 (s.2.2.1.2.1 i) = true then z.2.2.2.2.1 * (s.2.2.1.2.2 i).toInt64 * (shw s.1.1 s.1.2.1 s.1.2.2.1 s.1.2.2.2 (s.2.2.1.2.1 i) x).toInt64 else 0 := by
  unfold stIn
  rw [pget_lt hi (by omega), pget_lt hi (by omega)]
theorem stIn_bd {s : sSt} {f : Nat → Int32} (hs : rSt s f) {z : sSz} (hb : bd z.2.2.2.2.1 (2 ^ 35)) {i : Nat} (hi : i < s.2.2.1.1) (x : Int32) : bd (if szHas z.2.2.1 (s.2.2.1.2.1 i) = true then z.2.2.2.2.1 * (s.2.2.1.2.2 i).toInt64 * (shw s.1.1 s.1.2.1 s.1.2.2.1 s.1.2.2.2 (s.2.2.1.2.1 i) x).toInt64 else 0) (2 ^ 45) := by
  obtain ⟨-, -, ⟨c1, c2, c3⟩, -⟩ := id hs
  obtain ⟨-, -, -, q4⟩ := c3 i hi
  have hr : bd (s.2.2.1.2.2 i).toInt64 200 := by
    simp only [wit, Bool.and_eq_true, decide_eq_true_eq, i32_le] at q4
    exact bd_32 q4.1 q4.2
  split
  · exact bd_le (bd_mul (bd_mul hb hr (by decide)) (shw_bd hs _ x) (by decide)) (by decide)
  · exact bd_0 (by decide)
theorem steps_bd {v : Int32} (h : wit v (-3) 3 = true) : bd v.toInt64 3 := by
  simp only [wit, Bool.and_eq_true, decide_eq_true_eq, i32_le] at h
  exact bd_32 h.1 h.2
theorem mend_sum {fu : Nat} (hfu : 10 ≤ fu) {s : sSt} {z : sSz} {S : gS} (hs : rSt s (iA S 0)) (hcs : z.2.2.1 < 256) (hf : fresh s z (iF S 14) (iF S 15) (iA S 16) (lA S 17) (lF S 18) (lF S 19)) {i k : Nat} (hi : i < s.2.2.1.1) (hk : k < s.2.2.1.1) (t w : Int32) {x : Int32} (hx : wit x 0 35 = true) (a : Int64) : ∃ b c : Int64, fX11_mended fu S (nI i) t x = some b ∧ fX11_mended fu S (nI k) w x = some c ∧ a + (b + c) * lF S 18 = (a + t.toInt64 * stIn z.2.2.1 z.2.2.2.2.1 s.1.1 s.1.2.1 s.1.2.2.1 s.1.2.2.2 s.2.2.1.1 s.2.2.1.2.1 s.2.2.1.2.2 x (nI i)) + w.toInt64 * stIn z.2.2.1 z.2.2.2.2.1 s.1.1 s.1.2.1 s.1.2.2.1 s.1.2.2.2 s.2.2.1.1 s.2.2.1.2.1 s.2.2.1.2.2 x (nI k) := by
  refine ⟨_, _, mended_eq hfu hs hcs hf hi t hx, mended_eq hfu hs hcs hf hk w hx, ?_⟩
  have h8 := hs.2.2.1.1
  rw [stIn_eq h8 hi, stIn_eq h8 hk, hf.2.2.2.1]
  by_cases p : szHas z.2.2.1 (s.2.2.1.2.1 i) = true
  · by_cases q : szHas z.2.2.1 (s.2.2.1.2.1 k) = true
    · rw [if_pos p, if_pos p, if_pos q, if_pos q]
      exact (ringB _ _ _ _ _ _ _ _).symm
    · rw [if_pos p, if_pos p, if_neg q, if_neg q]
      exact (ringB1 _ _ _ _ _ _).symm
  · by_cases q : szHas z.2.2.1 (s.2.2.1.2.1 k) = true
    · rw [if_neg p, if_neg p, if_pos q, if_pos q]
      exact (ringB2 _ _ _ _ _ _).symm
    · rw [if_neg p, if_neg p, if_neg q, if_neg q]
      exact (ringB0 _ _ _ _).symm
