theorem neg_toL (x : Int32) : (-x.toInt64).toInt = -x.toInt := by
  have h1 : -(2 : Int) ^ 31 ≤ x.toInt := Int32.le_toInt x
  have h2 : x.toInt < (2 : Int) ^ 31 := Int32.toInt_lt x
  rw [Int64.toInt_neg, Int32.toInt_toInt64, bmod64 (by omega) (by omega)]
theorem isSz_eq {cs : Nat} {ab : Nat → Int64} {bl : Int64} {c : Nat} (hc : c < 8) (hs : szHas cs (nI c) = true) (hb : 0 < bl.toInt) (ta tb : Int32) : isSz cs ab bl (nI c) ta tb = decide (tb.toInt ≠ 0 ∧ ta.toInt * bl.toInt = (ab c).toInt * tb.toInt) := by
  have h1 : -(2 : Int) ^ 31 ≤ tb.toInt := Int32.le_toInt tb
  have h2 : tb.toInt < (2 : Int) ^ 31 := Int32.toInt_lt tb
  have z : (0 : Int64).toInt = 0 := rfl
  unfold isSz
  rw [if_pos hs, nI_clamp (by omega)]
  by_cases p : (0 : Int64) ≤ tb.toInt64
  · rw [if_pos p, if_pos p]
    rw [i64_le, z, Int32.toInt_toInt64] at p
    by_cases q : tb.toInt64 = 0
    · rw [if_pos q]
      rw [i64_eq, z, Int32.toInt_toInt64] at q
      rw [decide_eq_false (fun w => w.1 q)]
    · rw [if_neg q]
      have q' : tb.toInt ≠ 0 := fun w => q (by rw [i64_eq, z, Int32.toInt_toInt64, w])
      refine decide_eq_decide.mpr ?_
      have h := ord0 32 100 ta.toInt64 tb.toInt64 (ab c) bl (by rw [Int32.toInt_toInt64]; omega) (by rw [Int32.toInt_toInt64]; omega) hb (by omega)
      rw [Int32.toInt_toInt64, Int32.toInt_toInt64] at h
      exact h.trans ⟨fun w => ⟨q', w⟩, fun w => w.2⟩
  · rw [if_neg p, if_neg p]
    rw [i64_le, z, Int32.toInt_toInt64] at p
    have q : ¬ -tb.toInt64 = 0 := fun w => by
      rw [i64_eq, z, neg_toL] at w
      omega
    rw [if_neg q]
    refine decide_eq_decide.mpr ?_
    have h := ord0 32 100 (-ta.toInt64) (-tb.toInt64) (ab c) bl (by rw [neg_toL]; omega) (by rw [neg_toL]; omega) hb (by omega)
    rw [neg_toL, neg_toL] at h
    refine h.trans ⟨fun w => ⟨by omega, by grind⟩, fun w => by have := w.2; grind⟩
