/-- sizes: whether there are, whether stale, the model's set, what is above, below, and the squares left -/
abbrev wSz (E : gE) (h0 h1 : Nat) (at0 st0 : Bool) (cs : Nat) (ab : Nat → Int64) (bl sq : Int64) : va_W := [(h0, .inr (5, [.int (bI at0), .int (bI st0), .int (nI cs), .ref h1, .long bl, .long sq])), (h1, .inl (E.2 1, 8, .inr (.inl ab)))]
theorem szbit : ∀ cs, cs < 256 → ∀ j, j < 8 → ((nI cs >>> (nI j &&& 31)) &&& 1) = bI (cs.testBit j) := by decide +kernel
theorem szmask : ∀ cs, cs < 256 → ∀ j, j < 8 → (nI cs &&& (((1 : Int32) <<< (nI j &&& 31)) - 1)) = nI (cs % 2 ^ j) := by decide +kernel
theorem ix8 {c : Int32} (h1 : ¬ c < 0) (h2 : ¬ 8 ≤ c) : ∃ j, j < 8 ∧ c = nI j := by
  have h0 : (0 : Int32).toInt = 0 := rfl
  have h8 : (8 : Int32).toInt = 8 := rfl
  rw [i32_lt, h0] at h1
  rw [i32_le, h8] at h2
  exact vp_in_of (x := c) (n := 8) (vp_in_iff.mpr ⟨by omega, by omega⟩) (by decide)
def szHas (cs : Nat) (c : Int32) : Bool := if c < 0 then false else if 8 ≤ c then false else cs.testBit c.toNatClampNeg
theorem szHas_lt {cs j : Nat} (hj : j < 8) : szHas cs (nI j) = cs.testBit j := by
  have h1 : ¬ nI j < 0 := nI_pos (by omega)
  have h2 : ¬ (8 : Int32) ≤ nI j := nI_ge (b := 8) hj (by decide)
  rw [szHas, if_neg h1, if_neg h2, nI_clamp (by omega)]
theorem szHas_ex {cs : Nat} {c : Int32} (h : szHas cs c = true) : ∃ j, j < 8 ∧ c = nI j := by
  unfold szHas at h
  by_cases h1 : c < 0
  · rw [if_pos h1] at h; cases h
  rw [if_neg h1] at h
  by_cases h2 : 8 ≤ c
  · rw [if_pos h2] at h; cases h
  exact ix8 h1 h2
def szPl (cs : Nat) (c : Int32) : Nat := if szHas cs c then popc (cs % 2 ^ c.toNatClampNeg) else 0
def szAb (cs : Nat) (ab : Nat → Int64) (c : Int32) : Int64 := if szHas cs c then ab c.toNatClampNeg else 0
theorem szAb_lt {cs : Nat} {ab : Nat → Int64} {j : Nat} (hj : j < 8) (h : szHas cs (nI j) = true) : szAb cs ab (nI j) = ab j := by
  rw [szAb, h, nI_clamp (by omega)]
  rfl
/-- what is above in what is foretold in a state: the sum over the first causes -/
def abIn (cs : Nat) (ab : Nat → Int64) (kd : Nat → Int32) (n : Nat) (fa fb : Nat → Int32) (s : Int32) : Nat → Int64
  | 0 => 0
  | c + 1 => if szHas cs (nI c) then abIn cs ab kd n fa fb s c + ab c * (shw kd n fa fb (nI c) s).toInt64 else abIn cs ab kd n fa fb s c
def stIn (cs : Nat) (bl : Int64) (kd : Nat → Int32) (n : Nat) (fa fb : Nat → Int32) (nm : Nat) (mc mb : Nat → Int32) (s m : Int32) : Int64 :=
  if szHas cs (pget mc nm m) then bl * (pget mb nm m).toInt64 * (shw kd n fa fb (pget mc nm m) s).toInt64 else 0
/-- whether told numbers are the size of a cause -/
def isSz (cs : Nat) (ab : Nat → Int64) (bl : Int64) (c ta tb : Int32) : Bool :=
  if (if 0 ≤ tb.toInt64 then tb.toInt64 else -tb.toInt64) = 0 then false else if szHas cs c then decide (ordr 100 (if 0 ≤ tb.toInt64 then ta.toInt64 else -ta.toInt64) (if 0 ≤ tb.toInt64 then tb.toInt64 else -tb.toInt64) (ab c.toNatClampNeg) bl = 0) else false
