theorem bit0 : ∀ m, m < 32 → ∀ k, k < 5 → ((nI m &&& nI (2 ^ k)) = 0 ↔ m.testBit k = false) := by decide +kernel
theorem xlt : ∀ m, m < 32 → ∀ k, k < 5 → m ^^^ 2 ^ k < 32 := by decide +kernel
theorem popc5 : ∀ m, m < 32 → popc m ≤ 5 := by decide +kernel
theorem popc1 : ∀ m, m < 32 → 0 < m → 0 < popc m := by decide +kernel
/-- a minor by its last row: total and sign so far -/
def mst (tb : Nat → Int64) (co : Nat → Nat) (mn : Nat → Int64) (m : Nat) : Nat → Int64 × Int64
  | 0 => (0, if popc m % 2 = 0 then -1 else 1)
  | j + 1 => if m.testBit j = true then ((mst tb co mn m j).1 + (mst tb co mn m j).2 * tb (co (popc m - 1) * 9 + co j) * mn (m ^^^ 2 ^ j), -(mst tb co mn m j).2) else mst tb co mn m j
/-- the minors, set by set -/
def mfl (tb : Nat → Int64) (co : Nat → Nat) (ci : Nat) (mn : Nat → Int64) : Nat → (Nat → Int64)
  | 0 => vp_updL mn 0 1
  | t + 1 => vp_updL (mfl tb co ci mn t) (t + 1) (mst tb co (mfl tb co ci mn t) (t + 1) (ci + 1)).1
theorem pkS_co {m : Nat} {co : Nat → Nat} (h : ∀ j, j < 5 → co j ≤ 8) : ∀ c, c ≤ 8 → ∀ j, j < 5 → (pkS m co c).2 j ≤ 8
  | 0, _, j, hj => h j hj
  | c + 1, hc, j, hj => by
    have ih := pkS_co (m := m) h c (by omega) j hj
    unfold pkS
    split
    · simp only [updN]
      split
      · omega
      · exact ih
    · exact ih
theorem colN_le (m : Nat) (co : Nat → Nat) : colN m co ≤ 4 := pkS_le m co 8
theorem cols_le {m : Nat} {co : Nat → Nat} (h : ∀ j, j < 5 → co j ≤ 8) : ∀ j, j < 5 → cols m co j ≤ 8 := by
  intro j hj
  have := pkS_co (m := m) h 8 (by omega) j hj
  unfold cols updN
  split
  · omega
  · exact this
theorem p2le {c : Nat} (h : c ≤ 5) : 2 ^ c ≤ 32 := p2c (P := fun c => 2 ^ c ≤ 32) h (by decide) (by decide) (by decide) (by decide) (by decide) (by decide)
theorem p2ge (c : Nat) : 1 ≤ 2 ^ c := Nat.two_pow_pos c
/-- the minors behind solve -/
def sMn (tb : Nat → Int64) (co : Nat → Nat) (mn : Nat → Int64) (m : Nat) : Nat → Int64 := mfl tb (cols m co) (colN m co) mn (2 ^ (colN m co + 1) - 1)
def firm (tb : Nat → Int64) (co : Nat → Nat) (mn : Nat → Int64) (m : Nat) : Bool := !decide (sMn tb co mn m (2 ^ colN m co - 1) = 0)
