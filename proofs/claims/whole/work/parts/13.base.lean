/-- sheets: how many places each has (-1: missing), and the rates there -/
def shO (h3 h4 h5 : Nat) (i : Nat) : Option Nat := if i = 0 then some h3 else if i = 1 then some h4 else if i = 2 then some h5 else none
abbrev wSh (E : gE) (h0 h1 h2 h3 h4 h5 : Nat) (len : Nat → Int32) (rw0 : Nat → Nat → Int32) : va_W := [(h0, .inr (4, [.ref h1, .ref h2])), (h1, .inl (E.2 0, 3, .inl len)), (h2, .inl (E.2 4, 3, .inr (.inr (.inr (.inr (shO h3 h4 h5)))))), (h3, .inl (E.2 2, 36, .inl (rw0 0))), (h4, .inl (E.2 2, 36, .inl (rw0 1))), (h5, .inl (E.2 2, 36, .inl (rw0 2)))]
def plc (len : Nat → Int32) (s : Int32) : Int32 := if wit s 0 2 then len s.toNatClampNeg else -1
theorem wit_sh {s : Int32} (h : wit s 0 2 = true) : s = nI 0 ∨ s = nI 1 ∨ s = nI 2 := by
  obtain ⟨k, h1, h2⟩ := wit_nat (m := 2) 2 rfl (by decide) h
  subst h2
  have : k = 0 ∨ k = 1 ∨ k = 2 := by omega
  rcases this with rfl | rfl | rfl
  · exact Or.inl rfl
  · exact Or.inr (Or.inl rfl)
  · exact Or.inr (Or.inr rfl)
theorem wit_shk {s : Int32} (h : wit s 0 2 = true) : ∃ k, k < 3 ∧ s = nI k := by
  rcases wit_sh h with rfl | rfl | rfl
  · exact ⟨0, by omega, rfl⟩
  · exact ⟨1, by omega, rfl⟩
  · exact ⟨2, by omega, rfl⟩
theorem sh_ok {k : Nat} (hk : k < 3) : wit (nI k) 0 2 = true := by
  rw [wit_nI (m := 2) 2 rfl (by omega) (by decide)]
  exact decide_eq_true (by omega)
theorem plc_lt {len : Nat → Int32} {k : Nat} (hk : k < 3) : plc len (nI k) = len k := by
  rw [plc, sh_ok hk, nI_clamp (by omega)]
  rfl
def hasPl (len : Nat → Int32) (s i : Int32) : Bool := if i < 0 then false else if plc len s ≤ i then false else if 36 ≤ i then false else true
/-- a place of a sheet that has it: both are small numbers -/
theorem hasPl_ex {len : Nat → Int32} {s i : Int32} (h : hasPl len s i = true) : (∃ j, j < 36 ∧ i = nI j) ∧ ∃ k, k < 3 ∧ s = nI k := by
  unfold hasPl at h
  by_cases h1 : i < 0
  · rw [if_pos h1] at h; cases h
  rw [if_neg h1] at h
  by_cases h2 : plc len s ≤ i
  · rw [if_pos h2] at h; cases h
  rw [if_neg h2] at h
  by_cases h3 : 36 ≤ i
  · rw [if_pos h3] at h; cases h
  have h0 : (0 : Int32).toInt = 0 := rfl
  have h36 : (36 : Int32).toInt = 36 := rfl
  rw [i32_lt, h0] at h1
  rw [i32_le, h36] at h3
  refine ⟨vp_in_of (x := i) (n := 36) (vp_in_iff.mpr ⟨by omega, by omega⟩) (by decide), ?_⟩
  by_cases h4 : wit s 0 2 = true
  · exact wit_shk h4
  · exfalso
    apply h2
    rw [plc, if_neg h4, i32_le]
    have : (-1 : Int32).toInt = -1 := rfl
    omega
def rateA (len : Nat → Int32) (rw0 : Nat → Nat → Int32) (s i : Int32) : Int32 := if hasPl len s i then rw0 s.toNatClampNeg i.toNatClampNeg else -32768
theorem rateA_lt {len : Nat → Int32} {rw0 : Nat → Nat → Int32} {k j : Nat} (h : hasPl len (nI k) (nI j) = true) (hk : k < 3) (hj : j < 36) : rateA len rw0 (nI k) (nI j) = rw0 k j := by
  rw [rateA, h, nI_clamp (by omega), nI_clamp (by omega)]
  rfl
def upd2 (f : Nat → Nat → Int32) (k : Nat) (g : Nat → Int32) : Nat → Nat → Int32 := fun a => if a = k then g else f a
def wasR (len : Nat → Int32) (rw0 : Nat → Nat → Int32) (s i : Int32) : Bool := !decide (rateA len rw0 s i = -32768)
def fillI (v : Int32) (f : Nat → Int32) (m : Nat) : Nat → Int32 := fun j => if j < m then v else f j
theorem fillI_0 (v : Int32) (f : Nat → Int32) : fillI v f 0 = f := by funext j; simp [fillI]
theorem fillI_s (v : Int32) (f : Nat → Int32) (m : Nat) : upd (fillI v f m) m v = fillI v f (m + 1) := by
  funext j
  unfold upd fillI
  by_cases hj : j = m
  · subst hj; simp
  · rw [if_neg hj]
    by_cases h2 : j < m
    · rw [if_pos h2, if_pos (by omega)]
    · rw [if_neg h2, if_neg (by omega)]
def fillL (v : Int64) (f : Nat → Int64) (m : Nat) : Nat → Int64 := fun j => if j < m then v else f j
theorem fillL_0 (v : Int64) (f : Nat → Int64) : fillL v f 0 = f := by funext j; simp [fillL]
theorem fillL_s (v : Int64) (f : Nat → Int64) (m : Nat) : vp_updL (fillL v f m) m v = fillL v f (m + 1) := by
  funext j
  unfold vp_updL fillL
  by_cases hj : j = m
  · subst hj; simp
  · rw [if_neg hj]
    by_cases h2 : j < m
    · rw [if_pos h2, if_pos (by omega)]
    · rw [if_neg h2, if_neg (by omega)]
/-- whether the first n places, but for those not read, hold rates -/
def hrate (len : Nat → Int32) (rw0 : Nat → Nat → Int32) (s : Int32) : Nat → Bool
  | 0 => true
  | n + 1 => hrate len rw0 s n && (!wasR len rw0 s (nI n) || wit (rateA len rw0 s (nI n)) (-300) 300)
theorem hrate_mono {len : Nat → Int32} {rw0 : Nat → Nat → Int32} {s : Int32} {k : Nat} (h : hrate len rw0 s k = false) : ∀ n, k ≤ n → hrate len rw0 s n = false := by
  intro n hn
  induction n with
  | zero =>
    have : k = 0 := by omega
    subst this
    exact h
  | succ n ih =>
    by_cases hk : k = n + 1
    · rw [← hk]; exact h
    · rw [hrate, ih (by omega), Bool.false_and]
