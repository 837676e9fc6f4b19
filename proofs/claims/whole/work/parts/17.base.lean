theorem shl1 : ∀ j, j < 9 → ((1 : Int32) <<< (nI j &&& 31)) = nI (2 ^ j) := by decide +kernel
theorem p2c {c : Nat} {P : Nat → Prop} (h : c ≤ 5) (h0 : P 0) (h1 : P 1) (h2 : P 2) (h3 : P 3) (h4 : P 4) (h5 : P 5) : P c := by
  have : c = 0 ∨ c = 1 ∨ c = 2 ∨ c = 3 ∨ c = 4 ∨ c = 5 := by omega
  rcases this with rfl | rfl | rfl | rfl | rfl | rfl <;> assumption
theorem p2lt {c : Nat} (h : c ≤ 5) : 2 ^ c - 1 < 32 := p2c (P := fun c => 2 ^ c - 1 < 32) h (by decide) (by decide) (by decide) (by decide) (by decide) (by decide)
theorem p2x : ∀ c, c < 5 → ∀ p, p < c → (2 ^ (c + 1) - 1) ^^^ 2 ^ p < 32 := by decide +kernel
theorem x5 : ∀ a, a < 32 → ∀ b, b < 32 → nI a ^^^ nI b = nI (a ^^^ b) := by decide +kernel
theorem p2l : ∀ p, p < 5 → 2 ^ p < 32 := by decide
/-- the products: what is shown, the table, the columns of a model, how many causes, the minors -/
abbrev wPd (E : gE) (h0 h1 h2 h3 h4 : Nat) (sh tb : Nat → Int64) (co : Nat → Nat) (ci : Nat) (mn : Nat → Int64) : va_W := [(h0, .inr (3, [.ref h1, .ref h2, .ref h3, .int (nI ci), .ref h4])), (h1, .inl (E.2 1, 9, .inr (.inl sh))), (h2, .inl (E.2 1, 81, .inr (.inl tb))), (h3, .inl (E.2 0, 5, .inl (fun j => nI (co j)))), (h4, .inl (E.2 1, 32, .inr (.inl mn)))]
theorem wPd_as {E : gE} {h0 h1 h2 h3 h4 : Nat} {sh tb : Nat → Int64} {co : Nat → Nat} {f0 : Nat → Int32} {ci : Nat} {mn : Nat → Int64} (e : f0 = fun j => nI (co j)) : [(h0, .inr (3, [.ref h1, .ref h2, .ref h3, .int (nI ci), .ref h4])), (h1, .inl (E.2 1, 9, .inr (.inl sh))), (h2, .inl (E.2 1, 81, .inr (.inl tb))), (h3, .inl (E.2 0, 5, .inl f0)), (h4, .inl (E.2 1, 32, .inr (.inl mn)))] = wPd E h0 h1 h2 h3 h4 sh tb co ci mn := by rw [e]
def updN (f : Nat → Nat) (k c : Nat) : Nat → Nat := fun j => if j = k then c else f j
theorem updN_eq (co : Nat → Nat) (k c : Nat) : upd (fun j => nI (co j)) k (nI c) = fun j => nI (updN co k c j) := by
  funext j
  unfold upd updN
  by_cases hj : j = k
  · rw [if_pos hj, if_pos hj]
  · rw [if_neg hj, if_neg hj]
/-- the columns picked of the first causes: how many, which -/
def pkS (m : Nat) (co : Nat → Nat) : Nat → Nat × (Nat → Nat)
  | 0 => (0, co)
  | c + 1 => if (pkS m co c).1 < 4 ∧ m.testBit c = true then ((pkS m co c).1 + 1, updN (pkS m co c).2 (pkS m co c).1 c) else pkS m co c
theorem pkS_le (m : Nat) (co : Nat → Nat) : ∀ c, (pkS m co c).1 ≤ 4
  | 0 => Nat.zero_le _
  | c + 1 => by
    have := pkS_le m co c
    unfold pkS
    split
    · simp only; omega
    · exact this
theorem pkS_stop {m : Nat} {co : Nat → Nat} {k : Nat} (h : 4 ≤ (pkS m co k).1) : ∀ j, k ≤ j → pkS m co j = pkS m co k := by
  intro j hj
  induction j with
  | zero => rw [show k = 0 by omega]
  | succ j ih =>
    by_cases hk : k = j + 1
    · rw [hk]
    · have e := ih (by omega)
      rw [pkS, e, if_neg (by omega)]
def pAb (ci : Nat) (mn : Nat → Int64) (p : Nat) : Int64 := if (ci - 1 - p) % 2 = 0 then mn ((2 ^ (ci + 1) - 1) ^^^ 2 ^ p) else -(mn ((2 ^ (ci + 1) - 1) ^^^ 2 ^ p))
def cols (m : Nat) (co : Nat → Nat) : Nat → Nat := updN (pkS m co 8).2 (pkS m co 8).1 8
def colN (m : Nat) (co : Nat → Nat) : Nat := (pkS m co 8).1
