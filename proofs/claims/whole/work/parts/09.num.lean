def absL (x : Int64) : Int64 := if 0 ≤ x then x else -x
def remL (a b : Int64) : Int64 := a - a / b * b
/-- Euclid's steps, at most so many -/
def eu : Nat → Int64 → Int64 → Int64
  | 0, a, _ => a
  | n + 1, a, b => if b = 0 then a else eu n b (a - a / b * b)
theorem eu_z (n : Nat) (a : Int64) : eu n a 0 = a := by cases n <;> simp [eu]
theorem eu_s {n : Nat} {a b : Int64} (h : ¬ b = 0) : eu (n + 1) a b = eu n b (a - a / b * b) := by simp [eu, h]
/-- a part of a fraction in lowest terms -/
def lows (a u : Int64) (b : Bool) : Int64 := if eu 100 (absL a) u ≤ 1 then (if b then u else a) else (if b then u else a) / eu 100 (absL a) u
def fdv (a b : Int64) : Int64 := if 0 ≤ a ^^^ b then a / b else if a / b * b = a then a / b else a / b - 1
def fmd (a b : Int64) : Int64 := if 0 ≤ a ^^^ b then a - a / b * b else if a - a / b * b = 0 then a - a / b * b else a - a / b * b + b
def cmpL (x y : Int64) : Int32 := if y ≤ x then (if x = y then 0 else 1) else -1
/-- which fraction is the lesser: whole parts first, then what is left, turned round; at most so many steps -/
def ordr : Nat → Int64 → Int64 → Int64 → Int64 → Int32
  | 0, _, _, _, _ => 0
  | n + 1, a, b, c, d => if b ≤ 0 then 0 else if d ≤ 0 then 0 else if fdv a b = fdv c d then (if a - fdv a b * b = 0 then cmpL (a - fdv a b * b) (c - fdv c d * d) else if c - fdv c d * d = 0 then cmpL (a - fdv a b * b) (c - fdv c d * d) else ordr n d (c - fdv c d * d) b (a - fdv a b * b)) else cmpL (fdv a b) (fdv c d)
def ushr (x y : Int32) : Int32 := (x.toUInt32 >>> (y.toUInt32 &&& Int32.toUInt32 31)).toInt32
def bc1 (x : Int32) : Int32 := x - (ushr x 1 &&& 1431655765)
def bc2 (x : Int32) : Int32 := (x &&& 858993459) + (ushr x 2 &&& 858993459)
def bc3 (x : Int32) : Int32 := (x + ushr x 4) &&& 252645135
def bc4 (x : Int32) : Int32 := x + ushr x 8
def bc5 (x : Int32) : Int32 := x + ushr x 16
def bcE (x : Int32) : Int32 := bc5 (bc4 (bc3 (bc2 (bc1 x)))) &&& 63
/-- how many bits, of eight -/
def popc (k : Nat) : Nat := k % 2 + k / 2 % 2 + k / 4 % 2 + k / 8 % 2 + k / 16 % 2 + k / 32 % 2 + k / 64 % 2 + k / 128 % 2
theorem bcE_ok : ∀ k, k < 256 → bcE (nI k) = nI (popc k) := by decide +kernel
theorem wit_nat {s : Int32} {m : Nat} (M : Int32) (hM : M.toInt = m) (hm : m + 1 < 2 ^ 31) (h : wit s 0 M = true) : ∃ k, k ≤ m ∧ s = nI k := by
  simp only [wit, Bool.and_eq_true, decide_eq_true_eq, i32_le] at h
  have h0 : (0 : Int32).toInt = 0 := rfl
  rw [h0, hM] at h
  obtain ⟨k, h1, h2⟩ := vp_in_of (x := s) (n := m + 1) (vp_in_iff.mpr ⟨h.1, by omega⟩) (by omega)
  exact ⟨k, by omega, h2⟩
theorem wit_st {s : Int32} (h : wit s 0 35 = true) : ∃ k, k < 36 ∧ s = nI k := by
  obtain ⟨k, h1, h2⟩ := wit_nat (m := 35) 35 rfl (by decide) h
  exact ⟨k, by omega, h2⟩
theorem wit_nI {k m : Nat} (M : Int32) (hM : M = nI m) (hk : k < 2 ^ 31) (hm : m < 2 ^ 31) : wit (nI k) 0 M = decide (k ≤ m) := by
  subst hM
  simp only [wit, i32_le, nI_toInt hk, nI_toInt hm]
  have h0 : (0 : Int32).toInt = 0 := rfl
  rw [h0]
  simp
theorem st_ok {k : Nat} (hk : k < 36) : wit (nI k) 0 35 = true := by
  rw [wit_nI (m := 35) 35 rfl (by omega) (by decide)]
  exact decide_eq_true (by omega)
/-- spans: for each state whether it has one, from, to -/
abbrev wSp (E : gE) (h0 h1 h2 h3 : Nat) (th : Nat → Bool) (fr to : Nat → Int32) : va_W := [(h0, .inr (6, [.ref h1, .ref h2, .ref h3])), (h1, .inl (E.2 3, 36, .inl (fun j => bI (th j)))), (h2, .inl (E.2 0, 36, .inl fr)), (h3, .inl (E.2 0, 36, .inl to))]
def spHas (th : Nat → Bool) (s : Int32) : Bool := wit s 0 35 && th s.toNatClampNeg
theorem spHas_lt {th : Nat → Bool} {k : Nat} (hk : k < 36) : spHas th (nI k) = th k := by
  rw [spHas, st_ok hk, nI_clamp (by omega), Bool.true_and]
def updB (f : Nat → Bool) (k : Nat) (b : Bool) : Nat → Bool := fun j => if j = k then b else f j
theorem updB_eq (th : Nat → Bool) (k : Nat) (b : Bool) : upd (fun j => bI (th j)) k (vp_nar .boolean (bI b)) = fun j => bI (updB th k b j) := by
  funext j
  unfold upd updB
  by_cases hj : j = k
  · rw [if_pos hj, if_pos hj]; cases b <;> rfl
  · rw [if_neg hj, if_neg hj]
def cnt (p : Nat → Bool) : Nat → Nat
  | 0 => 0
  | n + 1 => cnt p n + (if p n then 1 else 0)
theorem cnt_t {p : Nat → Bool} {k : Nat} (h : p k = true) : cnt p k + 1 = cnt p (k + 1) := by simp [cnt, h]
theorem cnt_f {p : Nat → Bool} {k : Nat} (h : p k = false) : cnt p k = cnt p (k + 1) := by simp [cnt, h]
theorem cnt_le (p : Nat → Bool) : ∀ n, cnt p n ≤ n
  | 0 => Nat.le_refl 0
  | n + 1 => by
    have := cnt_le p n
    unfold cnt
    split <;> omega
theorem cpyB_s (g f : Nat → Bool) (m : Nat) : upd (fun j => bI (cpy g f m j)) m (vp_nar .boolean (bI (g m))) = fun j => bI (cpy g f (m + 1) j) := by
  rw [updB_eq]
  funext j
  unfold updB cpy
  by_cases hj : j = m
  · subst hj; simp
  · rw [if_neg hj]
    by_cases h2 : j < m
    · rw [if_pos h2, if_pos (by omega)]
    · rw [if_neg h2, if_neg (by omega)]
/-- the trial: days of a state and a gain -/
abbrev wTr (E : gE) (h0 h1 h2 h3 n : Nat) (fs fg : Nat → Int32) : va_W := (h0, .inr (8, [.ref h1])) :: wPr E h1 h2 h3 60 n fs fg
def atP (fs : Nat → Int32) (p : Int32) (k : Nat) : Bool := decide (p = -1) || decide (fs k / 6 = p)
def gsum (fs fg : Nat → Int32) (p : Int32) : Nat → Int32
  | 0 => 0
  | n + 1 => if atP fs p n then gsum fs fg p n + fg n else gsum fs fg p n
def absI (x : Int32) : Int32 := if 0 ≤ x then x else -x
def maxI (x y : Int32) : Int32 := if x < y then y else x
/-- greatest change so far, whether a day was, the last one's gain -/
def gturn (fs fg : Nat → Int32) (p : Int32) : Nat → Int32 × Bool × Int32
  | 0 => (0, false, 0)
  | n + 1 => if atP fs p n then (if (gturn fs fg p n).2.1 then maxI (gturn fs fg p n).1 (absI (fg n - (gturn fs fg p n).2.2)) else (gturn fs fg p n).1, true, fg n) else gturn fs fg p n
/-- causes: their kinds, and their two numbers -/
abbrev wCa (E : gE) (h0 h1 h2 h3 h4 : Nat) (kd : Nat → Int32) (n : Nat) (fa fb : Nat → Int32) : va_W := (h0, .inr (0, [.ref h1, .ref h2])) :: (h1, .inl (E.2 0, 8, .inl kd)) :: wPr E h2 h3 h4 8 n fa fb
def allw (kind a b : Int32) : Bool := if kind.toInt = 0 then true else if kind.toInt = 1 ∨ kind.toInt = 5 then wit a 0 3 && wit b 1 3 else if kind.toInt = 2 ∨ kind.toInt = 3 ∨ kind.toInt = 4 then wit a (-2) 2 && wit b (-2) 2 else false
def hang (p a b z : Int32) : Int32 := if 2 ≤ p then (if p - 2 - a + 4 - (p - 2 - a + 4) / 4 * 4 = 0 then b else if p - 2 - a + 4 - (p - 2 - a + 4) / 4 * 4 = 2 then -b else z) else 0
def shF (kind a b s : Int32) : Int32 :=
  if kind.toInt = 1 then hang (s / 6) a b 0
  else if kind.toInt = 2 then (if 3 ≤ s - s / 6 * 6 then b else a)
  else if kind.toInt = 3 then (if 3 ≤ s - s / 6 * 6 then b else a) + (if s - s / 3 * 3 = 0 then 1 else 0)
  else if kind.toInt = 4 then a * (s - s / 3 * 3 - 1) + (if s - s / 3 * 3 = 1 then b else 0)
  else if kind.toInt = 5 then hang (s / 6) a b 1 else 1
def shw (kd : Nat → Int32) (n : Nat) (fa fb : Nat → Int32) (c s : Int32) : Int32 := if pin c n && wit s 0 35 then shF (kd c.toNatClampNeg) (fa c.toNatClampNeg) (fb c.toNatClampNeg) s else 0
theorem shw_lt {kd : Nat → Int32} {n : Nat} {fa fb : Nat → Int32} {c : Nat} {s : Int32} (hc : c < n) (hn : n ≤ 8) (hs : wit s 0 35 = true) : shw kd n fa fb (nI c) s = shF (kd c) (fa c) (fb c) s := by
  rw [shw, pin_lt hc (by omega), hs, nI_clamp (by omega)]
  rfl
theorem wSp_as {E : gE} {h0 h1 h2 h3 : Nat} {f0 : Nat → Int32} {th : Nat → Bool} {fr to : Nat → Int32} (e : f0 = fun j => bI (th j)) : [(h0, .inr (6, [.ref h1, .ref h2, .ref h3])), (h1, .inl (E.2 3, 36, .inl f0)), (h2, .inl (E.2 0, 36, .inl fr)), (h3, .inl (E.2 0, 36, .inl to))] = wSp E h0 h1 h2 h3 th fr to := by rw [e]
theorem le_f {a b : Int32} (h : b < a) : decide (a ≤ b) = false := decide_eq_false (fun q => by rw [i32_le] at q; rw [i32_lt] at h; omega)
theorem le_t {a b : Int32} (h : ¬ b < a) : decide (a ≤ b) = true := decide_eq_true (by rw [i32_le]; rw [i32_lt] at h; omega)
theorem leL_f {a b : Int64} (h : b < a) : decide (a ≤ b) = false := decide_eq_false (fun q => by rw [i64_le] at q; rw [i64_lt] at h; omega)
theorem leL_t {a b : Int64} (h : ¬ b < a) : decide (a ≤ b) = true := decide_eq_true (by rw [i64_le]; rw [i64_lt] at h; omega)
