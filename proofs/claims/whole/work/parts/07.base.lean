theorem nI_inc1 (k : Nat) : nI k + Int32.ofInt 1 = nI (k + 1) := nI_1 k
/-- a number within two bounds -/
def wit (v a b : Int32) : Bool := decide (a ≤ v) && decide (v ≤ b)
/-- i is a place below n -/
def pin (i : Int32) (n : Nat) : Bool := decide (0 ≤ i.toInt) && decide (i.toInt < n)
theorem pin_ex {i : Int32} {n : Nat} (h : pin i n = true) (hn : n < 2 ^ 31) : ∃ k, k < n ∧ i = nI k := by
  simp only [pin, Bool.and_eq_true, decide_eq_true_eq] at h
  exact vp_in_of (vp_in_iff.mpr h) hn
theorem pin_nI {k n : Nat} (hk : k < 2 ^ 31) : pin (nI k) n = decide (k < n) := by
  simp only [pin, nI_toInt hk]
  simp
theorem pin_lt {k n : Nat} (h : k < n) (hn : n < 2 ^ 31) : pin (nI k) n = true := by
  rw [pin_nI (by omega)]
  exact decide_eq_true h
theorem i32_lt (a b : Int32) : a < b ↔ a.toInt < b.toInt := Int32.lt_iff_toInt_lt
theorem i32_le (a b : Int32) : a ≤ b ↔ a.toInt ≤ b.toInt := Int32.le_iff_toInt_le
theorem i32_eq (a b : Int32) : a = b ↔ a.toInt = b.toInt := Int32.toInt_inj.symm
theorem i64_lt (a b : Int64) : a < b ↔ a.toInt < b.toInt := Int64.lt_iff_toInt_lt
theorem i64_le (a b : Int64) : a ≤ b ↔ a.toInt ≤ b.toInt := Int64.le_iff_toInt_le
theorem i64_eq (a b : Int64) : a = b ↔ a.toInt = b.toInt := Int64.toInt_inj.symm
/-- pairs: two rows and how many are used -/
abbrev wPr (E : gE) (h0 h1 h2 cap n : Nat) (fa fb : Nat → Int32) : va_W := [(h0, .inr (2, [.ref h1, .ref h2, .int (nI n)])), (h1, .inl (E.2 0, cap, .inl fa)), (h2, .inl (E.2 0, cap, .inl fb))]
def pget (f : Nat → Int32) (n : Nat) (i : Int32) : Int32 := if pin i n then f i.toNatClampNeg else 0
theorem pget_lt {f : Nat → Int32} {n k : Nat} (hk : k < n) (hn : n < 2 ^ 31) : pget f n (nI k) = f k := by
  rw [pget, if_pos (pin_lt hk hn), nI_clamp (by omega)]
theorem nI_m1 {n : Nat} (h : 0 < n) : nI n - 1 = nI (n - 1) := by
  obtain ⟨m, rfl⟩ : ∃ m, n = m + 1 := ⟨n - 1, by omega⟩
  exact nI_pred m
/-- the row f from k on, up to t, moved down by one -/
def shl (f : Nat → Int32) (k t : Nat) : Nat → Int32 := fun j => if k ≤ j ∧ j < t then f (j + 1) else f j
theorem shl_0 (f : Nat → Int32) (k : Nat) : shl f k k = f := by
  funext j
  unfold shl
  rw [if_neg (by omega)]
theorem shl_s (f : Nat → Int32) {k t : Nat} (h : k ≤ t) : upd (shl f k t) t (shl f k t (t + 1)) = shl f k (t + 1) := by
  funext j
  unfold upd shl
  by_cases hj : j = t
  · subst hj
    rw [if_pos rfl, if_neg (by omega), if_pos (by omega)]
  · rw [if_neg hj]
    by_cases h2 : k ≤ j ∧ j < t
    · rw [if_pos h2, if_pos (by omega)]
    · rw [if_neg h2, if_neg (by omega)]
/-- the first m of g, then f -/
def cpy {α : Type} (g f : Nat → α) (m : Nat) : Nat → α := fun j => if j < m then g j else f j
theorem cpy_0 {α : Type} (g f : Nat → α) : cpy g f 0 = f := by funext j; simp [cpy]
theorem cpy_s (g f : Nat → Int32) (m : Nat) : upd (cpy g f m) m (g m) = cpy g f (m + 1) := by
  funext j
  unfold upd cpy
  by_cases hj : j = m
  · subst hj; simp
  · rw [if_neg hj]
    by_cases h2 : j < m
    · rw [if_pos h2, if_pos (by omega)]
    · rw [if_neg h2, if_neg (by omega)]
theorem wit_f1 {v a b : Int32} (h : v < a) : wit v a b = false := by
  rw [wit, decide_eq_false (fun q => by rw [i32_le] at q; rw [i32_lt] at h; omega)]
  rfl
theorem wit_f2 {v a b : Int32} (h : b < v) : wit v a b = false := by
  rw [wit, decide_eq_false (p := v ≤ b) (fun q => by rw [i32_le] at q; rw [i32_lt] at h; omega), Bool.and_false]
theorem wit_t {v a b : Int32} (h : ¬ v < a) (h2 : ¬ b < v) : wit v a b = true := by
  rw [wit, decide_eq_true (by rw [i32_le]; rw [i32_lt] at h; omega), decide_eq_true (by rw [i32_le]; rw [i32_lt] at h2; omega)]
  rfl
theorem pin_f1 {i : Int32} {n : Nat} (h : i < 0) : pin i n = false := by
  rw [i32_lt] at h
  have h0 : (0 : Int32).toInt = 0 := rfl
  rw [pin, decide_eq_false (by omega)]
  rfl
theorem pin_f2 {i : Int32} {n : Nat} (hn : n < 2 ^ 31) (h : nI n ≤ i) : pin i n = false := by
  rw [i32_le, nI_toInt hn] at h
  rw [pin, decide_eq_false (p := i.toInt < n) (by omega), Bool.and_false]
theorem pin_t {i : Int32} {n : Nat} (hn : n < 2 ^ 31) (h : ¬ i < 0) (h2 : ¬ nI n ≤ i) : pin i n = true := by
  rw [i32_lt] at h
  have h0 : (0 : Int32).toInt = 0 := rfl
  rw [i32_le, nI_toInt hn] at h2
  rw [pin, decide_eq_true (by omega), decide_eq_true (by omega)]
  rfl
theorem g_ts6_0 {Γ : gT} {l : Launch} {R : Room} {cc : ByteArray} {nL : Nat} {own : String} {E : gE} {ret : Option FieldType} {init : Bool} {post : Option Value → Nat → Nat → va_W → Prop} {u z pc : Nat} {lv : gLV} {st : List Value} {ws : va_W} (h : IsG Γ l R cc nL own E ret init post) {dflt o0 o1 o2 o3 o4 o5 : Int} {len : Nat} {x : Int32} {gd g0 g1 g2 g3 g4 g5 : Nat} (d : decode cc pc = .ok (.tableswitch dflt 0 5 #[o0, o1, o2, o3, o4, o5], len)) (t0 : (pc : Int) + o0 = (g0 : Int)) (t1 : (pc : Int) + o1 = (g1 : Int)) (t2 : (pc : Int) + o2 = (g2 : Int)) (t3 : (pc : Int) + o3 = (g3 : Int)) (t4 : (pc : Int) + o4 = (g4 : Int)) (t5 : (pc : Int) + o5 = (g5 : Int)) (td : (pc : Int) + dflt = (gd : Int)) (k0 : x.toInt = 0 → Γ u z g0 lv st ws) (k1 : x.toInt = 1 → Γ u z g1 lv st ws) (k2 : x.toInt = 2 → Γ u z g2 lv st ws) (k3 : x.toInt = 3 → Γ u z g3 lv st ws) (k4 : x.toInt = 4 → Γ u z g4 lv st ws) (k5 : x.toInt = 5 → Γ u z g5 lv st ws) (kd : (x.toInt < 0 ∨ 5 < x.toInt) → Γ u z gd lv st ws) : Γ u z pc lv (.int x :: st) ws := by
  by_cases e0 : x.toInt = 0
  · exact g_tsIn h 0 e0 d (by decide) (by decide) rfl t0 (k0 e0)
  by_cases e1 : x.toInt = 1
  · exact g_tsIn h 1 e1 d (by decide) (by decide) rfl t1 (k1 e1)
  by_cases e2 : x.toInt = 2
  · exact g_tsIn h 2 e2 d (by decide) (by decide) rfl t2 (k2 e2)
  by_cases e3 : x.toInt = 3
  · exact g_tsIn h 3 e3 d (by decide) (by decide) rfl t3 (k3 e3)
  by_cases e4 : x.toInt = 4
  · exact g_tsIn h 4 e4 d (by decide) (by decide) rfl t4 (k4 e4)
  by_cases e5 : x.toInt = 5
  · exact g_tsIn h 5 e5 d (by decide) (by decide) rfl t5 (k5 e5)
  exact g_tsOut h d (by omega) td (kd (by omega))
theorem g_ts5_1 {Γ : gT} {l : Launch} {R : Room} {cc : ByteArray} {nL : Nat} {own : String} {E : gE} {ret : Option FieldType} {init : Bool} {post : Option Value → Nat → Nat → va_W → Prop} {u z pc : Nat} {lv : gLV} {st : List Value} {ws : va_W} (h : IsG Γ l R cc nL own E ret init post) {dflt o0 o1 o2 o3 o4 : Int} {len : Nat} {x : Int32} {gd g0 g1 g2 g3 g4 : Nat} (d : decode cc pc = .ok (.tableswitch dflt 1 5 #[o0, o1, o2, o3, o4], len)) (t0 : (pc : Int) + o0 = (g0 : Int)) (t1 : (pc : Int) + o1 = (g1 : Int)) (t2 : (pc : Int) + o2 = (g2 : Int)) (t3 : (pc : Int) + o3 = (g3 : Int)) (t4 : (pc : Int) + o4 = (g4 : Int)) (td : (pc : Int) + dflt = (gd : Int)) (k0 : x.toInt = 1 → Γ u z g0 lv st ws) (k1 : x.toInt = 2 → Γ u z g1 lv st ws) (k2 : x.toInt = 3 → Γ u z g2 lv st ws) (k3 : x.toInt = 4 → Γ u z g3 lv st ws) (k4 : x.toInt = 5 → Γ u z g4 lv st ws) (kd : (x.toInt < 1 ∨ 5 < x.toInt) → Γ u z gd lv st ws) : Γ u z pc lv (.int x :: st) ws := by
  by_cases e0 : x.toInt = 1
  · exact g_tsIn h 1 e0 d (by decide) (by decide) rfl t0 (k0 e0)
  by_cases e1 : x.toInt = 2
  · exact g_tsIn h 2 e1 d (by decide) (by decide) rfl t1 (k1 e1)
  by_cases e2 : x.toInt = 3
  · exact g_tsIn h 3 e2 d (by decide) (by decide) rfl t2 (k2 e2)
  by_cases e3 : x.toInt = 4
  · exact g_tsIn h 4 e3 d (by decide) (by decide) rfl t3 (k3 e3)
  by_cases e4 : x.toInt = 5
  · exact g_tsIn h 5 e4 d (by decide) (by decide) rfl t4 (k4 e4)
  exact g_tsOut h d (by omega) td (kd (by omega))
