theorem nI_inc1 (k : Nat) : nI k + Int32.ofInt 1 = nI (k + 1) := nI_1 k
/-- a number within two bounds -/
def wit (v a b : Int32) : Bool := decide (a ≤ v) && decide (v ≤ b)
/-- i is a place below n -/
def pin (i : Int32) (n : Nat) : Bool := decide (0 ≤ i.toInt) && decide (i.toInt < n)
theorem pin_ex {i : Int32} {n : Nat} (h : pin i n = true) (hn : n < 2 ^ 31) : ∃ k, k < n ∧ i = nI k := by
  simp only [pin, Bool.and_eq_true, decide_eq_true_eq] at h
  exact vp_in_of (vp_in_iff.mpr h) hn
theorem pin_nI {k n : Nat} (hk : k < 2 ^ 31) : pin (nI k) n = decide (k < n) := by
  simp only [pin, nI_toInt hk]
  simp
theorem pin_lt {k n : Nat} (h : k < n) (hn : n < 2 ^ 31) : pin (nI k) n = true := by
  rw [pin_nI (by omega)]
  exact decide_eq_true h
theorem i32_lt (a b : Int32) : a < b ↔ a.toInt < b.toInt := Int32.lt_iff_toInt_lt
theorem i32_le (a b : Int32) : a ≤ b ↔ a.toInt ≤ b.toInt := Int32.le_iff_toInt_le
theorem i32_eq (a b : Int32) : a = b ↔ a.toInt = b.toInt := Int32.toInt_inj.symm
theorem i64_lt (a b : Int64) : a < b ↔ a.toInt < b.toInt := Int64.lt_iff_toInt_lt
theorem i64_le (a b : Int64) : a ≤ b ↔ a.toInt ≤ b.toInt := Int64.le_iff_toInt_le
theorem i64_eq (a b : Int64) : a = b ↔ a.toInt = b.toInt := Int64.toInt_inj.symm
/-- pairs: two rows and how many are used -/
abbrev wPr (E : gE) (h0 h1 h2 cap n : Nat) (fa fb : Nat → Int32) : va_W := [(h0, .inr (2, [.ref h1, .ref h2, .int (nI n)])), (h1, .inl (E.2 0, cap, .inl fa)), (h2, .inl (E.2 0, cap, .inl fb))]
def pget (f : Nat → Int32) (n : Nat) (i : Int32) : Int32 := if pin i n then f i.toNatClampNeg else 0
theorem pget_lt {f : Nat → Int32} {n k : Nat} (hk : k < n) (hn : n < 2 ^ 31) : pget f n (nI k) = f k := by
  rw [pget, if_pos (pin_lt hk hn), nI_clamp (by omega)]
theorem nI_m1 {n : Nat} (h : 0 < n) : nI n - 1 = nI (n - 1) := by
  obtain ⟨m, rfl⟩ : ∃ m, n = m + 1 := ⟨n - 1, by omega⟩
  exact nI_pred m
/-- the row f from k on, up to t, moved down by one -/
def shl (f : Nat → Int32) (k t : Nat) : Nat → Int32 := fun j => if k ≤ j ∧ j < t then f (j + 1) else f j
theorem shl_0 (f : Nat → Int32) (k : Nat) : shl f k k = f := by
  funext j
  unfold shl
  rw [if_neg (by omega)]
theorem shl_s (f : Nat → Int32) {k t : Nat} (h : k ≤ t) : upd (shl f k t) t (shl f k t (t + 1)) = shl f k (t + 1) := by
  funext j
  unfold upd shl
  by_cases hj : j = t
  · subst hj
    rw [if_pos rfl, if_neg (by omega), if_pos (by omega)]
  · rw [if_neg hj]
    by_cases h2 : k ≤ j ∧ j < t
    · rw [if_pos h2, if_pos (by omega)]
    · rw [if_neg h2, if_neg (by omega)]
/-- the first m of g, then f -/
def cpy {α : Type} (g f : Nat → α) (m : Nat) : Nat → α := fun j => if j < m then g j else f j
theorem cpy_0 {α : Type} (g f : Nat → α) : cpy g f 0 = f := by funext j; simp [cpy]
theorem cpy_s (g f : Nat → Int32) (m : Nat) : upd (cpy g f m) m (g m) = cpy g f (m + 1) := by
  funext j
  unfold upd cpy
  by_cases hj : j = m
  · subst hj; simp
  · rw [if_neg hj]
    by_cases h2 : j < m
    · rw [if_pos h2, if_pos (by omega)]
    · rw [if_neg h2, if_neg (by omega)]
theorem wit_f1 {v a b : Int32} (h : v < a) : wit v a b = false := by
  rw [wit, decide_eq_false (fun q => by rw [i32_le] at q; rw [i32_lt] at h; omega)]
  rfl
theorem wit_f2 {v a b : Int32} (h : b < v) : wit v a b = false := by
  rw [wit, decide_eq_false (p := v ≤ b) (fun q => by rw [i32_le] at q; rw [i32_lt] at h; omega), Bool.and_false]
theorem wit_t {v a b : Int32} (h : ¬ v < a) (h2 : ¬ b < v) : wit v a b = true := by
  rw [wit, decide_eq_true (by rw [i32_le]; rw [i32_lt] at h; omega), decide_eq_true (by rw [i32_le]; rw [i32_lt] at h2; omega)]
  rfl
theorem pin_f1 {i : Int32} {n : Nat} (h : i < 0) : pin i n = false := by
  rw [i32_lt] at h
  have h0 : (0 : Int32).toInt = 0 := rfl
  rw [pin, decide_eq_false (by omega)]
  rfl
theorem pin_f2 {i : Int32} {n : Nat} (hn : n < 2 ^ 31) (h : nI n ≤ i) : pin i n = false := by
  rw [i32_le, nI_toInt hn] at h
  rw [pin, decide_eq_false (p := i.toInt < n) (by omega), Bool.and_false]
theorem pin_t {i : Int32} {n : Nat} (hn : n < 2 ^ 31) (h : ¬ i < 0) (h2 : ¬ nI n ≤ i) : pin i n = true := by
  rw [i32_lt] at h
  have h0 : (0 : Int32).toInt = 0 := rfl
  rw [i32_le, nI_toInt hn] at h2
  rw [pin, decide_eq_true (by omega), decide_eq_true (by omega)]
  rfl
theorem g_ts5_0 {Γ : gT} {l : Launch} {R : Room} {cc : ByteArray} {nL : Nat} {own : String} {E : gE} {ret : Option FieldType} {init : Bool} {post : Option Value → Nat → Nat → va_W → Prop} {u z pc : Nat} {lv : gLV} {st : List Value} {ws : va_W} (h : IsG Γ l R cc nL own E ret init post) {dflt o0 o1 o2 o3 o4 : Int} {len : Nat} {x : Int32} {gd g0 g1 g2 g3 g4 : Nat} (d : decode cc pc = .ok (.tableswitch dflt 0 4 #[o0, o1, o2, o3, o4], len)) (t0 : (pc : Int) + o0 = (g0 : Int)) (t1 : (pc : Int) + o1 = (g1 : Int)) (t2 : (pc : Int) + o2 = (g2 : Int)) (t3 : (pc : Int) + o3 = (g3 : Int)) (t4 : (pc : Int) + o4 = (g4 : Int)) (td : (pc : Int) + dflt = (gd : Int)) (k0 : x.toInt = 0 → Γ u z g0 lv st ws) (k1 : x.toInt = 1 → Γ u z g1 lv st ws) (k2 : x.toInt = 2 → Γ u z g2 lv st ws) (k3 : x.toInt = 3 → Γ u z g3 lv st ws) (k4 : x.toInt = 4 → Γ u z g4 lv st ws) (kd : (x.toInt < 0 ∨ 4 < x.toInt) → Γ u z gd lv st ws) : Γ u z pc lv (.int x :: st) ws := by
  by_cases e0 : x.toInt = 0
  · exact g_tsIn h 0 e0 d (by decide) (by decide) rfl t0 (k0 e0)
  by_cases e1 : x.toInt = 1
  · exact g_tsIn h 1 e1 d (by decide) (by decide) rfl t1 (k1 e1)
  by_cases e2 : x.toInt = 2
  · exact g_tsIn h 2 e2 d (by decide) (by decide) rfl t2 (k2 e2)
  by_cases e3 : x.toInt = 3
  · exact g_tsIn h 3 e3 d (by decide) (by decide) rfl t3 (k3 e3)
  by_cases e4 : x.toInt = 4
  · exact g_tsIn h 4 e4 d (by decide) (by decide) rfl t4 (k4 e4)
  exact g_tsOut h d (by omega) td (kd (by omega))
theorem g_ts6_0 {Γ : gT} {l : Launch} {R : Room} {cc : ByteArray} {nL : Nat} {own : String} {E : gE} {ret : Option FieldType} {init : Bool} {post : Option Value → Nat → Nat → va_W → Prop} {u z pc : Nat} {lv : gLV} {st : List Value} {ws : va_W} (h : IsG Γ l R cc nL own E ret init post) {dflt o0 o1 o2 o3 o4 o5 : Int} {len : Nat} {x : Int32} {gd g0 g1 g2 g3 g4 g5 : Nat} (d : decode cc pc = .ok (.tableswitch dflt 0 5 #[o0, o1, o2, o3, o4, o5], len)) (t0 : (pc : Int) + o0 = (g0 : Int)) (t1 : (pc : Int) + o1 = (g1 : Int)) (t2 : (pc : Int) + o2 = (g2 : Int)) (t3 : (pc : Int) + o3 = (g3 : Int)) (t4 : (pc : Int) + o4 = (g4 : Int)) (t5 : (pc : Int) + o5 = (g5 : Int)) (td : (pc : Int) + dflt = (gd : Int)) (k0 : x.toInt = 0 → Γ u z g0 lv st ws) (k1 : x.toInt = 1 → Γ u z g1 lv st ws) (k2 : x.toInt = 2 → Γ u z g2 lv st ws) (k3 : x.toInt = 3 → Γ u z g3 lv st ws) (k4 : x.toInt = 4 → Γ u z g4 lv st ws) (k5 : x.toInt = 5 → Γ u z g5 lv st ws) (kd : (x.toInt < 0 ∨ 5 < x.toInt) → Γ u z gd lv st ws) : Γ u z pc lv (.int x :: st) ws := by
  by_cases e0 : x.toInt = 0
  · exact g_tsIn h 0 e0 d (by decide) (by decide) rfl t0 (k0 e0)
  by_cases e1 : x.toInt = 1
  · exact g_tsIn h 1 e1 d (by decide) (by decide) rfl t1 (k1 e1)
  by_cases e2 : x.toInt = 2
  · exact g_tsIn h 2 e2 d (by decide) (by decide) rfl t2 (k2 e2)
  by_cases e3 : x.toInt = 3
  · exact g_tsIn h 3 e3 d (by decide) (by decide) rfl t3 (k3 e3)
  by_cases e4 : x.toInt = 4
  · exact g_tsIn h 4 e4 d (by decide) (by decide) rfl t4 (k4 e4)
  by_cases e5 : x.toInt = 5
  · exact g_tsIn h 5 e5 d (by decide) (by decide) rfl t5 (k5 e5)
  exact g_tsOut h d (by omega) td (kd (by omega))
theorem g_ts35_0 {Γ : gT} {l : Launch} {R : Room} {cc : ByteArray} {nL : Nat} {own : String} {E : gE} {ret : Option FieldType} {init : Bool} {post : Option Value → Nat → Nat → va_W → Prop} {u z pc : Nat} {lv : gLV} {st : List Value} {ws : va_W} (h : IsG Γ l R cc nL own E ret init post) {dflt o0 o1 o2 o3 o4 o5 o6 o7 o8 o9 o10 o11 o12 o13 o14 o15 o16 o17 o18 o19 o20 o21 o22 o23 o24 o25 o26 o27 o28 o29 o30 o31 o32 o33 o34 : Int} {len : Nat} {x : Int32} {gd g0 g1 g2 g3 g4 g5 g6 g7 g8 g9 g10 g11 g12 g13 g14 g15 g16 g17 g18 g19 g20 g21 g22 g23 g24 g25 g26 g27 g28 g29 g30 g31 g32 g33 g34 : Nat} (d : decode cc pc = .ok (.tableswitch dflt 0 34 #[o0, o1, o2, o3, o4, o5, o6, o7, o8, o9, o10, o11, o12, o13, o14, o15, o16, o17, o18, o19, o20, o21, o22, o23, o24, o25, o26, o27, o28, o29, o30, o31, o32, o33, o34], len)) (t0 : (pc : Int) + o0 = (g0 : Int)) (t1 : (pc : Int) + o1 = (g1 : Int)) (t2 : (pc : Int) + o2 = (g2 : Int)) (t3 : (pc : Int) + o3 = (g3 : Int)) (t4 : (pc : Int) + o4 = (g4 : Int)) (t5 : (pc : Int) + o5 = (g5 : Int)) (t6 : (pc : Int) + o6 = (g6 : Int)) (t7 : (pc : Int) + o7 = (g7 : Int)) (t8 : (pc : Int) + o8 = (g8 : Int)) (t9 : (pc : Int) + o9 = (g9 : Int)) (t10 : (pc : Int) + o10 = (g10 : Int)) (t11 : (pc : Int) + o11 = (g11 : Int)) (t12 : (pc : Int) + o12 = (g12 : Int)) (t13 : (pc : Int) + o13 = (g13 : Int)) (t14 : (pc : Int) + o14 = (g14 : Int)) (t15 : (pc : Int) + o15 = (g15 : Int)) (t16 : (pc : Int) + o16 = (g16 : Int)) (t17 : (pc : Int) + o17 = (g17 : Int)) (t18 : (pc : Int) + o18 = (g18 : Int)) (t19 : (pc : Int) + o19 = (g19 : Int)) (t20 : (pc : Int) + o20 = (g20 : Int)) (t21 : (pc : Int) + o21 = (g21 : Int)) (t22 : (pc : Int) + o22 = (g22 : Int)) (t23 : (pc : Int) + o23 = (g23 : Int)) (t24 : (pc : Int) + o24 = (g24 : Int)) (t25 : (pc : Int) + o25 = (g25 : Int)) (t26 : (pc : Int) + o26 = (g26 : Int)) (t27 : (pc : Int) + o27 = (g27 : Int)) (t28 : (pc : Int) + o28 = (g28 : Int)) (t29 : (pc : Int) + o29 = (g29 : Int)) (t30 : (pc : Int) + o30 = (g30 : Int)) (t31 : (pc : Int) + o31 = (g31 : Int)) (t32 : (pc : Int) + o32 = (g32 : Int)) (t33 : (pc : Int) + o33 = (g33 : Int)) (t34 : (pc : Int) + o34 = (g34 : Int)) (td : (pc : Int) + dflt = (gd : Int)) (k0 : x.toInt = 0 → Γ u z g0 lv st ws) (k1 : x.toInt = 1 → Γ u z g1 lv st ws) (k2 : x.toInt = 2 → Γ u z g2 lv st ws) (k3 : x.toInt = 3 → Γ u z g3 lv st ws) (k4 : x.toInt = 4 → Γ u z g4 lv st ws) (k5 : x.toInt = 5 → Γ u z g5 lv st ws) (k6 : x.toInt = 6 → Γ u z g6 lv st ws) (k7 : x.toInt = 7 → Γ u z g7 lv st ws) (k8 : x.toInt = 8 → Γ u z g8 lv st ws) (k9 : x.toInt = 9 → Γ u z g9 lv st ws) (k10 : x.toInt = 10 → Γ u z g10 lv st ws) (k11 : x.toInt = 11 → Γ u z g11 lv st ws) (k12 : x.toInt = 12 → Γ u z g12 lv st ws) (k13 : x.toInt = 13 → Γ u z g13 lv st ws) (k14 : x.toInt = 14 → Γ u z g14 lv st ws) (k15 : x.toInt = 15 → Γ u z g15 lv st ws) (k16 : x.toInt = 16 → Γ u z g16 lv st ws) (k17 : x.toInt = 17 → Γ u z g17 lv st ws) (k18 : x.toInt = 18 → Γ u z g18 lv st ws) (k19 : x.toInt = 19 → Γ u z g19 lv st ws) (k20 : x.toInt = 20 → Γ u z g20 lv st ws) (k21 : x.toInt = 21 → Γ u z g21 lv st ws) (k22 : x.toInt = 22 → Γ u z g22 lv st ws) (k23 : x.toInt = 23 → Γ u z g23 lv st ws) (k24 : x.toInt = 24 → Γ u z g24 lv st ws) (k25 : x.toInt = 25 → Γ u z g25 lv st ws) (k26 : x.toInt = 26 → Γ u z g26 lv st ws) (k27 : x.toInt = 27 → Γ u z g27 lv st ws) (k28 : x.toInt = 28 → Γ u z g28 lv st ws) (k29 : x.toInt = 29 → Γ u z g29 lv st ws) (k30 : x.toInt = 30 → Γ u z g30 lv st ws) (k31 : x.toInt = 31 → Γ u z g31 lv st ws) (k32 : x.toInt = 32 → Γ u z g32 lv st ws) (k33 : x.toInt = 33 → Γ u z g33 lv st ws) (k34 : x.toInt = 34 → Γ u z g34 lv st ws) (kd : (x.toInt < 0 ∨ 34 < x.toInt) → Γ u z gd lv st ws) : Γ u z pc lv (.int x :: st) ws := by
  by_cases e0 : x.toInt = 0
  · exact g_tsIn h 0 e0 d (by decide) (by decide) rfl t0 (k0 e0)
  by_cases e1 : x.toInt = 1
  · exact g_tsIn h 1 e1 d (by decide) (by decide) rfl t1 (k1 e1)
  by_cases e2 : x.toInt = 2
  · exact g_tsIn h 2 e2 d (by decide) (by decide) rfl t2 (k2 e2)
  by_cases e3 : x.toInt = 3
  · exact g_tsIn h 3 e3 d (by decide) (by decide) rfl t3 (k3 e3)
  by_cases e4 : x.toInt = 4
  · exact g_tsIn h 4 e4 d (by decide) (by decide) rfl t4 (k4 e4)
  by_cases e5 : x.toInt = 5
  · exact g_tsIn h 5 e5 d (by decide) (by decide) rfl t5 (k5 e5)
  by_cases e6 : x.toInt = 6
  · exact g_tsIn h 6 e6 d (by decide) (by decide) rfl t6 (k6 e6)
  by_cases e7 : x.toInt = 7
  · exact g_tsIn h 7 e7 d (by decide) (by decide) rfl t7 (k7 e7)
  by_cases e8 : x.toInt = 8
  · exact g_tsIn h 8 e8 d (by decide) (by decide) rfl t8 (k8 e8)
  by_cases e9 : x.toInt = 9
  · exact g_tsIn h 9 e9 d (by decide) (by decide) rfl t9 (k9 e9)
  by_cases e10 : x.toInt = 10
  · exact g_tsIn h 10 e10 d (by decide) (by decide) rfl t10 (k10 e10)
  by_cases e11 : x.toInt = 11
  · exact g_tsIn h 11 e11 d (by decide) (by decide) rfl t11 (k11 e11)
  by_cases e12 : x.toInt = 12
  · exact g_tsIn h 12 e12 d (by decide) (by decide) rfl t12 (k12 e12)
  by_cases e13 : x.toInt = 13
  · exact g_tsIn h 13 e13 d (by decide) (by decide) rfl t13 (k13 e13)
  by_cases e14 : x.toInt = 14
  · exact g_tsIn h 14 e14 d (by decide) (by decide) rfl t14 (k14 e14)
  by_cases e15 : x.toInt = 15
  · exact g_tsIn h 15 e15 d (by decide) (by decide) rfl t15 (k15 e15)
  by_cases e16 : x.toInt = 16
  · exact g_tsIn h 16 e16 d (by decide) (by decide) rfl t16 (k16 e16)
  by_cases e17 : x.toInt = 17
  · exact g_tsIn h 17 e17 d (by decide) (by decide) rfl t17 (k17 e17)
  by_cases e18 : x.toInt = 18
  · exact g_tsIn h 18 e18 d (by decide) (by decide) rfl t18 (k18 e18)
  by_cases e19 : x.toInt = 19
  · exact g_tsIn h 19 e19 d (by decide) (by decide) rfl t19 (k19 e19)
  by_cases e20 : x.toInt = 20
  · exact g_tsIn h 20 e20 d (by decide) (by decide) rfl t20 (k20 e20)
  by_cases e21 : x.toInt = 21
  · exact g_tsIn h 21 e21 d (by decide) (by decide) rfl t21 (k21 e21)
  by_cases e22 : x.toInt = 22
  · exact g_tsIn h 22 e22 d (by decide) (by decide) rfl t22 (k22 e22)
  by_cases e23 : x.toInt = 23
  · exact g_tsIn h 23 e23 d (by decide) (by decide) rfl t23 (k23 e23)
  by_cases e24 : x.toInt = 24
  · exact g_tsIn h 24 e24 d (by decide) (by decide) rfl t24 (k24 e24)
  by_cases e25 : x.toInt = 25
  · exact g_tsIn h 25 e25 d (by decide) (by decide) rfl t25 (k25 e25)
  by_cases e26 : x.toInt = 26
  · exact g_tsIn h 26 e26 d (by decide) (by decide) rfl t26 (k26 e26)
  by_cases e27 : x.toInt = 27
  · exact g_tsIn h 27 e27 d (by decide) (by decide) rfl t27 (k27 e27)
  by_cases e28 : x.toInt = 28
  · exact g_tsIn h 28 e28 d (by decide) (by decide) rfl t28 (k28 e28)
  by_cases e29 : x.toInt = 29
  · exact g_tsIn h 29 e29 d (by decide) (by decide) rfl t29 (k29 e29)
  by_cases e30 : x.toInt = 30
  · exact g_tsIn h 30 e30 d (by decide) (by decide) rfl t30 (k30 e30)
  by_cases e31 : x.toInt = 31
  · exact g_tsIn h 31 e31 d (by decide) (by decide) rfl t31 (k31 e31)
  by_cases e32 : x.toInt = 32
  · exact g_tsIn h 32 e32 d (by decide) (by decide) rfl t32 (k32 e32)
  by_cases e33 : x.toInt = 33
  · exact g_tsIn h 33 e33 d (by decide) (by decide) rfl t33 (k33 e33)
  by_cases e34 : x.toInt = 34
  · exact g_tsIn h 34 e34 d (by decide) (by decide) rfl t34 (k34 e34)
  exact g_tsOut h d (by omega) td (kd (by omega))
theorem g_ts3_1 {Γ : gT} {l : Launch} {R : Room} {cc : ByteArray} {nL : Nat} {own : String} {E : gE} {ret : Option FieldType} {init : Bool} {post : Option Value → Nat → Nat → va_W → Prop} {u z pc : Nat} {lv : gLV} {st : List Value} {ws : va_W} (h : IsG Γ l R cc nL own E ret init post) {dflt o0 o1 o2 : Int} {len : Nat} {x : Int32} {gd g0 g1 g2 : Nat} (d : decode cc pc = .ok (.tableswitch dflt 1 3 #[o0, o1, o2], len)) (t0 : (pc : Int) + o0 = (g0 : Int)) (t1 : (pc : Int) + o1 = (g1 : Int)) (t2 : (pc : Int) + o2 = (g2 : Int)) (td : (pc : Int) + dflt = (gd : Int)) (k0 : x.toInt = 1 → Γ u z g0 lv st ws) (k1 : x.toInt = 2 → Γ u z g1 lv st ws) (k2 : x.toInt = 3 → Γ u z g2 lv st ws) (kd : (x.toInt < 1 ∨ 3 < x.toInt) → Γ u z gd lv st ws) : Γ u z pc lv (.int x :: st) ws := by
  by_cases e0 : x.toInt = 1
  · exact g_tsIn h 1 e0 d (by decide) (by decide) rfl t0 (k0 e0)
  by_cases e1 : x.toInt = 2
  · exact g_tsIn h 2 e1 d (by decide) (by decide) rfl t1 (k1 e1)
  by_cases e2 : x.toInt = 3
  · exact g_tsIn h 3 e2 d (by decide) (by decide) rfl t2 (k2 e2)
  exact g_tsOut h d (by omega) td (kd (by omega))
theorem g_ts5_1 {Γ : gT} {l : Launch} {R : Room} {cc : ByteArray} {nL : Nat} {own : String} {E : gE} {ret : Option FieldType} {init : Bool} {post : Option Value → Nat → Nat → va_W → Prop} {u z pc : Nat} {lv : gLV} {st : List Value} {ws : va_W} (h : IsG Γ l R cc nL own E ret init post) {dflt o0 o1 o2 o3 o4 : Int} {len : Nat} {x : Int32} {gd g0 g1 g2 g3 g4 : Nat} (d : decode cc pc = .ok (.tableswitch dflt 1 5 #[o0, o1, o2, o3, o4], len)) (t0 : (pc : Int) + o0 = (g0 : Int)) (t1 : (pc : Int) + o1 = (g1 : Int)) (t2 : (pc : Int) + o2 = (g2 : Int)) (t3 : (pc : Int) + o3 = (g3 : Int)) (t4 : (pc : Int) + o4 = (g4 : Int)) (td : (pc : Int) + dflt = (gd : Int)) (k0 : x.toInt = 1 → Γ u z g0 lv st ws) (k1 : x.toInt = 2 → Γ u z g1 lv st ws) (k2 : x.toInt = 3 → Γ u z g2 lv st ws) (k3 : x.toInt = 4 → Γ u z g3 lv st ws) (k4 : x.toInt = 5 → Γ u z g4 lv st ws) (kd : (x.toInt < 1 ∨ 5 < x.toInt) → Γ u z gd lv st ws) : Γ u z pc lv (.int x :: st) ws := by
  by_cases e0 : x.toInt = 1
  · exact g_tsIn h 1 e0 d (by decide) (by decide) rfl t0 (k0 e0)
  by_cases e1 : x.toInt = 2
  · exact g_tsIn h 2 e1 d (by decide) (by decide) rfl t1 (k1 e1)
  by_cases e2 : x.toInt = 3
  · exact g_tsIn h 3 e2 d (by decide) (by decide) rfl t2 (k2 e2)
  by_cases e3 : x.toInt = 4
  · exact g_tsIn h 4 e3 d (by decide) (by decide) rfl t3 (k3 e3)
  by_cases e4 : x.toInt = 5
  · exact g_tsIn h 5 e4 d (by decide) (by decide) rfl t4 (k4 e4)
  exact g_tsOut h d (by omega) td (kd (by omega))
