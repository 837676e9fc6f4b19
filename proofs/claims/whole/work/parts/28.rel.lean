/-! What the class's state has to do with the reference's. -/
/-- the stock against the reference's row -/
def rSt (s : sSt) (f : Nat → Int32) : Prop :=
  (s.1.2.1 ≤ 8 ∧ f 0 = nI s.1.2.1 ∧ ∀ j, j < s.1.2.1 → f (8 + j) = s.1.1 j ∧ f (16 + j) = s.1.2.2.1 j ∧ f (24 + j) = s.1.2.2.2 j ∧ allw (s.1.1 j) (s.1.2.2.1 j) (s.1.2.2.2 j) = true) ∧
  (s.2.1.1 ≤ 20 ∧ f 1 = nI s.2.1.1 ∧ ∀ j, j < s.2.1.1 → f (32 + j) = s.2.1.2.1 j ∧ f (52 + j) = s.2.1.2.2 j ∧ wit (s.2.1.2.1 j) 0 35 = true ∧ wit (s.2.1.2.2 j) (-300) 300 = true) ∧
  (s.2.2.1.1 ≤ 8 ∧ f 2 = nI s.2.2.1.1 ∧ ∀ j, j < s.2.2.1.1 → f (72 + j) = s.2.2.1.2.1 j ∧ f (80 + j) = s.2.2.1.2.2 j ∧ pin (s.2.2.1.2.1 j) s.1.2.1 = true ∧ wit (s.2.2.1.2.2 j) (-200) 200 = true) ∧
  (∀ j, j < 36 → s.2.2.2.1 j = decide (f (88 + j) ≤ f (124 + j)) ∧ wit (f (88 + j)) (-1000) 1000 = true ∧ wit (f (124 + j)) (-1000) 1000 = true ∧ (s.2.2.2.1 j = true → f (88 + j) = s.2.2.2.2.1 j ∧ f (124 + j) = s.2.2.2.2.2 j))
def rKe (s : sSt) (b : Bool) (f : Nat → Int32) (i : Int32) : Prop := i = bI b ∧ (b = true → rSt s f)
def rSh (h : sSh) (f g : Nat → Int32) : Prop := ∀ k, k < 3 → g k = h.1 k ∧ wit (h.1 k) (-1) 36 = true ∧ ∀ j : Nat, (j : Int) < (h.1 k).toInt → f (36 * k + j) = h.2 k j
def rPd (p : sPd) : Prop := ∀ j, j < 5 → p.2.2.1 j ≤ 8
/-- the i-th cause of a model -/
def nthB : Nat → Nat → Nat → Nat
  | 0, _, _ => 0
  | n + 1, cs, i => if cs.testBit (8 - (n + 1)) then (if i = 0 then 8 - (n + 1) else nthB n cs (i - 1)) else nthB n cs i
def fresh (s : sSt) (z : sSz) (i14 i15 : Int32) (f16 : Nat → Int32) (f17 : Nat → Int64) (l18 l19 : Int64) : Prop :=
  i14 = nI z.2.2.1 ∧ i15 = nI (popc z.2.2.1) ∧ (∀ i, i < popc z.2.2.1 → f16 i = nI (nthB 8 z.2.2.1 i) ∧ f17 i = z.2.2.2.1 (nthB 8 z.2.2.1 i)) ∧ l18 = z.2.2.2.2.1 ∧ l19 = z.2.2.2.2.2 ∧
  1 ≤ popc z.2.2.1 ∧ popc z.2.2.1 ≤ 4 ∧ z.2.2.1 < 2 ^ s.1.2.1 ∧ 0 < z.2.2.2.2.1.toInt ∧ z.2.2.2.2.1.toInt < 2 ^ 35 ∧
  (∀ c, c < 8 → -(2 : Int) ^ 45 < (z.2.2.2.1 c).toInt ∧ (z.2.2.2.1 c).toInt < (2 : Int) ^ 45) ∧ -(2 : Int) ^ 60 < z.2.2.2.2.2.toInt ∧ z.2.2.2.2.2.toInt < (2 : Int) ^ 60
def rFo (s : sSt) (z : sSz) (i12 i13 i14 i15 : Int32) (f16 : Nat → Int32) (f17 : Nat → Int64) (l18 l19 : Int64) : Prop :=
  i12 = bI z.1 ∧ i13 = bI z.2.1 ∧ z.2.2.1 < 256 ∧ (z.1 = true → z.2.1 = false → fresh s z i14 i15 f16 f17 l18 l19)
def rTr (t : sTr) (n : Int32) (f g : Nat → Int32) : Prop := t.1 ≤ 60 ∧ n = nI t.1 ∧ ∀ j, j < t.1 → f j = t.2.1 j ∧ g j = t.2.2 j ∧ wit (t.2.1 j) 0 35 = true ∧ wit (t.2.2 j) (-1000) 1000 = true
def rTo (f : Nat → Int32) (w : Int32) (g : Nat → Int32) (v : Int32) : Prop := v = w ∧ ∃ k, k ≤ 16 ∧ w = nI k ∧ ∀ j, j < k → g j = f j
def rRe (f : Nat → Int32) (g : Nat → Int64) (c : Nat) : Prop := ∀ k, 1 ≤ k → k ≤ 7 → ∃ m, m ≤ c ∧ f k = nI m ∧ g k = lN m
def rR (T : sWB) (S : gS) (c : Nat) : Prop :=
  rSt T.1 (iA S 0) ∧ rKe T.2.1 T.2.2.1 (iA S 1) (iF S 2) ∧ rSh T.2.2.2.1 (iA S 3) (iA S 4) ∧ rPd T.2.2.2.2.1 ∧
  rFo T.1 T.2.2.2.2.2.1 (iF S 12) (iF S 13) (iF S 14) (iF S 15) (iA S 16) (lA S 17) (lF S 18) (lF S 19) ∧ T.2.2.2.2.2.2.1.toInt64 = lF S 11 ∧
  rTr T.2.2.2.2.2.2.2.2.1 (iF S 5) (iA S 6) (iA S 7) ∧ rTo T.2.2.2.2.2.2.2.2.2.1 T.2.2.2.2.2.2.2.2.2.2.1 (iA S 9) (iF S 8) ∧ rRe T.2.2.2.2.2.2.2.2.2.2.2 (lA S 10) c
/-- both answer alike, and their states go together again -/
def rOk (c : Nat) (x : Option (Int64 × sWB)) (y : Option (Int64 × gS)) : Prop := ∃ (v : Int64) (T : sWB) (S : gS), x = some (v, T) ∧ y = some (v, S) ∧ rR T S (c + 1)
def St_cause (fu : Nat) : Prop := ∀ (T : sWB) (S : gS) (c : Nat), rR T S c → c < 512 → ∀ (v0 : Int32) (v1 : Int32) (v2 : Int32), rOk c (fX10_cause fu T v0 v1 v2) (fX11_cause fu S v0 v1 v2)
def St_shows (fu : Nat) : Prop := ∀ (T : sWB) (S : gS) (c : Nat), rR T S c → c < 512 → ∀ (v0 : Int32) (v1 : Int32), rOk c (fX10_shows fu T v0 v1) (fX11_shows fu S v0 v1)
def St_as (fu : Nat) : Prop := ∀ (T : sWB) (S : gS) (c : Nat), rR T S c → c < 512 → ∀ (v0 : Int32) (v1 : Int32), rOk c (fX10_as fu T v0 v1) (fX11_as fu S v0 v1)
def St_read (fu : Nat) : Prop := ∀ (T : sWB) (S : gS) (c : Nat), rR T S c → c < 512 → ∀ (v0 : Int32) (v1 : Int32), rOk c (fX10_read fu T v0 v1) (fX11_read fu S v0 v1)
def St_drop (fu : Nat) : Prop := ∀ (T : sWB) (S : gS) (c : Nat), rR T S c → c < 512 → ∀ (v0 : Int32), rOk c (fX10_drop fu T v0) (fX11_drop fu S v0)
def St_reading (fu : Nat) : Prop := ∀ (T : sWB) (S : gS) (c : Nat), rR T S c → c < 512 → ∀ (v0 : Int32) (v1 : Int32), rOk c (fX10_reading fu T v0 v1) (fX11_reading fu S v0 v1)
def St_sheet (fu : Nat) : Prop := ∀ (T : sWB) (S : gS) (c : Nat), rR T S c → c < 512 → ∀ (v0 : Int32) (v1 : Int32), rOk c (fX10_sheet fu T v0 v1) (fX11_sheet fu S v0 v1)
def St_put (fu : Nat) : Prop := ∀ (T : sWB) (S : gS) (c : Nat), rR T S c → c < 512 → ∀ (v0 : Int32) (v1 : Int32) (v2 : Int32), rOk c (fX10_put fu T v0 v1 v2) (fX11_put fu S v0 v1 v2)
def St_lay (fu : Nat) : Prop := ∀ (T : sWB) (S : gS) (c : Nat), rR T S c → c < 512 → ∀ (v0 : Int32) (v1 : Int32), rOk c (fX10_lay fu T v0 v1) (fX11_lay fu S v0 v1)
def St_find (fu : Nat) : Prop := ∀ (T : sWB) (S : gS) (c : Nat), rR T S c → c < 512 → ∀ (v0 : Int32), rOk c (fX10_find fu T v0) (fX11_find fu S v0)
def St_loose (fu : Nat) : Prop := ∀ (T : sWB) (S : gS) (c : Nat), rR T S c → ∃ v : Int64, fX10_loose fu T = some v ∧ fX11_loose fu S = some v
def St_size (fu : Nat) : Prop := ∀ (T : sWB) (S : gS) (c : Nat), rR T S c → c < 512 → ∀ (v0 : Int32) (v1 : Bool), rOk c (fX10_size fu T v0 v1) (fX11_size fu S v0 v1)
def St_left (fu : Nat) : Prop := ∀ (T : sWB) (S : gS) (c : Nat), rR T S c → c < 512 → ∀ (v0 : Int32) (v1 : Bool), rOk c (fX10_left fu T v0 v1) (fX11_left fu S v0 v1)
def St_sum (fu : Nat) : Prop := ∀ (T : sWB) (S : gS) (c : Nat), rR T S c → c < 512 → ∀ (v0 : Bool), rOk c (fX10_sum fu T v0) (fX11_sum fu S v0)
def St_foretold (fu : Nat) : Prop := ∀ (T : sWB) (S : gS) (c : Nat), rR T S c → c < 512 → ∀ (v0 : Int32) (v1 : Bool), rOk c (fX10_foretold fu T v0 v1) (fX11_foretold fu S v0 v1)
def St_model (fu : Nat) : Prop := ∀ (T : sWB) (S : gS) (c : Nat), rR T S c → c < 512 → rOk c (fX10_model fu T ) (fX11_model fu S )
def St_few (fu : Nat) : Prop := ∀ (T : sWB) (S : gS) (c : Nat), rR T S c → c < 512 → ∀ (v0 : Int32), rOk c (fX10_few fu T v0) (fX11_few fu S v0)
def St_doubt (fu : Nat) : Prop := ∀ (T : sWB) (S : gS) (c : Nat), rR T S c → c < 512 → ∀ (v0 : Int32) (v1 : Bool) (v2 : Bool), rOk c (fX10_doubt fu T v0 v1 v2) (fX11_doubt fu S v0 v1 v2)
def St_spare (fu : Nat) : Prop := ∀ (T : sWB) (S : gS) (c : Nat), rR T S c → c < 512 → rOk c (fX10_spare fu T ) (fX11_spare fu S )
def St_mend (fu : Nat) : Prop := ∀ (T : sWB) (S : gS) (c : Nat), rR T S c → c < 512 → ∀ (v0 : Int32) (v1 : Int32), rOk c (fX10_mend fu T v0 v1) (fX11_mend fu S v0 v1)
def St_span (fu : Nat) : Prop := ∀ (T : sWB) (S : gS) (c : Nat), rR T S c → c < 512 → ∀ (v0 : Int32) (v1 : Int32) (v2 : Int32), rOk c (fX10_span fu T v0 v1 v2) (fX11_span fu S v0 v1 v2)
def St_behind (fu : Nat) : Prop := ∀ (T : sWB) (S : gS) (c : Nat), rR T S c → c < 512 → ∀ (v0 : Int32) (v1 : Int32) (v2 : Int32) (v3 : Int32) (v4 : Int32) (v5 : Bool), rOk c (fX10_behind fu T v0 v1 v2 v3 v4 v5) (fX11_behind fu S v0 v1 v2 v3 v4 v5)
def St_worst (fu : Nat) : Prop := ∀ (T : sWB) (S : gS) (c : Nat), rR T S c → c < 512 → ∀ (v0 : Bool), rOk c (fX10_worst fu T v0) (fX11_worst fu S v0)
def St_best (fu : Nat) : Prop := ∀ (T : sWB) (S : gS) (c : Nat), rR T S c → c < 512 → rOk c (fX10_best fu T ) (fX11_best fu S )
def St_paper (fu : Nat) : Prop := ∀ (T : sWB) (S : gS) (c : Nat), rR T S c → c < 512 → rOk c (fX10_paper fu T ) (fX11_paper fu S )
def St_day (fu : Nat) : Prop := ∀ (T : sWB) (S : gS) (c : Nat), rR T S c → c < 512 → ∀ (v0 : Int32) (v1 : Int32), rOk c (fX10_day fu T v0 v1) (fX11_day fu S v0 v1)
def St_anew (fu : Nat) : Prop := ∀ (T : sWB) (S : gS) (c : Nat), rR T S c → c < 512 → rOk c (fX10_anew fu T ) (fX11_anew fu S )
def St_mean (fu : Nat) : Prop := ∀ (T : sWB) (S : gS) (c : Nat), rR T S c → c < 512 → ∀ (v0 : Int32) (v1 : Bool), rOk c (fX10_mean fu T v0 v1) (fX11_mean fu S v0 v1)
def St_change (fu : Nat) : Prop := ∀ (T : sWB) (S : gS) (c : Nat), rR T S c → c < 512 → ∀ (v0 : Int32), rOk c (fX10_change fu T v0) (fX11_change fu S v0)
def St_tell (fu : Nat) : Prop := ∀ (T : sWB) (S : gS) (c : Nat), rR T S c → c < 512 → ∀ (v0 : Int32), rOk c (fX10_tell fu T v0) (fX11_tell fu S v0)
def St_check (fu : Nat) : Prop := ∀ (T : sWB) (S : gS) (c : Nat), rR T S c → c < 512 → rOk c (fX10_check fu T ) (fX11_check fu S )
def St_keep (fu : Nat) : Prop := ∀ (T : sWB) (S : gS) (c : Nat), rR T S c → c < 512 → rOk c (fX10_keep fu T ) (fX11_keep fu S )
def St_back (fu : Nat) : Prop := ∀ (T : sWB) (S : gS) (c : Nat), rR T S c → c < 512 → rOk c (fX10_back fu T ) (fX11_back fu S )
def St_count (fu : Nat) : Prop := ∀ (T : sWB) (S : gS) (c : Nat), rR T S c → c < 512 → ∀ (v0 : Int32), rOk c (fX10_count fu T v0) (fX11_count fu S v0)
def St_found (fu : Nat) : Prop := ∀ (T : sWB) (S : gS) (c : Nat), rR T S c → c < 512 → ∀ (v0 : Int32), rOk c (fX10_found fu T v0) (fX11_found fu S v0)
