theorem gcX10_326 : Cond.constantLong RX10 326 (-9000000000000000000) ∈ gTT := gtm (by decide +kernel)
theorem gcX1_68 : Cond.constantLong RX1 68 9223372036854775807 ∈ gTT := gtm (by decide +kernel)
def fJ9_max_7cf53  (x : Int32) (y : Int32) : Option (Int32) := (some (if x < y then y else x))
theorem qJ9_max_7cf53 {l : Launch} {E : gE}    {x : Int32} {y : Int32} {r : Int32} (hf : fJ9_max_7cf53   x y = some r) : CtrF l yJ9_max_7cf53 cJ9_max_7cf53 2 (some .int) (gR 0 0) E [.int x, .int y] ([]) (some (.int r)) ([]) := by
  unfold fJ9_max_7cf53 at hf
  have er := Option.some.inj hf
  subst er
  exact kJ9_max_7cf53
def fJ9_min_7cf53  (x : Int32) (y : Int32) : Option (Int32) := (some (if y < x then y else x))
theorem qJ9_min_7cf53 {l : Launch} {E : gE}    {x : Int32} {y : Int32} {r : Int32} (hf : fJ9_min_7cf53   x y = some r) : CtrF l yJ9_min_7cf53 cJ9_min_7cf53 2 (some .int) (gR 0 0) E [.int x, .int y] ([]) (some (.int r)) ([]) := by
  unfold fJ9_min_7cf53 at hf
  have er := Option.some.inj hf
  subst er
  exact kJ9_min_7cf53
def fJ9_max_f86c9  (x : Int64) (y : Int64) : Option (Int64) := (some (if x < y then y else x))
theorem qJ9_max_f86c9 {l : Launch} {E : gE}    {x : Int64} {y : Int64} {r : Int64} (hf : fJ9_max_f86c9   x y = some r) : CtrF l yJ9_max_f86c9 cJ9_max_f86c9 4 (some .long) (gR 0 0) E [.long x, .long y] ([]) (some (.long r)) ([]) := by
  unfold fJ9_max_f86c9 at hf
  have er := Option.some.inj hf
  subst er
  exact kJ9_max_f86c9
def fJ9_abs_0f7a4  (x : Int32) : Option (Int32) := (some (if 0 ≤ x then x else -x))
theorem qJ9_abs_0f7a4 {l : Launch} {E : gE}    {x : Int32} {r : Int32} (hf : fJ9_abs_0f7a4   x = some r) : CtrF l yJ9_abs_0f7a4 cJ9_abs_0f7a4 1 (some .int) (gR 0 0) E [.int x] ([]) (some (.int r)) ([]) := by
  unfold fJ9_abs_0f7a4 at hf
  have er := Option.some.inj hf
  subst er
  exact kJ9_abs_0f7a4
def fJ9_abs_067f4  (x : Int64) : Option (Int64) := (some (if 0 ≤ x then x else -x))
theorem qJ9_abs_067f4 {l : Launch} {E : gE}    {x : Int64} {r : Int64} (hf : fJ9_abs_067f4   x = some r) : CtrF l yJ9_abs_067f4 cJ9_abs_067f4 2 (some .long) (gR 0 0) E [.long x] ([]) (some (.long r)) ([]) := by
  unfold fJ9_abs_067f4 at hf
  have er := Option.some.inj hf
  subst er
  exact kJ9_abs_067f4
def fJ6_bitCount_0f7a4  (x : Int32) : Option (Int32) := ((gIx x 256).bind fun k => (some (nI (popc k))))
theorem qJ6_bitCount_0f7a4 {l : Launch} {E : gE}    {x : Int32} {r : Int32} (hf : fJ6_bitCount_0f7a4   x = some r) : CtrF l yJ6_bitCount_0f7a4 cJ6_bitCount_0f7a4 1 (some .int) (gR 0 0) E [.int x] ([]) (some (.int r)) ([]) := by
  unfold fJ6_bitCount_0f7a4 at hf
  replace hf := gbind hf
  obtain ⟨k, q_k, hf⟩ := hf
  obtain ⟨e_k, b_k⟩ := gIx_s q_k
  clear q_k
  subst e_k
  have er := Option.some.inj hf
  subst er
  exact kJ6_bitCount_0f7a4 b_k
def fX2_within  (v : Int32) (a : Int32) (b : Int32) : Option (Bool) := (some (wit v a b))
theorem qX2_within {l : Launch} {E : gE}    {v : Int32} {a : Int32} {b : Int32} {r : Bool} (hf : fX2_within   v a b = some r) : CtrF l yX2_within cX2_within 3 (some .boolean) (gR 0 0) E [.int v, .int a, .int b] ([]) (some (.int (bI r))) ([]) := by
  unfold fX2_within at hf
  have er := Option.some.inj hf
  subst er
  exact kX2_within
def fX2_lowest  (a : Int64) (u : Int64) (b : Bool) : Option (Int64) := (some (lows a u b))
theorem qX2_lowest {l : Launch} {E : gE}    {a : Int64} {u : Int64} {b : Bool} {r : Int64} (hf : fX2_lowest   a u b = some r) : CtrF l yX2_lowest cX2_lowest 9 (some .long) (gR 1 26) E [.long a, .long u, .int (bI b)] ([]) (some (.long r)) ([]) := by
  unfold fX2_lowest at hf
  have er := Option.some.inj hf
  subst er
  exact kX2_lowest
def fX2_order  (a : Int64) (b : Int64) (c : Int64) (d : Int64) : Option (Int32) := (some (ordr 100 a b c d))
theorem qX2_order {l : Launch} {E : gE}    {a : Int64} {b : Int64} {c : Int64} {d : Int64} {r : Int32} (hf : fX2_order   a b c d = some r) : CtrF l yX2_order cX2_order 17 (some .int) (gR 1 25) E [.long a, .long b, .long c, .long d] ([]) (some (.int r)) ([]) := by
  unfold fX2_order at hf
  have er := Option.some.inj hf
  subst er
  exact kX2_order
def fX10_isState  (s : Int32) : Option (Bool) := (some (wit s 0 35))
theorem qX10_isState {l : Launch} {E : gE}    {s : Int32} {r : Bool} (hf : fX10_isState   s = some r) : CtrF l yX10_isState cX10_isState 1 (some .boolean) (gR 1 22) E [.int s] ([]) (some (.int (bI r))) ([]) := by
  unfold fX10_isState at hf
  have er := Option.some.inj hf
  subst er
  exact kX10_isState
def fX10_isRate  (s : Int32) : Option (Bool) := (some (wit s (-300) 300))
theorem qX10_isRate {l : Launch} {E : gE}    {s : Int32} {r : Bool} (hf : fX10_isRate   s = some r) : CtrF l yX10_isRate cX10_isRate 1 (some .boolean) (gR 1 22) E [.int s] ([]) (some (.int (bI r))) ([]) := by
  unfold fX10_isRate at hf
  have er := Option.some.inj hf
  subst er
  exact kX10_isRate
def fX10_isSteps  (s : Int32) : Option (Bool) := (some (wit s (-3) 3))
theorem qX10_isSteps {l : Launch} {E : gE}    {s : Int32} {r : Bool} (hf : fX10_isSteps   s = some r) : CtrF l yX10_isSteps cX10_isSteps 1 (some .boolean) (gR 1 22) E [.int s] ([]) (some (.int (bI r))) ([]) := by
  unfold fX10_isSteps at hf
  have er := Option.some.inj hf
  subst er
  exact kX10_isSteps
def fX9_isPlace  (s : Int32) : Option (Bool) := (some (wit s (-1) 5))
theorem qX9_isPlace {l : Launch} {E : gE}    {s : Int32} {r : Bool} (hf : fX9_isPlace   s = some r) : CtrF l yX9_isPlace cX9_isPlace 1 (some .boolean) (gR 1 22) E [.int s] ([]) (some (.int (bI r))) ([]) := by
  unfold fX9_isPlace at hf
  have er := Option.some.inj hf
  subst er
  exact kX9_isPlace
def fX0_isKind  (s : Int32) : Option (Bool) := (some (wit s 0 5))
theorem qX0_isKind {l : Launch} {E : gE}    {s : Int32} {r : Bool} (hf : fX0_isKind   s = some r) : CtrF l yX0_isKind cX0_isKind 1 (some .boolean) (gR 1 22) E [.int s] ([]) (some (.int (bI r))) ([]) := by
  unfold fX0_isKind at hf
  have er := Option.some.inj hf
  subst er
  exact kX0_isKind
def fX0_allows  (x : Int32) (a : Int32) (b : Int32) : Option (Bool) := (some (allw x a b))
theorem qX0_allows {l : Launch} {E : gE}    {x : Int32} {a : Int32} {b : Int32} {r : Bool} (hf : fX0_allows   x a b = some r) : CtrF l yX0_allows cX0_allows 3 (some .boolean) (gR 1 22) E [.int x, .int a, .int b] ([]) (some (.int (bI r))) ([]) := by
  unfold fX0_allows at hf
  have er := Option.some.inj hf
  subst er
  exact kX0_allows
def fX5_isSheet  (s : Int32) : Option (Bool) := (some (wit s 0 2))
theorem qX5_isSheet {l : Launch} {E : gE}    {s : Int32} {r : Bool} (hf : fX5_isSheet   s = some r) : CtrF l yX5_isSheet cX5_isSheet 1 (some .boolean) (gR 1 22) E [.int s] ([]) (some (.int (bI r))) ([]) := by
  unfold fX5_isSheet at hf
  have er := Option.some.inj hf
  subst er
  exact kX5_isSheet
def fX3_length (cap : Nat) (s0 : sPr)  : Option (Int32) := (some (nI s0.1))
theorem qX3_length {l : Launch} {E : gE} {a0 : Nat → Nat} {cap : Nat} {s0 : sPr}  {r : Int32} (hf : fX3_length cap s0  = some r) : CtrF l yX3_length cX3_length 1 (some .int) (gR 0 0) E [.ref (a0 0)] (wPr E (a0 0) (a0 1) (a0 2) cap s0.1 s0.2.1 s0.2.2) (some (.int r)) (wPr E (a0 0) (a0 1) (a0 2) cap s0.1 s0.2.1 s0.2.2) := by
  unfold fX3_length at hf
  have er := Option.some.inj hf
  subst er
  exact kX3_length
def fX3_has (cap : Nat) (s0 : sPr) (i : Int32) : Option (Bool) := (if s0.1 < 2 ^ 31 then some (pin i s0.1) else none)
theorem qX3_has {l : Launch} {E : gE} {a0 : Nat → Nat} {cap : Nat} {s0 : sPr} {i : Int32} {r : Bool} (hf : fX3_has cap s0 i = some r) : CtrF l yX3_has cX3_has 2 (some .boolean) (gR 0 0) E [.ref (a0 0), .int i] (wPr E (a0 0) (a0 1) (a0 2) cap s0.1 s0.2.1 s0.2.2) (some (.int (bI r))) (wPr E (a0 0) (a0 1) (a0 2) cap s0.1 s0.2.1 s0.2.2) := by
  unfold fX3_has at hf
  by_cases hg : s0.1 < 2 ^ 31
  · rw [if_pos hg] at hf
    have er := Option.some.inj hf
    subst er
    exact kX3_has hg
  · rw [if_neg hg] at hf; cases hf
def fX3_isFull (cap : Nat) (s0 : sPr)  : Option (Bool) := (if s0.1 < 2 ^ 31 ∧ cap < 2 ^ 31 then some (decide (cap ≤ s0.1)) else none)
theorem qX3_isFull {l : Launch} {E : gE} {a0 : Nat → Nat} {cap : Nat} {s0 : sPr}  {r : Bool} (hf : fX3_isFull cap s0  = some r) : CtrF l yX3_isFull cX3_isFull 1 (some .boolean) (gR 0 0) E [.ref (a0 0)] (wPr E (a0 0) (a0 1) (a0 2) cap s0.1 s0.2.1 s0.2.2) (some (.int (bI r))) (wPr E (a0 0) (a0 1) (a0 2) cap s0.1 s0.2.1 s0.2.2) := by
  unfold fX3_isFull at hf
  by_cases hg : s0.1 < 2 ^ 31 ∧ cap < 2 ^ 31
  · rw [if_pos hg] at hf
    have er := Option.some.inj hf
    subst er
    exact kX3_isFull hg.1 hg.2
  · rw [if_neg hg] at hf; cases hf
def fX3_first (cap : Nat) (s0 : sPr) (i : Int32) : Option (Int32) := (if s0.1 ≤ cap ∧ cap < 2 ^ 31 then some (pget s0.2.1 s0.1 i) else none)
theorem qX3_first {l : Launch} {E : gE} {a0 : Nat → Nat} {cap : Nat} {s0 : sPr} {i : Int32} {r : Int32} (hf : fX3_first cap s0 i = some r) : CtrF l yX3_first cX3_first 2 (some .int) (gR 1 21) E [.ref (a0 0), .int i] (wPr E (a0 0) (a0 1) (a0 2) cap s0.1 s0.2.1 s0.2.2) (some (.int r)) (wPr E (a0 0) (a0 1) (a0 2) cap s0.1 s0.2.1 s0.2.2) := by
  unfold fX3_first at hf
  by_cases hg : s0.1 ≤ cap ∧ cap < 2 ^ 31
  · rw [if_pos hg] at hf
    have er := Option.some.inj hf
    subst er
    exact kX3_first hg.1 hg.2
  · rw [if_neg hg] at hf; cases hf
def fX3_second (cap : Nat) (s0 : sPr) (i : Int32) : Option (Int32) := (if s0.1 ≤ cap ∧ cap < 2 ^ 31 then some (pget s0.2.2 s0.1 i) else none)
theorem qX3_second {l : Launch} {E : gE} {a0 : Nat → Nat} {cap : Nat} {s0 : sPr} {i : Int32} {r : Int32} (hf : fX3_second cap s0 i = some r) : CtrF l yX3_second cX3_second 2 (some .int) (gR 1 21) E [.ref (a0 0), .int i] (wPr E (a0 0) (a0 1) (a0 2) cap s0.1 s0.2.1 s0.2.2) (some (.int r)) (wPr E (a0 0) (a0 1) (a0 2) cap s0.1 s0.2.1 s0.2.2) := by
  unfold fX3_second at hf
  by_cases hg : s0.1 ≤ cap ∧ cap < 2 ^ 31
  · rw [if_pos hg] at hf
    have er := Option.some.inj hf
    subst er
    exact kX3_second hg.1 hg.2
  · rw [if_neg hg] at hf; cases hf
def fX3_append (cap : Nat) (s0 : sPr) (x : Int32) (y : Int32) : Option (Int32 × sPr) := (if s0.1 < cap ∧ cap < 2 ^ 31 then some ((nI s0.1), (s0.1 + 1, upd s0.2.1 s0.1 x, upd s0.2.2 s0.1 y)) else none)
theorem qX3_append {l : Launch} {E : gE} {a0 : Nat → Nat} {cap : Nat} {s0 : sPr} {x : Int32} {y : Int32} {r : Int32 × sPr} (hf : fX3_append cap s0 x y = some r) : CtrF l yX3_append cX3_append 3 (some .int) (gR 1 20) E [.ref (a0 0), .int x, .int y] (wPr E (a0 0) (a0 1) (a0 2) cap s0.1 s0.2.1 s0.2.2) (some (.int r.1)) (wPr E (a0 0) (a0 1) (a0 2) cap r.2.1 r.2.2.1 r.2.2.2) := by
  unfold fX3_append at hf
  by_cases hg : s0.1 < cap ∧ cap < 2 ^ 31
  · rw [if_pos hg] at hf
    have er := Option.some.inj hf
    subst er
    exact kX3_append hg.1 hg.2
  · rw [if_neg hg] at hf; cases hf
def fX3_removeAt (cap : Nat) (s0 : sPr) (i : Int32) : Option (sPr) := ((gIx i s0.1).bind fun k => (if s0.1 ≤ cap ∧ cap < 2 ^ 31 then some (s0.1 - 1, shl s0.2.1 k (s0.1 - 1), shl s0.2.2 k (s0.1 - 1)) else none))
theorem qX3_removeAt {l : Launch} {E : gE} {a0 : Nat → Nat} {cap : Nat} {s0 : sPr} {i : Int32} {r : sPr} (hf : fX3_removeAt cap s0 i = some r) : CtrF l yX3_removeAt cX3_removeAt 3 none (gR 1 21) E [.ref (a0 0), .int i] (wPr E (a0 0) (a0 1) (a0 2) cap s0.1 s0.2.1 s0.2.2) none (wPr E (a0 0) (a0 1) (a0 2) cap r.1 r.2.1 r.2.2) := by
  unfold fX3_removeAt at hf
  replace hf := gbind hf
  obtain ⟨k, q_k, hf⟩ := hf
  obtain ⟨e_k, b_k⟩ := gIx_s q_k
  clear q_k
  subst e_k
  by_cases hg : s0.1 ≤ cap ∧ cap < 2 ^ 31
  · rw [if_pos hg] at hf
    have er := Option.some.inj hf
    subst er
    exact kX3_removeAt b_k hg.1 hg.2
  · rw [if_neg hg] at hf; cases hf
def fX3_clear (cap : Nat) (s0 : sPr)  : Option (sPr) := (some (0, s0.2.1, s0.2.2))
theorem qX3_clear {l : Launch} {E : gE} {a0 : Nat → Nat} {cap : Nat} {s0 : sPr}  {r : sPr} (hf : fX3_clear cap s0  = some r) : CtrF l yX3_clear cX3_clear 1 none (gR 0 0) E [.ref (a0 0)] (wPr E (a0 0) (a0 1) (a0 2) cap s0.1 s0.2.1 s0.2.2) none (wPr E (a0 0) (a0 1) (a0 2) cap r.1 r.2.1 r.2.2) := by
  unfold fX3_clear at hf
  have er := Option.some.inj hf
  subst er
  exact kX3_clear
def fX0_length (s0 : sCa)  : Option (Int32) := (some (nI s0.2.1))
theorem qX0_length {l : Launch} {E : gE} {a0 : Nat → Nat}  {s0 : sCa}  {r : Int32} (hf : fX0_length  s0  = some r) : CtrF l yX0_length cX0_length 1 (some .int) (gR 1 20) E [.ref (a0 0)] (wCa E (a0 0) (a0 1) (a0 2) (a0 3) (a0 4) s0.1 s0.2.1 s0.2.2.1 s0.2.2.2) (some (.int r)) (wCa E (a0 0) (a0 1) (a0 2) (a0 3) (a0 4) s0.1 s0.2.1 s0.2.2.1 s0.2.2.2) := by
  unfold fX0_length at hf
  have er := Option.some.inj hf
  subst er
  exact kX0_length
def fX0_has (s0 : sCa) (i : Int32) : Option (Bool) := (if s0.2.1 ≤ 8 then some (pin i s0.2.1) else none)
theorem qX0_has {l : Launch} {E : gE} {a0 : Nat → Nat}  {s0 : sCa} {i : Int32} {r : Bool} (hf : fX0_has  s0 i = some r) : CtrF l yX0_has cX0_has 2 (some .boolean) (gR 1 21) E [.ref (a0 0), .int i] (wCa E (a0 0) (a0 1) (a0 2) (a0 3) (a0 4) s0.1 s0.2.1 s0.2.2.1 s0.2.2.2) (some (.int (bI r))) (wCa E (a0 0) (a0 1) (a0 2) (a0 3) (a0 4) s0.1 s0.2.1 s0.2.2.1 s0.2.2.2) := by
  unfold fX0_has at hf
  by_cases hg : s0.2.1 ≤ 8
  · rw [if_pos hg] at hf
    have er := Option.some.inj hf
    subst er
    exact kX0_has hg
  · rw [if_neg hg] at hf; cases hf
def fX0_isFull (s0 : sCa)  : Option (Bool) := (if s0.2.1 ≤ 8 then some (decide (8 ≤ s0.2.1)) else none)
theorem qX0_isFull {l : Launch} {E : gE} {a0 : Nat → Nat}  {s0 : sCa}  {r : Bool} (hf : fX0_isFull  s0  = some r) : CtrF l yX0_isFull cX0_isFull 1 (some .boolean) (gR 1 20) E [.ref (a0 0)] (wCa E (a0 0) (a0 1) (a0 2) (a0 3) (a0 4) s0.1 s0.2.1 s0.2.2.1 s0.2.2.2) (some (.int (bI r))) (wCa E (a0 0) (a0 1) (a0 2) (a0 3) (a0 4) s0.1 s0.2.1 s0.2.2.1 s0.2.2.2) := by
  unfold fX0_isFull at hf
  by_cases hg : s0.2.1 ≤ 8
  · rw [if_pos hg] at hf
    have er := Option.some.inj hf
    subst er
    exact kX0_isFull hg
  · rw [if_neg hg] at hf; cases hf
def fX0_append (s0 : sCa) (x : Int32) (a : Int32) (b : Int32) : Option (Int32 × sCa) := (if s0.2.1 < 8 ∧ wit x 0 5 = true then some ((nI s0.2.1), (upd s0.1 s0.2.1 x, s0.2.1 + 1, upd s0.2.2.1 s0.2.1 (if x = 0 then 0 else a), upd s0.2.2.2 s0.2.1 (if x = 0 then 0 else b))) else none)
theorem qX0_append {l : Launch} {E : gE} {a0 : Nat → Nat}  {s0 : sCa} {x : Int32} {a : Int32} {b : Int32} {r : Int32 × sCa} (hf : fX0_append  s0 x a b = some r) : CtrF l yX0_append cX0_append 4 (some .int) (gR 2 42) E [.ref (a0 0), .int x, .int a, .int b] (wCa E (a0 0) (a0 1) (a0 2) (a0 3) (a0 4) s0.1 s0.2.1 s0.2.2.1 s0.2.2.2) (some (.int r.1)) (wCa E (a0 0) (a0 1) (a0 2) (a0 3) (a0 4) r.2.1 r.2.2.1 r.2.2.2.1 r.2.2.2.2) := by
  unfold fX0_append at hf
  by_cases hg : s0.2.1 < 8 ∧ wit x 0 5 = true
  · rw [if_pos hg] at hf
    have er := Option.some.inj hf
    subst er
    exact kX0_append hg.1 hg.2
  · rw [if_neg hg] at hf; cases hf
def fX0_numberA (s0 : sCa) (i : Int32) : Option (Int32) := (if s0.2.1 ≤ 8 then some (pget s0.2.2.1 s0.2.1 i) else none)
theorem qX0_numberA {l : Launch} {E : gE} {a0 : Nat → Nat}  {s0 : sCa} {i : Int32} {r : Int32} (hf : fX0_numberA  s0 i = some r) : CtrF l yX0_numberA cX0_numberA 2 (some .int) (gR 2 42) E [.ref (a0 0), .int i] (wCa E (a0 0) (a0 1) (a0 2) (a0 3) (a0 4) s0.1 s0.2.1 s0.2.2.1 s0.2.2.2) (some (.int r)) (wCa E (a0 0) (a0 1) (a0 2) (a0 3) (a0 4) s0.1 s0.2.1 s0.2.2.1 s0.2.2.2) := by
  unfold fX0_numberA at hf
  by_cases hg : s0.2.1 ≤ 8
  · rw [if_pos hg] at hf
    have er := Option.some.inj hf
    subst er
    exact kX0_numberA hg
  · rw [if_neg hg] at hf; cases hf
def fX0_shownIn (s0 : sCa) (c : Int32) (s : Int32) : Option (Int32) := (if s0.2.1 ≤ 8 then some (shw s0.1 s0.2.1 s0.2.2.1 s0.2.2.2 c s) else none)
theorem qX0_shownIn {l : Launch} {E : gE} {a0 : Nat → Nat}  {s0 : sCa} {c : Int32} {s : Int32} {r : Int32} (hf : fX0_shownIn  s0 c s = some r) : CtrF l yX0_shownIn cX0_shownIn 8 (some .int) (gR 2 42) E [.ref (a0 0), .int c, .int s] (wCa E (a0 0) (a0 1) (a0 2) (a0 3) (a0 4) s0.1 s0.2.1 s0.2.2.1 s0.2.2.2) (some (.int r)) (wCa E (a0 0) (a0 1) (a0 2) (a0 3) (a0 4) s0.1 s0.2.1 s0.2.2.1 s0.2.2.2) := by
  unfold fX0_shownIn at hf
  by_cases hg : s0.2.1 ≤ 8
  · rw [if_pos hg] at hf
    have er := Option.some.inj hf
    subst er
    exact kX0_shownIn hg
  · rw [if_neg hg] at hf; cases hf
def fX7_has (s0 : sSp) (s : Int32) : Option (Bool) := (some (spHas s0.1 s))
theorem qX7_has {l : Launch} {E : gE} {a0 : Nat → Nat}  {s0 : sSp} {s : Int32} {r : Bool} (hf : fX7_has  s0 s = some r) : CtrF l yX7_has cX7_has 2 (some .boolean) (gR 2 42) E [.ref (a0 0), .int s] (wSp E (a0 0) (a0 1) (a0 2) (a0 3) s0.1 s0.2.1 s0.2.2) (some (.int (bI r))) (wSp E (a0 0) (a0 1) (a0 2) (a0 3) s0.1 s0.2.1 s0.2.2) := by
  unfold fX7_has at hf
  have er := Option.some.inj hf
  subst er
  exact kX7_has
def fX7_write (s0 : sSp) (s : Int32) (a : Int32) (b : Int32) : Option (sSp) := ((gIx s 36).bind fun k => (some (updB s0.1 k (decide (a ≤ b)), upd s0.2.1 k a, upd s0.2.2 k b)))
theorem qX7_write {l : Launch} {E : gE} {a0 : Nat → Nat}  {s0 : sSp} {s : Int32} {a : Int32} {b : Int32} {r : sSp} (hf : fX7_write  s0 s a b = some r) : CtrF l yX7_write cX7_write 4 none (gR 2 42) E [.ref (a0 0), .int s, .int a, .int b] (wSp E (a0 0) (a0 1) (a0 2) (a0 3) s0.1 s0.2.1 s0.2.2) none (wSp E (a0 0) (a0 1) (a0 2) (a0 3) r.1 r.2.1 r.2.2) := by
  unfold fX7_write at hf
  replace hf := gbind hf
  obtain ⟨k, q_k, hf⟩ := hf
  obtain ⟨e_k, b_k⟩ := gIx_s q_k
  clear q_k
  subst e_k
  have er := Option.some.inj hf
  subst er
  exact kX7_write b_k
def fX7_howMany (s0 : sSp)  : Option (Int32) := (some (nI (cnt s0.1 36)))
theorem qX7_howMany {l : Launch} {E : gE} {a0 : Nat → Nat}  {s0 : sSp}  {r : Int32} (hf : fX7_howMany  s0  = some r) : CtrF l yX7_howMany cX7_howMany 6 (some .int) (gR 0 0) E [.ref (a0 0)] (wSp E (a0 0) (a0 1) (a0 2) (a0 3) s0.1 s0.2.1 s0.2.2) (some (.int r)) (wSp E (a0 0) (a0 1) (a0 2) (a0 3) s0.1 s0.2.1 s0.2.2) := by
  unfold fX7_howMany at hf
  have er := Option.some.inj hf
  subst er
  exact kX7_howMany
def fX7_holds (s0 : sSp) (s : Int32) (x : Int64) (y : Int64) : Option (Bool) := ((gIx s 36).bind fun k => (some (s0.1 k && decide ((s0.2.1 k).toInt64 * y ≤ x) && decide (x ≤ (s0.2.2 k).toInt64 * y))))
theorem qX7_holds {l : Launch} {E : gE} {a0 : Nat → Nat}  {s0 : sSp} {s : Int32} {x : Int64} {y : Int64} {r : Bool} (hf : fX7_holds  s0 s x y = some r) : CtrF l yX7_holds cX7_holds 6 (some .boolean) (gR 3 63) E [.ref (a0 0), .int s, .long x, .long y] (wSp E (a0 0) (a0 1) (a0 2) (a0 3) s0.1 s0.2.1 s0.2.2) (some (.int (bI r))) (wSp E (a0 0) (a0 1) (a0 2) (a0 3) s0.1 s0.2.1 s0.2.2) := by
  unfold fX7_holds at hf
  replace hf := gbind hf
  obtain ⟨k, q_k, hf⟩ := hf
  obtain ⟨e_k, b_k⟩ := gIx_s q_k
  clear q_k
  subst e_k
  have er := Option.some.inj hf
  subst er
  exact kX7_holds b_k
def fX5_placesOf (s0 : sSh) (s : Int32) : Option (Int32) := (some (plc s0.1 s))
theorem qX5_placesOf {l : Launch} {E : gE} {a0 : Nat → Nat}  {s0 : sSh} {s : Int32} {r : Int32} (hf : fX5_placesOf  s0 s = some r) : CtrF l yX5_placesOf cX5_placesOf 2 (some .int) (gR 2 42) E [.ref (a0 0), .int s] (wSh E (a0 0) (a0 1) (a0 2) (a0 3) (a0 4) (a0 5) s0.1 s0.2) (some (.int r)) (wSh E (a0 0) (a0 1) (a0 2) (a0 3) (a0 4) (a0 5) s0.1 s0.2) := by
  unfold fX5_placesOf at hf
  have er := Option.some.inj hf
  subst er
  exact kX5_placesOf
def fX5_isMissing (s0 : sSh) (s : Int32) : Option (Bool) := (some (decide (plc s0.1 s = -1)))
theorem qX5_isMissing {l : Launch} {E : gE} {a0 : Nat → Nat}  {s0 : sSh} {s : Int32} {r : Bool} (hf : fX5_isMissing  s0 s = some r) : CtrF l yX5_isMissing cX5_isMissing 2 (some .boolean) (gR 3 63) E [.ref (a0 0), .int s] (wSh E (a0 0) (a0 1) (a0 2) (a0 3) (a0 4) (a0 5) s0.1 s0.2) (some (.int (bI r))) (wSh E (a0 0) (a0 1) (a0 2) (a0 3) (a0 4) (a0 5) s0.1 s0.2) := by
  unfold fX5_isMissing at hf
  have er := Option.some.inj hf
  subst er
  exact kX5_isMissing
def fX5_hasPlace (s0 : sSh) (s : Int32) (i : Int32) : Option (Bool) := (some (hasPl s0.1 s i))
theorem qX5_hasPlace {l : Launch} {E : gE} {a0 : Nat → Nat}  {s0 : sSh} {s : Int32} {i : Int32} {r : Bool} (hf : fX5_hasPlace  s0 s i = some r) : CtrF l yX5_hasPlace cX5_hasPlace 3 (some .boolean) (gR 3 63) E [.ref (a0 0), .int s, .int i] (wSh E (a0 0) (a0 1) (a0 2) (a0 3) (a0 4) (a0 5) s0.1 s0.2) (some (.int (bI r))) (wSh E (a0 0) (a0 1) (a0 2) (a0 3) (a0 4) (a0 5) s0.1 s0.2) := by
  unfold fX5_hasPlace at hf
  have er := Option.some.inj hf
  subst er
  exact kX5_hasPlace
def fX5_rateAt (s0 : sSh) (s : Int32) (i : Int32) : Option (Int32) := (some (rateA s0.1 s0.2 s i))
theorem qX5_rateAt {l : Launch} {E : gE} {a0 : Nat → Nat}  {s0 : sSh} {s : Int32} {i : Int32} {r : Int32} (hf : fX5_rateAt  s0 s i = some r) : CtrF l yX5_rateAt cX5_rateAt 3 (some .int) (gR 4 85) E [.ref (a0 0), .int s, .int i] (wSh E (a0 0) (a0 1) (a0 2) (a0 3) (a0 4) (a0 5) s0.1 s0.2) (some (.int r)) (wSh E (a0 0) (a0 1) (a0 2) (a0 3) (a0 4) (a0 5) s0.1 s0.2) := by
  unfold fX5_rateAt at hf
  have er := Option.some.inj hf
  subst er
  exact kX5_rateAt
def fX5_wasRead (s0 : sSh) (s : Int32) (i : Int32) : Option (Bool) := (some (wasR s0.1 s0.2 s i))
theorem qX5_wasRead {l : Launch} {E : gE} {a0 : Nat → Nat}  {s0 : sSh} {s : Int32} {i : Int32} {r : Bool} (hf : fX5_wasRead  s0 s i = some r) : CtrF l yX5_wasRead cX5_wasRead 3 (some .boolean) (gR 5 107) E [.ref (a0 0), .int s, .int i] (wSh E (a0 0) (a0 1) (a0 2) (a0 3) (a0 4) (a0 5) s0.1 s0.2) (some (.int (bI r))) (wSh E (a0 0) (a0 1) (a0 2) (a0 3) (a0 4) (a0 5) s0.1 s0.2) := by
  unfold fX5_wasRead at hf
  have er := Option.some.inj hf
  subst er
  exact kX5_wasRead
def fX5_write (s0 : sSh) (s : Int32) (i : Int32) (v : Int32) : Option (Int32 × sSh) := ((gIx s 3).bind fun k => ((gIx i 36).bind fun j => (if hasPl s0.1 (nI k) (nI j) = true then some (v.toInt16.toInt32, (s0.1, upd2 s0.2 k (upd (s0.2 k) j v.toInt16.toInt32))) else none)))
theorem qX5_write {l : Launch} {E : gE} {a0 : Nat → Nat}  {s0 : sSh} {s : Int32} {i : Int32} {v : Int32} {r : Int32 × sSh} (hf : fX5_write  s0 s i v = some r) : CtrF l yX5_write cX5_write 4 (some .int) (gR 5 107) E [.ref (a0 0), .int s, .int i, .int v] (wSh E (a0 0) (a0 1) (a0 2) (a0 3) (a0 4) (a0 5) s0.1 s0.2) (some (.int r.1)) (wSh E (a0 0) (a0 1) (a0 2) (a0 3) (a0 4) (a0 5) r.2.1 r.2.2) := by
  unfold fX5_write at hf
  replace hf := gbind hf
  obtain ⟨k, q_k, hf⟩ := hf
  obtain ⟨e_k, b_k⟩ := gIx_s q_k
  clear q_k
  subst e_k
  replace hf := gbind hf
  obtain ⟨j, q_j, hf⟩ := hf
  obtain ⟨e_j, b_j⟩ := gIx_s q_j
  clear q_j
  subst e_j
  by_cases hg : hasPl s0.1 (nI k) (nI j) = true
  · rw [if_pos hg] at hf
    have er := Option.some.inj hf
    subst er
    exact kX5_write b_k b_j hg
  · rw [if_neg hg] at hf; cases hf
def fX5_layOut (s0 : sSh) (s : Int32) (n : Int32) : Option (sSh) := ((gIx s 3).bind fun k => (if wit n (-1) 36 = true then some (upd s0.1 k n, upd2 s0.2 k (fillI (-32768) (s0.2 k) 36)) else none))
theorem qX5_layOut {l : Launch} {E : gE} {a0 : Nat → Nat}  {s0 : sSh} {s : Int32} {n : Int32} {r : sSh} (hf : fX5_layOut  s0 s n = some r) : CtrF l yX5_layOut cX5_layOut 3 none (gR 2 42) E [.ref (a0 0), .int s, .int n] (wSh E (a0 0) (a0 1) (a0 2) (a0 3) (a0 4) (a0 5) s0.1 s0.2) none (wSh E (a0 0) (a0 1) (a0 2) (a0 3) (a0 4) (a0 5) r.1 r.2) := by
  unfold fX5_layOut at hf
  replace hf := gbind hf
  obtain ⟨k, q_k, hf⟩ := hf
  obtain ⟨e_k, b_k⟩ := gIx_s q_k
  clear q_k
  subst e_k
  by_cases hg : wit n (-1) 36 = true
  · rw [if_pos hg] at hf
    have er := Option.some.inj hf
    subst er
    exact kX5_layOut b_k hg
  · rw [if_neg hg] at hf; cases hf
def fX5_howManyRead (s0 : sSh) (s : Int32) (n : Int32) : Option (Int32) := ((gIx n 37).bind fun m => (some (nI (cnt (fun j => wasR s0.1 s0.2 s (nI j)) m))))
theorem qX5_howManyRead {l : Launch} {E : gE} {a0 : Nat → Nat}  {s0 : sSh} {s : Int32} {n : Int32} {r : Int32} (hf : fX5_howManyRead  s0 s n = some r) : CtrF l yX5_howManyRead cX5_howManyRead 5 (some .int) (gR 6 129) E [.ref (a0 0), .int s, .int n] (wSh E (a0 0) (a0 1) (a0 2) (a0 3) (a0 4) (a0 5) s0.1 s0.2) (some (.int r)) (wSh E (a0 0) (a0 1) (a0 2) (a0 3) (a0 4) (a0 5) s0.1 s0.2) := by
  unfold fX5_howManyRead at hf
  replace hf := gbind hf
  obtain ⟨m, q_m, hf⟩ := hf
  obtain ⟨e_m, b_m⟩ := gIx_s q_m
  clear q_m
  subst e_m
  have er := Option.some.inj hf
  subst er
  exact kX5_howManyRead (Nat.le_of_lt_succ b_m)
def fX5_holdsRates (s0 : sSh) (s : Int32) (n : Int32) : Option (Bool) := ((gIx n 37).bind fun m => (some (hrate s0.1 s0.2 s m)))
theorem qX5_holdsRates {l : Launch} {E : gE} {a0 : Nat → Nat}  {s0 : sSh} {s : Int32} {n : Int32} {r : Bool} (hf : fX5_holdsRates  s0 s n = some r) : CtrF l yX5_holdsRates cX5_holdsRates 4 (some .boolean) (gR 6 129) E [.ref (a0 0), .int s, .int n] (wSh E (a0 0) (a0 1) (a0 2) (a0 3) (a0 4) (a0 5) s0.1 s0.2) (some (.int (bI r))) (wSh E (a0 0) (a0 1) (a0 2) (a0 3) (a0 4) (a0 5) s0.1 s0.2) := by
  unfold fX5_holdsRates at hf
  replace hf := gbind hf
  obtain ⟨m, q_m, hf⟩ := hf
  obtain ⟨e_m, b_m⟩ := gIx_s q_m
  clear q_m
  subst e_m
  have er := Option.some.inj hf
  subst er
  exact kX5_holdsRates (Nat.le_of_lt_succ b_m)
def fX6_areFound (s0 : sSz)  : Option (Bool) := (some s0.1)
theorem qX6_areFound {l : Launch} {E : gE} {a0 : Nat → Nat}  {s0 : sSz}  {r : Bool} (hf : fX6_areFound  s0  = some r) : CtrF l yX6_areFound cX6_areFound 1 (some .boolean) (gR 0 0) E [.ref (a0 0)] (wSz E (a0 0) (a0 1) s0.1 s0.2.1 s0.2.2.1 s0.2.2.2.1 s0.2.2.2.2.1 s0.2.2.2.2.2) (some (.int (bI r))) (wSz E (a0 0) (a0 1) s0.1 s0.2.1 s0.2.2.1 s0.2.2.2.1 s0.2.2.2.2.1 s0.2.2.2.2.2) := by
  unfold fX6_areFound at hf
  have er := Option.some.inj hf
  subst er
  exact kX6_areFound
def fX6_areStale (s0 : sSz)  : Option (Bool) := (some s0.2.1)
theorem qX6_areStale {l : Launch} {E : gE} {a0 : Nat → Nat}  {s0 : sSz}  {r : Bool} (hf : fX6_areStale  s0  = some r) : CtrF l yX6_areStale cX6_areStale 1 (some .boolean) (gR 0 0) E [.ref (a0 0)] (wSz E (a0 0) (a0 1) s0.1 s0.2.1 s0.2.2.1 s0.2.2.2.1 s0.2.2.2.2.1 s0.2.2.2.2.2) (some (.int (bI r))) (wSz E (a0 0) (a0 1) s0.1 s0.2.1 s0.2.2.1 s0.2.2.2.1 s0.2.2.2.2.1 s0.2.2.2.2.2) := by
  unfold fX6_areStale at hf
  have er := Option.some.inj hf
  subst er
  exact kX6_areStale
def fX6_causeSet (s0 : sSz)  : Option (Int32) := (some (nI s0.2.2.1))
theorem qX6_causeSet {l : Launch} {E : gE} {a0 : Nat → Nat}  {s0 : sSz}  {r : Int32} (hf : fX6_causeSet  s0  = some r) : CtrF l yX6_causeSet cX6_causeSet 1 (some .int) (gR 0 0) E [.ref (a0 0)] (wSz E (a0 0) (a0 1) s0.1 s0.2.1 s0.2.2.1 s0.2.2.2.1 s0.2.2.2.2.1 s0.2.2.2.2.2) (some (.int r)) (wSz E (a0 0) (a0 1) s0.1 s0.2.1 s0.2.2.1 s0.2.2.2.1 s0.2.2.2.2.1 s0.2.2.2.2.2) := by
  unfold fX6_causeSet at hf
  have er := Option.some.inj hf
  subst er
  exact kX6_causeSet
def fX6_below (s0 : sSz)  : Option (Int64) := (some s0.2.2.2.2.1)
theorem qX6_below {l : Launch} {E : gE} {a0 : Nat → Nat}  {s0 : sSz}  {r : Int64} (hf : fX6_below  s0  = some r) : CtrF l yX6_below cX6_below 1 (some .long) (gR 0 0) E [.ref (a0 0)] (wSz E (a0 0) (a0 1) s0.1 s0.2.1 s0.2.2.1 s0.2.2.2.1 s0.2.2.2.2.1 s0.2.2.2.2.2) (some (.long r)) (wSz E (a0 0) (a0 1) s0.1 s0.2.1 s0.2.2.1 s0.2.2.2.1 s0.2.2.2.2.1 s0.2.2.2.2.2) := by
  unfold fX6_below at hf
  have er := Option.some.inj hf
  subst er
  exact kX6_below
def fX6_squares (s0 : sSz)  : Option (Int64) := (some s0.2.2.2.2.2)
theorem qX6_squares {l : Launch} {E : gE} {a0 : Nat → Nat}  {s0 : sSz}  {r : Int64} (hf : fX6_squares  s0  = some r) : CtrF l yX6_squares cX6_squares 1 (some .long) (gR 0 0) E [.ref (a0 0)] (wSz E (a0 0) (a0 1) s0.1 s0.2.1 s0.2.2.1 s0.2.2.2.1 s0.2.2.2.2.1 s0.2.2.2.2.2) (some (.long r)) (wSz E (a0 0) (a0 1) s0.1 s0.2.1 s0.2.2.1 s0.2.2.2.1 s0.2.2.2.2.1 s0.2.2.2.2.2) := by
  unfold fX6_squares at hf
  have er := Option.some.inj hf
  subst er
  exact kX6_squares
def fX6_forget (s0 : sSz)  : Option (sSz) := (some (false, s0.2))
theorem qX6_forget {l : Launch} {E : gE} {a0 : Nat → Nat}  {s0 : sSz}  {r : sSz} (hf : fX6_forget  s0  = some r) : CtrF l yX6_forget cX6_forget 1 none (gR 0 0) E [.ref (a0 0)] (wSz E (a0 0) (a0 1) s0.1 s0.2.1 s0.2.2.1 s0.2.2.2.1 s0.2.2.2.2.1 s0.2.2.2.2.2) none (wSz E (a0 0) (a0 1) r.1 r.2.1 r.2.2.1 r.2.2.2.1 r.2.2.2.2.1 r.2.2.2.2.2) := by
  unfold fX6_forget at hf
  have er := Option.some.inj hf
  subst er
  exact kX6_forget
def fX6_growStale (s0 : sSz)  : Option (sSz) := (some (s0.1, true, s0.2.2))
theorem qX6_growStale {l : Launch} {E : gE} {a0 : Nat → Nat}  {s0 : sSz}  {r : sSz} (hf : fX6_growStale  s0  = some r) : CtrF l yX6_growStale cX6_growStale 1 none (gR 0 0) E [.ref (a0 0)] (wSz E (a0 0) (a0 1) s0.1 s0.2.1 s0.2.2.1 s0.2.2.2.1 s0.2.2.2.2.1 s0.2.2.2.2.2) none (wSz E (a0 0) (a0 1) r.1 r.2.1 r.2.2.1 r.2.2.2.1 r.2.2.2.2.1 r.2.2.2.2.2) := by
  unfold fX6_growStale at hf
  have er := Option.some.inj hf
  subst er
  exact kX6_growStale
def fX6_has (s0 : sSz) (c : Int32) : Option (Bool) := (if s0.2.2.1 < 256 then some (szHas s0.2.2.1 c) else none)
theorem qX6_has {l : Launch} {E : gE} {a0 : Nat → Nat}  {s0 : sSz} {c : Int32} {r : Bool} (hf : fX6_has  s0 c = some r) : CtrF l yX6_has cX6_has 2 (some .boolean) (gR 0 0) E [.ref (a0 0), .int c] (wSz E (a0 0) (a0 1) s0.1 s0.2.1 s0.2.2.1 s0.2.2.2.1 s0.2.2.2.2.1 s0.2.2.2.2.2) (some (.int (bI r))) (wSz E (a0 0) (a0 1) s0.1 s0.2.1 s0.2.2.1 s0.2.2.2.1 s0.2.2.2.2.1 s0.2.2.2.2.2) := by
  unfold fX6_has at hf
  by_cases hg : s0.2.2.1 < 256
  · rw [if_pos hg] at hf
    have er := Option.some.inj hf
    subst er
    exact kX6_has hg
  · rw [if_neg hg] at hf; cases hf
def fX6_placeOf (s0 : sSz) (c : Int32) : Option (Int32) := (if s0.2.2.1 < 256 then some (nI (szPl s0.2.2.1 c)) else none)
theorem qX6_placeOf {l : Launch} {E : gE} {a0 : Nat → Nat}  {s0 : sSz} {c : Int32} {r : Int32} (hf : fX6_placeOf  s0 c = some r) : CtrF l yX6_placeOf cX6_placeOf 2 (some .int) (gR 1 21) E [.ref (a0 0), .int c] (wSz E (a0 0) (a0 1) s0.1 s0.2.1 s0.2.2.1 s0.2.2.2.1 s0.2.2.2.2.1 s0.2.2.2.2.2) (some (.int r)) (wSz E (a0 0) (a0 1) s0.1 s0.2.1 s0.2.2.1 s0.2.2.2.1 s0.2.2.2.2.1 s0.2.2.2.2.2) := by
  unfold fX6_placeOf at hf
  by_cases hg : s0.2.2.1 < 256
  · rw [if_pos hg] at hf
    have er := Option.some.inj hf
    subst er
    exact kX6_placeOf hg
  · rw [if_neg hg] at hf; cases hf
def fX6_above (s0 : sSz) (c : Int32) : Option (Int64) := (if s0.2.2.1 < 256 then some (szAb s0.2.2.1 s0.2.2.2.1 c) else none)
theorem qX6_above {l : Launch} {E : gE} {a0 : Nat → Nat}  {s0 : sSz} {c : Int32} {r : Int64} (hf : fX6_above  s0 c = some r) : CtrF l yX6_above cX6_above 2 (some .long) (gR 1 21) E [.ref (a0 0), .int c] (wSz E (a0 0) (a0 1) s0.1 s0.2.1 s0.2.2.1 s0.2.2.2.1 s0.2.2.2.2.1 s0.2.2.2.2.2) (some (.long r)) (wSz E (a0 0) (a0 1) s0.1 s0.2.1 s0.2.2.1 s0.2.2.2.1 s0.2.2.2.2.1 s0.2.2.2.2.2) := by
  unfold fX6_above at hf
  by_cases hg : s0.2.2.1 < 256
  · rw [if_pos hg] at hf
    have er := Option.some.inj hf
    subst er
    exact kX6_above hg
  · rw [if_neg hg] at hf; cases hf
def fX6_aboveIn (s0 : sSz) (s1 : sCa) (s : Int32) : Option (Int64) := (if s0.2.2.1 < 256 ∧ s1.2.1 ≤ 8 then some (abIn s0.2.2.1 s0.2.2.2.1 s1.1 s1.2.1 s1.2.2.1 s1.2.2.2 s 8) else none)
theorem qX6_aboveIn {l : Launch} {E : gE} {a0 : Nat → Nat} {a1 : Nat → Nat}  {s0 : sSz} {s1 : sCa} {s : Int32} {r : Int64} (hf : fX6_aboveIn  s0 s1 s = some r) : CtrF l yX6_aboveIn cX6_aboveIn 6 (some .long) (gR 3 69) E [.ref (a0 0), .int s, .ref (a1 0)] (wSz E (a0 0) (a0 1) s0.1 s0.2.1 s0.2.2.1 s0.2.2.2.1 s0.2.2.2.2.1 s0.2.2.2.2.2 ++ wCa E (a1 0) (a1 1) (a1 2) (a1 3) (a1 4) s1.1 s1.2.1 s1.2.2.1 s1.2.2.2) (some (.long r)) (wSz E (a0 0) (a0 1) s0.1 s0.2.1 s0.2.2.1 s0.2.2.2.1 s0.2.2.2.2.1 s0.2.2.2.2.2 ++ wCa E (a1 0) (a1 1) (a1 2) (a1 3) (a1 4) s1.1 s1.2.1 s1.2.2.1 s1.2.2.2) := by
  unfold fX6_aboveIn at hf
  by_cases hg : s0.2.2.1 < 256 ∧ s1.2.1 ≤ 8
  · rw [if_pos hg] at hf
    have er := Option.some.inj hf
    subst er
    exact kX6_aboveIn hg.1 hg.2
  · rw [if_neg hg] at hf; cases hf
def fX6_stepIn (s0 : sSz) (s1 : sSt) (s : Int32) (m : Int32) : Option (Int64) := (if s0.2.2.1 < 256 ∧ s1.1.2.1 ≤ 8 ∧ s1.2.2.1.1 ≤ 8 then some (stIn s0.2.2.1 s0.2.2.2.2.1 s1.1.1 s1.1.2.1 s1.1.2.2.1 s1.1.2.2.2 s1.2.2.1.1 s1.2.2.1.2.1 s1.2.2.1.2.2 s m) else none)
theorem qX6_stepIn {l : Launch} {E : gE} {a0 : Nat → Nat} {a1 : Nat → Nat}  {s0 : sSz} {s1 : sSt} {s : Int32} {m : Int32} {r : Int64} (hf : fX6_stepIn  s0 s1 s m = some r) : CtrF l yX6_stepIn cX6_stepIn 5 (some .long) (gR 3 69) E [.ref (a0 0), .int s, .int m, .ref (a1 0)] (wSz E (a0 0) (a0 1) s0.1 s0.2.1 s0.2.2.1 s0.2.2.2.1 s0.2.2.2.2.1 s0.2.2.2.2.2 ++ wSt E (a1 0) (a1 1) (a1 2) (a1 3) (a1 4) (a1 5) (a1 6) (a1 7) (a1 8) (a1 9) (a1 10) (a1 11) (a1 12) (a1 13) (a1 14) (a1 15) s1.1.1 s1.1.2.1 s1.1.2.2.1 s1.1.2.2.2 s1.2.1.1 s1.2.1.2.1 s1.2.1.2.2 s1.2.2.1.1 s1.2.2.1.2.1 s1.2.2.1.2.2 s1.2.2.2.1 s1.2.2.2.2.1 s1.2.2.2.2.2) (some (.long r)) (wSz E (a0 0) (a0 1) s0.1 s0.2.1 s0.2.2.1 s0.2.2.2.1 s0.2.2.2.2.1 s0.2.2.2.2.2 ++ wSt E (a1 0) (a1 1) (a1 2) (a1 3) (a1 4) (a1 5) (a1 6) (a1 7) (a1 8) (a1 9) (a1 10) (a1 11) (a1 12) (a1 13) (a1 14) (a1 15) s1.1.1 s1.1.2.1 s1.1.2.2.1 s1.1.2.2.2 s1.2.1.1 s1.2.1.2.1 s1.2.1.2.2 s1.2.2.1.1 s1.2.2.1.2.1 s1.2.2.1.2.2 s1.2.2.2.1 s1.2.2.2.2.1 s1.2.2.2.2.2) := by
  unfold fX6_stepIn at hf
  by_cases hg : s0.2.2.1 < 256 ∧ s1.1.2.1 ≤ 8 ∧ s1.2.2.1.1 ≤ 8
  · rw [if_pos hg] at hf
    have er := Option.some.inj hf
    subst er
    exact kX6_stepIn hg.1 hg.2.1 hg.2.2
  · rw [if_neg hg] at hf; cases hf
def fX6_isSize (s0 : sSz) (c : Int32) (p : Int32) (q : Int32) : Option (Bool) := (if s0.2.2.1 < 256 then some (isSz s0.2.2.1 s0.2.2.2.1 s0.2.2.2.2.1 c p q) else none)
theorem qX6_isSize {l : Launch} {E : gE} {a0 : Nat → Nat}  {s0 : sSz} {c : Int32} {p : Int32} {q : Int32} {r : Bool} (hf : fX6_isSize  s0 c p q = some r) : CtrF l yX6_isSize cX6_isSize 8 (some .boolean) (gR 2 61) E [.ref (a0 0), .int c, .int p, .int q] (wSz E (a0 0) (a0 1) s0.1 s0.2.1 s0.2.2.1 s0.2.2.2.1 s0.2.2.2.2.1 s0.2.2.2.2.2) (some (.int (bI r))) (wSz E (a0 0) (a0 1) s0.1 s0.2.1 s0.2.2.1 s0.2.2.2.1 s0.2.2.2.2.1 s0.2.2.2.2.2) := by
  unfold fX6_isSize at hf
  by_cases hg : s0.2.2.1 < 256
  · rw [if_pos hg] at hf
    have er := Option.some.inj hf
    subst er
    exact kX6_isSize hg
  · rw [if_neg hg] at hf; cases hf
def fX8_copyFrom (s0 : sSt) (s1 : sSt)  : Option (sSt) := (if s1.1.2.1 ≤ 8 ∧ s1.2.1.1 ≤ 20 ∧ s1.2.2.1.1 ≤ 8 then some ((va_cpy s1.1.1 s0.1.1 0 0 8, s1.1.2.1, cpy s1.1.2.2.1 s0.1.2.2.1 s1.1.2.1, cpy s1.1.2.2.2 s0.1.2.2.2 s1.1.2.1), (s1.2.1.1, cpy s1.2.1.2.1 s0.2.1.2.1 s1.2.1.1, cpy s1.2.1.2.2 s0.2.1.2.2 s1.2.1.1), (s1.2.2.1.1, cpy s1.2.2.1.2.1 s0.2.2.1.2.1 s1.2.2.1.1, cpy s1.2.2.1.2.2 s0.2.2.1.2.2 s1.2.2.1.1), (cpy s1.2.2.2.1 s0.2.2.2.1 36, cpy s1.2.2.2.2.1 s0.2.2.2.2.1 36, cpy s1.2.2.2.2.2 s0.2.2.2.2.2 36)) else none)
theorem qX8_copyFrom {l : Launch} {E : gE} {a0 : Nat → Nat} {a1 : Nat → Nat}  {s0 : sSt} {s1 : sSt}  {r : sSt} (hf : fX8_copyFrom  s0 s1  = some r) : CtrF l yX8_copyFrom cX8_copyFrom 2 none (gR 4 85) E [.ref (a0 0), .ref (a1 0)] (wSt E (a0 0) (a0 1) (a0 2) (a0 3) (a0 4) (a0 5) (a0 6) (a0 7) (a0 8) (a0 9) (a0 10) (a0 11) (a0 12) (a0 13) (a0 14) (a0 15) s0.1.1 s0.1.2.1 s0.1.2.2.1 s0.1.2.2.2 s0.2.1.1 s0.2.1.2.1 s0.2.1.2.2 s0.2.2.1.1 s0.2.2.1.2.1 s0.2.2.1.2.2 s0.2.2.2.1 s0.2.2.2.2.1 s0.2.2.2.2.2 ++ wSt E (a1 0) (a1 1) (a1 2) (a1 3) (a1 4) (a1 5) (a1 6) (a1 7) (a1 8) (a1 9) (a1 10) (a1 11) (a1 12) (a1 13) (a1 14) (a1 15) s1.1.1 s1.1.2.1 s1.1.2.2.1 s1.1.2.2.2 s1.2.1.1 s1.2.1.2.1 s1.2.1.2.2 s1.2.2.1.1 s1.2.2.1.2.1 s1.2.2.1.2.2 s1.2.2.2.1 s1.2.2.2.2.1 s1.2.2.2.2.2) none (wSt E (a0 0) (a0 1) (a0 2) (a0 3) (a0 4) (a0 5) (a0 6) (a0 7) (a0 8) (a0 9) (a0 10) (a0 11) (a0 12) (a0 13) (a0 14) (a0 15) r.1.1 r.1.2.1 r.1.2.2.1 r.1.2.2.2 r.2.1.1 r.2.1.2.1 r.2.1.2.2 r.2.2.1.1 r.2.2.1.2.1 r.2.2.1.2.2 r.2.2.2.1 r.2.2.2.2.1 r.2.2.2.2.2 ++ wSt E (a1 0) (a1 1) (a1 2) (a1 3) (a1 4) (a1 5) (a1 6) (a1 7) (a1 8) (a1 9) (a1 10) (a1 11) (a1 12) (a1 13) (a1 14) (a1 15) s1.1.1 s1.1.2.1 s1.1.2.2.1 s1.1.2.2.2 s1.2.1.1 s1.2.1.2.1 s1.2.1.2.2 s1.2.2.1.1 s1.2.2.1.2.1 s1.2.2.1.2.2 s1.2.2.2.1 s1.2.2.2.2.1 s1.2.2.2.2.2) := by
  unfold fX8_copyFrom at hf
  by_cases hg : s1.1.2.1 ≤ 8 ∧ s1.2.1.1 ≤ 20 ∧ s1.2.2.1.1 ≤ 8
  · rw [if_pos hg] at hf
    have er := Option.some.inj hf
    subst er
    exact kX8_copyFrom hg.1 hg.2.1 hg.2.2
  · rw [if_neg hg] at hf; cases hf
def fX9_daysAt (s0 : sTr) (p : Int32) : Option (Int32) := (if s0.1 ≤ 60 then some (nI (cnt (atP s0.2.1 p) s0.1)) else none)
theorem qX9_daysAt {l : Launch} {E : gE} {a0 : Nat → Nat}  {s0 : sTr} {p : Int32} {r : Int32} (hf : fX9_daysAt  s0 p = some r) : CtrF l yX9_daysAt cX9_daysAt 4 (some .int) (gR 3 64) E [.ref (a0 0), .int p] (wTr E (a0 0) (a0 1) (a0 2) (a0 3) s0.1 s0.2.1 s0.2.2) (some (.int r)) (wTr E (a0 0) (a0 1) (a0 2) (a0 3) s0.1 s0.2.1 s0.2.2) := by
  unfold fX9_daysAt at hf
  by_cases hg : s0.1 ≤ 60
  · rw [if_pos hg] at hf
    have er := Option.some.inj hf
    subst er
    exact kX9_daysAt hg
  · rw [if_neg hg] at hf; cases hf
def fX9_gainAt (s0 : sTr) (p : Int32) : Option (Int32) := (if s0.1 ≤ 60 then some (gsum s0.2.1 s0.2.2 p s0.1) else none)
theorem qX9_gainAt {l : Launch} {E : gE} {a0 : Nat → Nat}  {s0 : sTr} {p : Int32} {r : Int32} (hf : fX9_gainAt  s0 p = some r) : CtrF l yX9_gainAt cX9_gainAt 4 (some .int) (gR 3 64) E [.ref (a0 0), .int p] (wTr E (a0 0) (a0 1) (a0 2) (a0 3) s0.1 s0.2.1 s0.2.2) (some (.int r)) (wTr E (a0 0) (a0 1) (a0 2) (a0 3) s0.1 s0.2.1 s0.2.2) := by
  unfold fX9_gainAt at hf
  by_cases hg : s0.1 ≤ 60
  · rw [if_pos hg] at hf
    have er := Option.some.inj hf
    subst er
    exact kX9_gainAt hg
  · rw [if_neg hg] at hf; cases hf
def fX9_greatestTurnAt (s0 : sTr) (p : Int32) : Option (Int32) := (if s0.1 ≤ 60 then some (gturn s0.2.1 s0.2.2 p s0.1).1 else none)
theorem qX9_greatestTurnAt {l : Launch} {E : gE} {a0 : Nat → Nat}  {s0 : sTr} {p : Int32} {r : Int32} (hf : fX9_greatestTurnAt  s0 p = some r) : CtrF l yX9_greatestTurnAt cX9_greatestTurnAt 7 (some .int) (gR 3 64) E [.ref (a0 0), .int p] (wTr E (a0 0) (a0 1) (a0 2) (a0 3) s0.1 s0.2.1 s0.2.2) (some (.int r)) (wTr E (a0 0) (a0 1) (a0 2) (a0 3) s0.1 s0.2.1 s0.2.2) := by
  unfold fX9_greatestTurnAt at hf
  by_cases hg : s0.1 ≤ 60
  · rw [if_pos hg] at hf
    have er := Option.some.inj hf
    subst er
    exact kX9_greatestTurnAt hg
  · rw [if_neg hg] at hf; cases hf
def co5 (c : Nat → Nat) : Bool := decide (c 0 ≤ 8) && decide (c 1 ≤ 8) && decide (c 2 ≤ 8) && decide (c 3 ≤ 8) && decide (c 4 ≤ 8)
theorem co5_le {c : Nat → Nat} (h : co5 c = true) : ∀ j, j < 5 → c j ≤ 8 := by
  simp only [co5, Bool.and_eq_true, decide_eq_true_eq] at h
  intro j hj
  have : j = 0 ∨ j = 1 ∨ j = 2 ∨ j = 3 ∨ j = 4 := by omega
  rcases this with rfl | rfl | rfl | rfl | rfl <;> omega
theorem co5_of {c : Nat → Nat} (h : ∀ j, j < 5 → c j ≤ 8) : co5 c = true := by
  simp only [co5, Bool.and_eq_true, decide_eq_true_eq]
  exact ⟨⟨⟨⟨h 0 (by omega), h 1 (by omega)⟩, h 2 (by omega)⟩, h 3 (by omega)⟩, h 4 (by omega)⟩
def fX4_below (s0 : sPd)  : Option (Int64) := (if s0.2.2.2.1 ≤ 4 then some (s0.2.2.2.2 (2 ^ s0.2.2.2.1 - 1)) else none)
theorem qX4_below {l : Launch} {E : gE} {a0 : Nat → Nat}  {s0 : sPd}  {r : Int64} (hf : fX4_below  s0  = some r) : CtrF l yX4_below cX4_below 1 (some .long) (gR 0 0) E [.ref (a0 0)] (wPd E (a0 0) (a0 1) (a0 2) (a0 3) (a0 4) s0.1 s0.2.1 s0.2.2.1 s0.2.2.2.1 s0.2.2.2.2) (some (.long r)) (wPd E (a0 0) (a0 1) (a0 2) (a0 3) (a0 4) s0.1 s0.2.1 s0.2.2.1 s0.2.2.2.1 s0.2.2.2.2) := by
  unfold fX4_below at hf
  by_cases hg : s0.2.2.2.1 ≤ 4
  · rw [if_pos hg] at hf
    have er := Option.some.inj hf
    subst er
    exact kX4_below hg
  · rw [if_neg hg] at hf; cases hf
def fX4_squares (s0 : sPd)  : Option (Int64) := (if s0.2.2.2.1 ≤ 4 then some (s0.2.2.2.2 (2 ^ (s0.2.2.2.1 + 1) - 1)) else none)
theorem qX4_squares {l : Launch} {E : gE} {a0 : Nat → Nat}  {s0 : sPd}  {r : Int64} (hf : fX4_squares  s0  = some r) : CtrF l yX4_squares cX4_squares 1 (some .long) (gR 0 0) E [.ref (a0 0)] (wPd E (a0 0) (a0 1) (a0 2) (a0 3) (a0 4) s0.1 s0.2.1 s0.2.2.1 s0.2.2.2.1 s0.2.2.2.2) (some (.long r)) (wPd E (a0 0) (a0 1) (a0 2) (a0 3) (a0 4) s0.1 s0.2.1 s0.2.2.1 s0.2.2.2.1 s0.2.2.2.2) := by
  unfold fX4_squares at hf
  by_cases hg : s0.2.2.2.1 ≤ 4
  · rw [if_pos hg] at hf
    have er := Option.some.inj hf
    subst er
    exact kX4_squares hg
  · rw [if_neg hg] at hf; cases hf
def fX4_above (s0 : sPd) (i : Int32) : Option (Int64) := ((gIx i s0.2.2.2.1).bind fun p => (if s0.2.2.2.1 ≤ 4 then some (pAb s0.2.2.2.1 s0.2.2.2.2 p) else none))
theorem qX4_above {l : Launch} {E : gE} {a0 : Nat → Nat}  {s0 : sPd} {i : Int32} {r : Int64} (hf : fX4_above  s0 i = some r) : CtrF l yX4_above cX4_above 4 (some .long) (gR 0 0) E [.ref (a0 0), .int i] (wPd E (a0 0) (a0 1) (a0 2) (a0 3) (a0 4) s0.1 s0.2.1 s0.2.2.1 s0.2.2.2.1 s0.2.2.2.2) (some (.long r)) (wPd E (a0 0) (a0 1) (a0 2) (a0 3) (a0 4) s0.1 s0.2.1 s0.2.2.1 s0.2.2.2.1 s0.2.2.2.2) := by
  unfold fX4_above at hf
  replace hf := gbind hf
  obtain ⟨p, q_p, hf⟩ := hf
  obtain ⟨e_p, b_p⟩ := gIx_s q_p
  clear q_p
  subst e_p
  by_cases hg : s0.2.2.2.1 ≤ 4
  · rw [if_pos hg] at hf
    have er := Option.some.inj hf
    subst er
    exact kX4_above hg b_p
  · rw [if_neg hg] at hf; cases hf
def fX4_solve (s0 : sPd) (x : Int32) : Option (Bool × sPd) := ((gIx x 256).bind fun m => (if co5 s0.2.2.1 = true then some ((firm s0.2.1 s0.2.2.1 s0.2.2.2.2 m), (s0.1, s0.2.1, cols m s0.2.2.1, colN m s0.2.2.1, sMn s0.2.1 s0.2.2.1 s0.2.2.2.2 m)) else none))
theorem qX4_solve {l : Launch} {E : gE} {a0 : Nat → Nat}  {s0 : sPd} {x : Int32} {r : Bool × sPd} (hf : fX4_solve  s0 x = some r) : CtrF l yX4_solve cX4_solve 4 (some .boolean) (gR 2 49) E [.ref (a0 0), .int x] (wPd E (a0 0) (a0 1) (a0 2) (a0 3) (a0 4) s0.1 s0.2.1 s0.2.2.1 s0.2.2.2.1 s0.2.2.2.2) (some (.int (bI r.1))) (wPd E (a0 0) (a0 1) (a0 2) (a0 3) (a0 4) r.2.1 r.2.2.1 r.2.2.2.1 r.2.2.2.2.1 r.2.2.2.2.2) := by
  unfold fX4_solve at hf
  replace hf := gbind hf
  obtain ⟨m, q_m, hf⟩ := hf
  obtain ⟨e_m, b_m⟩ := gIx_s q_m
  clear q_m
  subst e_m
  by_cases hg : co5 s0.2.2.1 = true
  · rw [if_pos hg] at hf
    have er := Option.some.inj hf
    subst er
    dsimp only
    exact kX4_solve (h0 := a0 0) (h1 := a0 1) (h2 := a0 2) (h3 := a0 3) (h4 := a0 4) (ci := s0.2.2.2.1) (sh := s0.1) (tb := s0.2.1) (mn := s0.2.2.2.2) (co := s0.2.2.1) (m := m) b_m (co5_le hg)
  · rw [if_neg hg] at hf; cases hf
def fJ7_fill_d0a16 (m : Nat) (f : Nat → Int64) (v : Int64) : Option (Nat → Int64) := if m < 2 ^ 31 then some (fillL v f m) else none
theorem qJ7_fill_d0a16 {l : Launch} {E : gE} {h0 m : Nat} {f : Nat → Int64} {v : Int64} {r : Nat → Int64} (hf : fJ7_fill_d0a16 m f v = some r) : CtrF l yJ7_fill_d0a16 cJ7_fill_d0a16 5 none (gR 0 0) E [.ref h0, .long v] [(h0, .inl (E.2 1, m, .inr (.inl f)))] none [(h0, .inl (E.2 1, m, .inr (.inl r)))] := by
  unfold fJ7_fill_d0a16 at hf
  by_cases hg : m < 2 ^ 31
  · rw [if_pos hg] at hf
    cases hf
    exact kJ7_fill_d0a16 hg
  · rw [if_neg hg] at hf; cases hf
theorem gmerge_app2 {IS is js : List Nat} {w1 w2 ws wa wb : va_W} (h1 : gmerge is w1 ws = wa) (h2 : gmerge js w2 wa = wb) (l1 : is.length = w1.length) (he : IS = is ++ js) : gmerge IS (w1 ++ w2) ws = wb := by
  rw [he, gmerge_app l1, h1, h2]
theorem gmerge_app3 {IS is js ks : List Nat} {w1 w2 w3 ws wa wb wc : va_W} (h1 : gmerge is w1 ws = wa) (h2 : gmerge js w2 wa = wb) (h3 : gmerge ks w3 wb = wc) (l1 : is.length = w1.length) (l2 : js.length = w2.length) (he : IS = is ++ (js ++ ks)) : gmerge IS (w1 ++ w2 ++ w3) ws = wc := by
  rw [he, List.append_assoc, gmerge_app l1, h1, gmerge_app l2, h2, h3]
