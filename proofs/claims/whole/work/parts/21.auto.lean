/-! The pure functions that the methods are turned into: their own small words. -/
theorem gbind {α β : Type} {o : Option α} {k : α → Option β} {r : β} (h : o.bind k = some r) : ∃ x, o = some x ∧ k x = some r := by
  cases o with
  | none => cases h
  | some x => exact ⟨x, rfl, h⟩
theorem gno {α : Type} {r : α} {P : Prop} (h : (none : Option α) = some r) : P := by cases h
theorem gnz {α : Type} {y : Int64} {k : Option α} {r : α} (h : (if y = 0 then none else k) = some r) : ¬ y = 0 := fun q => by rw [if_pos q] at h; cases h
theorem gnz2 {α : Type} {y : Int64} {k : Option α} {r : α} (h : (if y = 0 then none else k) = some r) : k = some r := by
  by_cases q : y = 0
  · rw [if_pos q] at h; cases h
  · rw [if_neg q] at h; exact h
theorem ifp_t {α : Type} {p : Prop} [Decidable p] {x y r : α} (c : p) (h : (if p then x else y) = r) : x = r := by rw [if_pos c] at h; exact h
theorem ifp_f {α : Type} {p : Prop} [Decidable p] {x y r : α} (c : ¬ p) (h : (if p then x else y) = r) : y = r := by rw [if_neg c] at h; exact h
theorem ifb_t {α : Type} {b : Bool} {x y r : α} (c : b = true) (h : (if b = true then x else y) = r) : x = r := ifp_t c h
theorem ifb_f {α : Type} {b : Bool} {x y r : α} (c : b = false) (h : (if b = true then x else y) = r) : y = r := ifp_f (by rw [c]; decide) h
theorem ts_eq {x k : Int32} {n : Int} (c : x.toInt = n) (h : k.toInt = n) : x = k := Int32.toInt_inj.mp (c.trans h.symm)
theorem ts_ne {x k : Int32} {n : Int} (c : x.toInt = n) (h : ¬ k.toInt = n) : ¬ x = k := fun q => h (by rw [← q]; exact c)
theorem ts_out {x k : Int32} {a b : Int} (c : x.toInt < a ∨ b < x.toInt) (h : ¬ (k.toInt < a ∨ b < k.toInt)) : ¬ x = k := fun q => h (by rw [← q]; exact c)
/-- an index that lies in a row of n -/
def gIx (i : Int32) (n : Nat) : Option Nat := if pin i n = true then some i.toNatClampNeg else none
theorem gIx_s {i : Int32} {n k : Nat} (h : gIx i n = some k) : i = nI k ∧ k < n := by
  unfold gIx at h
  by_cases hp : pin i n = true
  · rw [if_pos hp] at h
    have h3 := Option.some.inj h
    simp only [pin, Bool.and_eq_true, decide_eq_true_eq] at hp
    have h4 : i.toNatClampNeg = i.toInt.toNat := rfl
    have h5 : i.toInt < 2 ^ 31 := Int32.toInt_lt i
    rw [h4] at h3
    refine ⟨?_, by omega⟩
    rw [i32_eq, nI_toInt (by omega)]
    omega
  · rw [if_neg hp] at h; cases h
theorem gIx_n {k n : Nat} (h : k < n) (hn : n < 2 ^ 31) : gIx (nI k) n = some k := by
  rw [gIx, if_pos (pin_lt h hn), nI_clamp (by omega)]
theorem gmerge_nn (ws : va_W) : gmerge [] [] ws = ws := List.append_nil ws
theorem gmerge_mid : ∀ (w1 old pre post : va_W), w1.length = old.length → gmerge (List.range' pre.length w1.length) w1 (pre ++ (old ++ post)) = pre ++ (w1 ++ post)
  | [], [], pre, post, _ => gmerge_nn _
  | [], _ :: _, _, _, h => by simp at h
  | _ :: _, [], _, _, h => by simp at h
  | x :: w1, o :: old, pre, post, h => by
    have e : (pre ++ (o :: old ++ post)).set pre.length x = (pre ++ [x]) ++ (old ++ post) := by simp
    show gmerge (List.range' (pre.length + 1) w1.length) w1 ((pre ++ (o :: old ++ post)).set pre.length x) = _
    rw [e]
    have h2 := gmerge_mid w1 old (pre ++ [x]) post (by simpa using h)
    rw [show (pre ++ [x]).length = pre.length + 1 by simp] at h2
    rw [h2]
    simp
theorem gmerge_cut {w1 ws ws' : va_W} (p n : Nat) (hl : p + n ≤ ws.length) (h3 : w1.length = n) (h4 : ws.take p ++ (w1 ++ ws.drop (p + n)) = ws') : gmerge (List.range' p n) w1 ws = ws' := by
  have hp : (ws.take p).length = p := by rw [List.length_take]; omega
  have ho : ((ws.drop p).take n).length = n := by rw [List.length_take, List.length_drop]; omega
  have e : ws.take p ++ ((ws.drop p).take n ++ ws.drop (p + n)) = ws := by
    rw [← List.drop_drop, List.take_append_drop, List.take_append_drop]
  have h := gmerge_mid w1 ((ws.drop p).take n) (ws.take p) (ws.drop (p + n)) (by rw [ho, h3])
  rw [hp, h3, e, h4] at h
  exact h
theorem gmerge_app : ∀ {is js : List Nat} {w1 w2 ws : va_W}, is.length = w1.length → gmerge (is ++ js) (w1 ++ w2) ws = gmerge js w2 (gmerge is w1 ws)
  | [], js, [], w2, ws, _ => by rw [gmerge_nn]; rfl
  | [], _, _ :: _, _, _, h => by simp at h
  | i :: is, js, [], _, _, h => by simp at h
  | i :: is, js, x :: w1, w2, ws, h => gmerge_app (is := is) (js := js) (w1 := w1) (w2 := w2) (ws := ws.set i x) (by simpa using h)
def gOfI (j : Nat) : Int32 := ([0, 0, 0, 2, 0, 1] : List Int32).getD j 0
abbrev sPr : Type := Nat × (Nat → Int32) × (Nat → Int32)
abbrev sCa : Type := (Nat → Int32) × sPr
abbrev sSp : Type := (Nat → Bool) × (Nat → Int32) × (Nat → Int32)
abbrev sSt : Type := sCa × sPr × sPr × sSp
abbrev sSh : Type := (Nat → Int32) × (Nat → Nat → Int32)
abbrev sPd : Type := (Nat → Int64) × (Nat → Int64) × (Nat → Nat) × Nat × (Nat → Int64)
abbrev sSz : Type := Bool × Bool × Nat × (Nat → Int64) × Int64 × Int64
abbrev sMs : Type := (Nat → Int64) × (Nat → Int64) × Int32 × Int32 × Int64 × Int64
abbrev sTr : Type := sPr
abbrev sWB : Type := sSt × sSt × Bool × sSh × sPd × sSz × Int32 × sMs × sTr × (Nat → Int32) × Int32 × (Nat → Int32)
/-- the search of mends: rates, steps, how many places, how many mends, the least, the answer -/
abbrev wMs (E : gE) (h0 h1 h2 : Nat) (ra sp : Nat → Int64) (pl me : Int32) (le an : Int64) : va_W := [(h0, .inr (1, [.ref h1, .ref h2, .int pl, .int me, .long le, .long an])), (h1, .inl (E.2 1, 36, .inr (.inl ra))), (h2, .inl (E.2 1, 288, .inr (.inl sp)))]
/-- the reference's state: its int fields, long fields, int rows, long rows, by their numbers -/
abbrev gS : Type := (Nat → Int32) × (Nat → Int64) × (Nat → Nat → Int32) × (Nat → Nat → Int64)
def iF (S : gS) (k : Nat) : Int32 := S.1 k
def lF (S : gS) (k : Nat) : Int64 := S.2.1 k
def iA (S : gS) (k : Nat) : Nat → Int32 := S.2.2.1 k
def lA (S : gS) (k : Nat) : Nat → Int64 := S.2.2.2 k
def uG {α : Type} (f : Nat → α) (k : Nat) (v : α) : Nat → α := fun j => if j = k then v else f j
def sI (S : gS) (k : Nat) (v : Int32) : gS := (uG S.1 k v, S.2)
def sL (S : gS) (k : Nat) (v : Int64) : gS := (S.1, uG S.2.1 k v, S.2.2)
def sA (S : gS) (k : Nat) (v : Nat → Int32) : gS := (S.1, S.2.1, uG S.2.2.1 k v, S.2.2.2)
def sB (S : gS) (k : Nat) (v : Nat → Int64) : gS := (S.1, S.2.1, S.2.2.1, uG S.2.2.2 k v)
def sAu (S : gS) (k i : Nat) (v : Int32) : gS := sA S k (upd (iA S k) i v)
def sBu (S : gS) (k i : Nat) (v : Int64) : gS := sB S k (vp_updL (lA S k) i v)
def rfF (a : Nat → Nat) (S : gS) : List Value := [.ref (a 1), .ref (a 2), .int (iF S 2), .ref (a 3), .ref (a 4), .int (iF S 5), .ref (a 5), .ref (a 6), .int (iF S 8), .ref (a 7), .ref (a 8), .long (lF S 11), .int (iF S 12), .int (iF S 13), .int (iF S 14), .int (iF S 15), .ref (a 9), .ref (a 10), .long (lF S 18), .long (lF S 19), .int (iF S 20), .ref (a 11), .ref (a 12), .ref (a 13), .ref (a 14), .long (lF S 25), .ref (a 15)]
def wRf (E : gE) (a : Nat → Nat) (S : gS) : va_W := [(a 0, .inr (10, rfF a S)), (a 1, .inl (E.2 0, 160, .inl (iA S 0))), (a 2, .inl (E.2 0, 160, .inl (iA S 1))), (a 3, .inl (E.2 0, 108, .inl (iA S 3))), (a 4, .inl (E.2 0, 3, .inl (iA S 4))), (a 5, .inl (E.2 0, 60, .inl (iA S 6))), (a 6, .inl (E.2 0, 60, .inl (iA S 7))), (a 7, .inl (E.2 0, 16, .inl (iA S 9))), (a 8, .inl (E.2 1, 8, .inr (.inl (lA S 10)))), (a 9, .inl (E.2 0, 4, .inl (iA S 16))), (a 10, .inl (E.2 1, 4, .inr (.inl (lA S 17)))), (a 11, .inl (E.2 0, 4, .inl (iA S 21))), (a 12, .inl (E.2 1, 16, .inr (.inl (lA S 22)))), (a 13, .inl (E.2 1, 4, .inr (.inl (lA S 23)))), (a 14, .inl (E.2 1, 4, .inr (.inl (lA S 24)))), (a 15, .inl (E.2 1, 80, .inr (.inl (lA S 26))))]
def wWB (E : gE) (a : Nat → Nat) (T : sWB) : va_W := [(a 0, .inr (9, [.ref (a 1), .ref (a 17), .int (bI T.2.2.1), .ref (a 33), .ref (a 39), .ref (a 44), .int T.2.2.2.2.2.2.1, .ref (a 46), .ref (a 49), .ref (a 53), .int T.2.2.2.2.2.2.2.2.2.2.1, .ref (a 54)])), (a 1, .inr (7, [.ref (a 2), .ref (a 7), .ref (a 10), .ref (a 13)])), (a 2, .inr (0, [.ref (a 3), .ref (a 4)])), (a 3, .inl (E.2 0, 8, .inl T.1.1.1)), (a 4, .inr (2, [.ref (a 5), .ref (a 6), .int (nI T.1.1.2.1)])), (a 5, .inl (E.2 0, 8, .inl T.1.1.2.2.1)), (a 6, .inl (E.2 0, 8, .inl T.1.1.2.2.2)), (a 7, .inr (2, [.ref (a 8), .ref (a 9), .int (nI T.1.2.1.1)])), (a 8, .inl (E.2 0, 20, .inl T.1.2.1.2.1)), (a 9, .inl (E.2 0, 20, .inl T.1.2.1.2.2)), (a 10, .inr (2, [.ref (a 11), .ref (a 12), .int (nI T.1.2.2.1.1)])), (a 11, .inl (E.2 0, 8, .inl T.1.2.2.1.2.1)), (a 12, .inl (E.2 0, 8, .inl T.1.2.2.1.2.2)), (a 13, .inr (6, [.ref (a 14), .ref (a 15), .ref (a 16)])), (a 14, .inl (E.2 3, 36, .inl (fun j => bI (T.1.2.2.2.1 j)))), (a 15, .inl (E.2 0, 36, .inl T.1.2.2.2.2.1)), (a 16, .inl (E.2 0, 36, .inl T.1.2.2.2.2.2)), (a 17, .inr (7, [.ref (a 18), .ref (a 23), .ref (a 26), .ref (a 29)])), (a 18, .inr (0, [.ref (a 19), .ref (a 20)])), (a 19, .inl (E.2 0, 8, .inl T.2.1.1.1)), (a 20, .inr (2, [.ref (a 21), .ref (a 22), .int (nI T.2.1.1.2.1)])), (a 21, .inl (E.2 0, 8, .inl T.2.1.1.2.2.1)), (a 22, .inl (E.2 0, 8, .inl T.2.1.1.2.2.2)), (a 23, .inr (2, [.ref (a 24), .ref (a 25), .int (nI T.2.1.2.1.1)])), (a 24, .inl (E.2 0, 20, .inl T.2.1.2.1.2.1)), (a 25, .inl (E.2 0, 20, .inl T.2.1.2.1.2.2)), (a 26, .inr (2, [.ref (a 27), .ref (a 28), .int (nI T.2.1.2.2.1.1)])), (a 27, .inl (E.2 0, 8, .inl T.2.1.2.2.1.2.1)), (a 28, .inl (E.2 0, 8, .inl T.2.1.2.2.1.2.2)), (a 29, .inr (6, [.ref (a 30), .ref (a 31), .ref (a 32)])), (a 30, .inl (E.2 3, 36, .inl (fun j => bI (T.2.1.2.2.2.1 j)))), (a 31, .inl (E.2 0, 36, .inl T.2.1.2.2.2.2.1)), (a 32, .inl (E.2 0, 36, .inl T.2.1.2.2.2.2.2)), (a 33, .inr (4, [.ref (a 34), .ref (a 35)])), (a 34, .inl (E.2 0, 3, .inl T.2.2.2.1.1)), (a 35, .inl (E.2 4, 3, .inr (.inr (.inr (.inr (shO (a 36) (a 37) (a 38))))))), (a 36, .inl (E.2 2, 36, .inl (T.2.2.2.1.2 0))), (a 37, .inl (E.2 2, 36, .inl (T.2.2.2.1.2 1))), (a 38, .inl (E.2 2, 36, .inl (T.2.2.2.1.2 2))), (a 39, .inr (3, [.ref (a 40), .ref (a 41), .ref (a 42), .int (nI T.2.2.2.2.1.2.2.2.1), .ref (a 43)])), (a 40, .inl (E.2 1, 9, .inr (.inl T.2.2.2.2.1.1))), (a 41, .inl (E.2 1, 81, .inr (.inl T.2.2.2.2.1.2.1))), (a 42, .inl (E.2 0, 5, .inl (fun j => nI (T.2.2.2.2.1.2.2.1 j)))), (a 43, .inl (E.2 1, 32, .inr (.inl T.2.2.2.2.1.2.2.2.2))), (a 44, .inr (5, [.int (bI T.2.2.2.2.2.1.1), .int (bI T.2.2.2.2.2.1.2.1), .int (nI T.2.2.2.2.2.1.2.2.1), .ref (a 45), .long T.2.2.2.2.2.1.2.2.2.2.1, .long T.2.2.2.2.2.1.2.2.2.2.2])), (a 45, .inl (E.2 1, 8, .inr (.inl T.2.2.2.2.2.1.2.2.2.1))), (a 46, .inr (1, [.ref (a 47), .ref (a 48), .int T.2.2.2.2.2.2.2.1.2.2.1, .int T.2.2.2.2.2.2.2.1.2.2.2.1, .long T.2.2.2.2.2.2.2.1.2.2.2.2.1, .long T.2.2.2.2.2.2.2.1.2.2.2.2.2])), (a 47, .inl (E.2 1, 36, .inr (.inl T.2.2.2.2.2.2.2.1.1))), (a 48, .inl (E.2 1, 288, .inr (.inl T.2.2.2.2.2.2.2.1.2.1))), (a 49, .inr (8, [.ref (a 50)])), (a 50, .inr (2, [.ref (a 51), .ref (a 52), .int (nI T.2.2.2.2.2.2.2.2.1.1)])), (a 51, .inl (E.2 0, 60, .inl T.2.2.2.2.2.2.2.2.1.2.1)), (a 52, .inl (E.2 0, 60, .inl T.2.2.2.2.2.2.2.2.1.2.2)), (a 53, .inl (E.2 0, 16, .inl T.2.2.2.2.2.2.2.2.2.1)), (a 54, .inl (E.2 0, 8, .inl T.2.2.2.2.2.2.2.2.2.2.2))]
theorem gcX11_176 : Cond.constantLong RX11 176 (-9000000000000000006) ∈ gTT := gtm (by decide +kernel)
theorem gcX11_178 : Cond.constantLong RX11 178 (-9000000000000000007) ∈ gTT := gtm (by decide +kernel)
theorem gcX11_217 : Cond.constantLong RX11 217 10000 ∈ gTT := gtm (by decide +kernel)
theorem gcX11_219 : Cond.constantLong RX11 219 1000 ∈ gTT := gtm (by decide +kernel)
theorem gcX11_221 : Cond.constantLong RX11 221 10 ∈ gTT := gtm (by decide +kernel)
theorem gcX11_236 : Cond.constantLong RX11 236 2147483648 ∈ gTT := gtm (by decide +kernel)
theorem gcX11_238 : Cond.constantLong RX11 238 (-2147483648) ∈ gTT := gtm (by decide +kernel)
theorem gcX11_244 : Cond.constantLong RX11 244 100 ∈ gTT := gtm (by decide +kernel)
theorem gcX11_56 : Cond.constantLong RX11 56 (-9000000000000000000) ∈ gTT := gtm (by decide +kernel)
theorem gcX11_62 : Cond.constantLong RX11 62 (-9000000000000000001) ∈ gTT := gtm (by decide +kernel)
theorem gcX11_68 : Cond.constantLong RX11 68 (-9000000000000000005) ∈ gTT := gtm (by decide +kernel)
theorem gcX11_85 : Cond.constantLong RX11 85 (-9000000000000000003) ∈ gTT := gtm (by decide +kernel)
theorem gcX11_94 : Cond.constantLong RX11 94 (-9000000000000000004) ∈ gTT := gtm (by decide +kernel)
theorem gcX11_96 : Cond.constantLong RX11 96 (-9000000000000000002) ∈ gTT := gtm (by decide +kernel)
def fJ9_floorDiv_f86c9 (x : Int64) (y : Int64) : Option Int64 := if ¬ y = 0 then some (fdv x y) else none
theorem qJ9_floorDiv_f86c9 {l : Launch} {E : gE} {x : Int64} {y : Int64} {r : Int64} (hf : fJ9_floorDiv_f86c9 x y = some r) : CtrF l yJ9_floorDiv_f86c9 cJ9_floorDiv_f86c9 6 (some .long) (gR 0 0) E [.long x, .long y] [] (some (.long r)) [] := by
  unfold fJ9_floorDiv_f86c9 at hf
  by_cases hg : ¬ y = 0
  · rw [if_pos hg] at hf
    cases hf
    exact kJ9_floorDiv_f86c9 hg
  · rw [if_neg hg] at hf; cases hf
def fJ9_floorMod_f86c9 (x : Int64) (y : Int64) : Option Int64 := if ¬ y = 0 then some (fmd x y) else none
theorem qJ9_floorMod_f86c9 {l : Launch} {E : gE} {x : Int64} {y : Int64} {r : Int64} (hf : fJ9_floorMod_f86c9 x y = some r) : CtrF l yJ9_floorMod_f86c9 cJ9_floorMod_f86c9 6 (some .long) (gR 0 0) E [.long x, .long y] [] (some (.long r)) [] := by
  unfold fJ9_floorMod_f86c9 at hf
  by_cases hg : ¬ y = 0
  · rw [if_pos hg] at hf
    cases hf
    exact kJ9_floorMod_f86c9 hg
  · rw [if_neg hg] at hf; cases hf
