theorem nat8 {n : Nat} (h : n ≤ 8) : n < 2 ^ 31 := by omega
theorem updI_if {f : Nat → Int32} {n : Nat} {c : Prop} [Decidable c] {x y : Int32} (h : c) : upd f n (if c then x else y) = upd f n x := by rw [if_pos h]
theorem updI_if' {f : Nat → Int32} {n : Nat} {c : Prop} [Decidable c] {x y : Int32} (h : ¬ c) : upd f n (if c then x else y) = upd f n y := by rw [if_neg h]
/-- the stock: causes, readings, mends, spans -/
abbrev wSt (E : gE) (a0 a1 a2 a3 a4 a5 a6 a7 a8 a9 a10 a11 a12 a13 a14 a15 : Nat) (kd : Nat → Int32) (nc : Nat) (ca cb : Nat → Int32) (nr : Nat) (rs rr : Nat → Int32) (nm : Nat) (mc mb : Nat → Int32) (th : Nat → Bool) (fr to : Nat → Int32) : va_W :=
  (a0, .inr (7, [.ref a1, .ref a6, .ref a9, .ref a12])) :: (wCa E a1 a2 a3 a4 a5 kd nc ca cb ++ (wPr E a6 a7 a8 20 nr rs rr ++ (wPr E a9 a10 a11 8 nm mc mb ++ wSp E a12 a13 a14 a15 th fr to)))
