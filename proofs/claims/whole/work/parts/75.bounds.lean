/-! bounds of what is solved -/
theorem isum_bd {F : Nat → Int} {B : Int} : ∀ N : Nat, (∀ r, r < N → -B ≤ F r ∧ F r ≤ B) → -(N * B) ≤ isum N F ∧ isum N F ≤ N * B
  | 0, _ => by simp [isum]
  | N + 1, h => by
    have h1 := isum_bd N (fun r hr => h r (by omega))
    have h2 := h N (by omega)
    rw [isum, show ((N + 1 : Nat) : Int) * B = N * B + B by rw [Int.natCast_add, Int.add_mul]; simp]
    omega
theorem b_q2 {a : Nat → Nat → Int} {b : Nat → Int} {r s c d : Nat} (h : ∀ i j, i < 4 → j < 4 → -(b j) ≤ a i j ∧ a i j ≤ b j) (hr : r < 4) (hs : s < 4) (hc : c < 4) (hd : d < 4) : -(2 * (b c * b d)) ≤ q2 a r s c d ∧ q2 a r s c d ≤ 2 * (b c * b d) := by
  have x1 := h r c hr hc
  have x2 := h s d hs hd
  have x3 := h r d hr hd
  have x4 := h s c hs hc
  have y1 := abs_mul_le x1.1 x1.2 x2.1 x2.2
  have y2 := abs_mul_le x3.1 x3.2 x4.1 x4.2
  rw [Int.mul_comm (b d)] at y2
  unfold q2
  omega
theorem b_q3 {a : Nat → Nat → Int} {b : Nat → Int} {r s t c d e : Nat} (h : ∀ i j, i < 4 → j < 4 → -(b j) ≤ a i j ∧ a i j ≤ b j) (hr : r < 4) (hs : s < 4) (ht : t < 4) (hc : c < 4) (hd : d < 4) (he : e < 4) : -(6 * (b c * (b d * b e))) ≤ q3 a r s t c d e ∧ q3 a r s t c d e ≤ 6 * (b c * (b d * b e)) := by
  have x1 := h r c hr hc
  have x2 := h r d hr hd
  have x3 := h r e hr he
  have z1 := b_q2 (r := s) (s := t) h hs ht hd he
  have z2 := b_q2 (r := s) (s := t) h hs ht hc he
  have z3 := b_q2 (r := s) (s := t) h hs ht hc hd
  have y1 := abs_mul_le x1.1 x1.2 z1.1 z1.2
  have y2 := abs_mul_le x2.1 x2.2 z2.1 z2.2
  have y3 := abs_mul_le x3.1 x3.2 z3.1 z3.2
  have w1 : b c * (2 * (b d * b e)) = 2 * (b c * (b d * b e)) := by grind
  have w2 : b d * (2 * (b c * b e)) = 2 * (b c * (b d * b e)) := by grind
  have w3 : b e * (2 * (b c * b d)) = 2 * (b c * (b d * b e)) := by grind
  rw [w1] at y1
  rw [w2] at y2
  rw [w3] at y3
  unfold q3
  omega
theorem b_q4 {a : Nat → Nat → Int} {b : Nat → Int} (h : ∀ i j, i < 4 → j < 4 → -(b j) ≤ a i j ∧ a i j ≤ b j) : -(24 * (b 0 * (b 1 * (b 2 * b 3)))) ≤ q4 a ∧ q4 a ≤ 24 * (b 0 * (b 1 * (b 2 * b 3))) := by
  have x1 := h 0 0 (by decide) (by decide)
  have x2 := h 0 1 (by decide) (by decide)
  have x3 := h 0 2 (by decide) (by decide)
  have x4 := h 0 3 (by decide) (by decide)
  have z1 := b_q3 (r := 1) (s := 2) (t := 3) (c := 1) (d := 2) (e := 3) h (by decide) (by decide) (by decide) (by decide) (by decide) (by decide)
  have z2 := b_q3 (r := 1) (s := 2) (t := 3) (c := 0) (d := 2) (e := 3) h (by decide) (by decide) (by decide) (by decide) (by decide) (by decide)
  have z3 := b_q3 (r := 1) (s := 2) (t := 3) (c := 0) (d := 1) (e := 3) h (by decide) (by decide) (by decide) (by decide) (by decide) (by decide)
  have z4 := b_q3 (r := 1) (s := 2) (t := 3) (c := 0) (d := 1) (e := 2) h (by decide) (by decide) (by decide) (by decide) (by decide) (by decide)
  have y1 := abs_mul_le x1.1 x1.2 z1.1 z1.2
  have y2 := abs_mul_le x2.1 x2.2 z2.1 z2.2
  have y3 := abs_mul_le x3.1 x3.2 z3.1 z3.2
  have y4 := abs_mul_le x4.1 x4.2 z4.1 z4.2
  have w1 : b 0 * (6 * (b 1 * (b 2 * b 3))) = 6 * (b 0 * (b 1 * (b 2 * b 3))) := by grind
  have w2 : b 1 * (6 * (b 0 * (b 2 * b 3))) = 6 * (b 0 * (b 1 * (b 2 * b 3))) := by grind
  have w3 : b 2 * (6 * (b 0 * (b 1 * b 3))) = 6 * (b 0 * (b 1 * (b 2 * b 3))) := by grind
  have w4 : b 3 * (6 * (b 0 * (b 1 * b 2))) = 6 * (b 0 * (b 1 * (b 2 * b 3))) := by grind
  rw [w1] at y1
  rw [w2] at y2
  rw [w3] at y3
  rw [w4] at y4
  unfold q4
  omega
/-- one column may be larger -/
theorem b_qn {a : Nat → Nat → Int} {n p : Nat} {C : Int} (h1 : 1 ≤ n) (h4 : n ≤ 4) (hC : 180 ≤ C) (hC2 : C ≤ 18000) (h : ∀ i j, i < n → j < n → -(if j = p then C else 180) ≤ a i j ∧ a i j ≤ (if j = p then C else 180)) : -(24 * (C * 5832000)) ≤ qn a n ∧ qn a n ≤ 24 * (C * 5832000) := by
  obtain ⟨a', ha', hk⟩ : ∃ a' : Nat → Nat → Int, (∀ i j, i < n → j < n → a i j = a' i j) ∧ ∀ i j, i < 4 → j < 4 → -(if j = p then C else 180) ≤ a' i j ∧ a' i j ≤ (if j = p then C else 180) := by
    refine ⟨fun i j => if i < n ∧ j < n then a i j else 0, fun i j hi hj => (if_pos ⟨hi, hj⟩).symm, fun i j _ _ => ?_⟩
    show -(if j = p then C else 180) ≤ (if i < n ∧ j < n then a i j else 0) ∧ (if i < n ∧ j < n then a i j else 0) ≤ (if j = p then C else 180)
    by_cases q : i < n ∧ j < n
    · rw [if_pos q]
      exact h i j q.1 q.2
    · rw [if_neg q]
      split <;> omega
  rw [qn_cg h1 h4 ha']
  have hn : n = 1 ∨ n = 2 ∨ n = 3 ∨ n = 4 := by omega
  rcases hn with rfl | rfl | rfl | rfl
  · have := hk 0 0 (by decide) (by decide)
    simp only [qn, reduceIte]
    split at this <;> omega
  · have := b_q2 (b := fun j => if j = p then C else 180) (r := 0) (s := 1) (c := 0) (d := 1) hk (by decide) (by decide) (by decide) (by decide)
    simp only [qn, reduceIte, Nat.reduceEqDiff]
    by_cases p0 : p = 0
    · subst p0
      simp at this
      omega
    · by_cases p1 : p = 1
      · subst p1
        simp at this
        omega
      · rw [if_neg (fun q => p0 q.symm), if_neg (fun q => p1 q.symm)] at this
        omega
  · have := b_q3 (b := fun j => if j = p then C else 180) (r := 0) (s := 1) (t := 2) (c := 0) (d := 1) (e := 2) hk (by decide) (by decide) (by decide) (by decide) (by decide) (by decide)
    simp only [qn, reduceIte, Nat.reduceEqDiff]
    by_cases p0 : p = 0
    · subst p0
      simp at this
      omega
    · by_cases p1 : p = 1
      · subst p1
        simp at this
        omega
      · by_cases p2 : p = 2
        · subst p2
          simp at this
          omega
        · rw [if_neg (fun q => p0 q.symm), if_neg (fun q => p1 q.symm), if_neg (fun q => p2 q.symm)] at this
          omega
  · have := b_q4 (b := fun j => if j = p then C else 180) hk
    simp only [qn, reduceIte, Nat.reduceEqDiff]
    by_cases p0 : p = 0
    · subst p0
      simp at this
      omega
    · by_cases p1 : p = 1
      · subst p1
        simp at this
        omega
      · by_cases p2 : p = 2
        · subst p2
          simp at this
          omega
        · by_cases p3 : p = 3
          · subst p3
            simp at this
            omega
          · rw [if_neg (fun q => p0 q.symm), if_neg (fun q => p1 q.symm), if_neg (fun q => p2 q.symm), if_neg (fun q => p3 q.symm)] at this
            omega
theorem oI_qn (A : Nat → Nat → Int) (n : Nat) : qn (fun i j => Int64.ofInt (A i j)) n = Int64.ofInt (qn A n) := by
  unfold qn
  split
  · rfl
  · split
    · simp only [q2, Int64.ofInt_sub, Int64.ofInt_mul]
    · split
      · simp only [q2, q3, Int64.ofInt_sub, Int64.ofInt_mul, Int64.ofInt_add]
      · simp only [q2, q3, q4, Int64.ofInt_sub, Int64.ofInt_mul, Int64.ofInt_add]
theorem oI_qA (A : Nat → Nat → Int) (n p : Nat) : qA (fun i j => Int64.ofInt (A i j)) n p = Int64.ofInt (qA A n p) := by
  unfold qA
  rw [← oI_qn]
  congr 1
  funext i j
  split <;> rfl
theorem oI_sLf (A : Nat → Nat → Int) (n : Nat) : ∀ k, sLf (fun i j => Int64.ofInt (A i j)) n k = Int64.ofInt (sLf A n k)
  | 0 => by rw [sLf, sLf, Int64.ofInt_mul, oI_qn]
  | k + 1 => by rw [sLf, sLf, Int64.ofInt_sub, Int64.ofInt_mul, oI_qA, oI_sLf A n k]
theorem gsm_oI (F : Nat → Int64) (G : Nat → Int64) : ∀ n, gsm n (fun r => F r * G r) = Int64.ofInt (isum n (fun r => (F r).toInt * (G r).toInt))
  | 0 => rfl
  | n + 1 => by rw [gsm, isum, Int64.ofInt_add, Int64.ofInt_mul, Int64.ofInt_toInt, Int64.ofInt_toInt, gsm_oI F G n]
/-- what the readings show, as whole numbers -/
def Xm (s : sSt) (o m r i : Nat) : Int := (xo s o r (cxm m i)).toInt
theorem As_oI (s : sSt) (o m : Nat) : As s o m = fun i j => Int64.ofInt (gA (Xm s o m) s.2.1.1 i j) := by
  funext i j
  exact gsm_oI _ _ _
theorem Xm_bd {s : sSt} {f : Nat → Int32} (h : rSt s f) {m : Nat} (hm : m < 256) (o r i : Nat) (hr : r < s.2.1.1) : (i < popc m → -3 ≤ Xm s o m r i ∧ Xm s o m r i ≤ 3) ∧ -300 ≤ Xm s o m r i ∧ Xm s o m r i ≤ 300 := by
  have z : (0 : Int64).toInt = 0 := rfl
  unfold Xm xo
  by_cases q : r = o
  · rw [if_pos q, z]
    omega
  · rw [if_neg q]
    unfold xr
    by_cases w : cxm m i < 8
    · rw [if_pos w]
      have := shw_bd h (nI (cxm m i)) (s.2.1.2.1 r)
      unfold bd at this
      omega
    · rw [if_neg w]
      refine ⟨fun hi => ?_, ?_⟩
      · rw [cxm_lt hi] at w
        exact absurd (plN_1 m hm i (by have := popc_8 m; omega) hi).2.1 w
      · obtain ⟨-, ⟨b1, b2, b3⟩, -⟩ := h
        have := (b3 r hr).2.2.2
        unfold wit at this
        rw [Bool.and_eq_true, decide_eq_true_eq, decide_eq_true_eq] at this
        have h1 := Int32.le_iff_toInt_le.mp this.1
        have h2 := Int32.le_iff_toInt_le.mp this.2
        rw [show ((-300 : Int32).toInt) = -300 from rfl] at h1
        rw [show ((300 : Int32).toInt) = 300 from rfl] at h2
        have := bd_32 (B := 300) h1 h2
        unfold bd at this
        exact this
theorem gA_bd {s : sSt} {f : Nat → Int32} (h : rSt s f) {m : Nat} (hm : m < 256) (o i j : Nat) : (i < popc m → j < popc m → -180 ≤ gA (Xm s o m) s.2.1.1 i j ∧ gA (Xm s o m) s.2.1.1 i j ≤ 180) ∧ (i < popc m → -18000 ≤ gA (Xm s o m) s.2.1.1 i j ∧ gA (Xm s o m) s.2.1.1 i j ≤ 18000) ∧ (-1800000 ≤ gA (Xm s o m) s.2.1.1 i j ∧ gA (Xm s o m) s.2.1.1 i j ≤ 1800000) := by
  have hN : s.2.1.1 ≤ 20 := h.2.1.1
  refine ⟨fun hi hj => ?_, fun hi => ?_, ?_⟩
  · have := isum_bd (F := fun r => Xm s o m r i * Xm s o m r j) (B := 3 * 3) s.2.1.1 (fun r hr => by
      have x := (Xm_bd h hm o r i hr).1 hi
      have y := (Xm_bd h hm o r j hr).1 hj
      exact abs_mul_le x.1 x.2 y.1 y.2)
    unfold gA
    omega
  · have := isum_bd (F := fun r => Xm s o m r i * Xm s o m r j) (B := 3 * 300) s.2.1.1 (fun r hr => by
      have x := (Xm_bd h hm o r i hr).1 hi
      have y := (Xm_bd h hm o r j hr).2
      exact abs_mul_le x.1 x.2 y.1 y.2)
    unfold gA
    omega
  · have := isum_bd (F := fun r => Xm s o m r i * Xm s o m r j) (B := 300 * 300) s.2.1.1 (fun r hr => by
      have x := (Xm_bd h hm o r i hr).2
      have y := (Xm_bd h hm o r j hr).2
      exact abs_mul_le x.1 x.2 y.1 y.2)
    unfold gA
    omega
theorem oI_in {x : Int} (h1 : -(2 : Int) ^ 62 < x) (h2 : x < (2 : Int) ^ 62) : (Int64.ofInt x).toInt = x := Int64.toInt_ofInt_of_le (by omega) (by omega)
theorem sol_bd {s : sSt} {f : Nat → Int32} (h : rSt s f) {m : Nat} (hm : m < 256) (h1 : 1 ≤ popc m) (h4 : popc m ≤ 4) (o : Nat) : (qn (As s o m) (popc m) = 0 ↔ Dep (Xm s o m) s.2.1.1 (popc m)) ∧ 0 ≤ (qn (As s o m) (popc m)).toInt ∧ (qn (As s o m) (popc m)).toInt < 2 ^ 35 ∧ (∀ p, p < popc m → -(2 : Int) ^ 45 < (qA (As s o m) (popc m) p).toInt ∧ (qA (As s o m) (popc m) p).toInt < (2 : Int) ^ 45) ∧ -(2 : Int) ^ 60 < (sLf (As s o m) (popc m) (popc m)).toInt ∧ (sLf (As s o m) (popc m) (popc m)).toInt < (2 : Int) ^ 60 := by
  obtain ⟨g1, g2⟩ := gram (Xm s o m) s.2.1.1 (popc m) h1 h4
  have hq : -(24 * (180 * 5832000)) ≤ qn (gA (Xm s o m) s.2.1.1) (popc m) ∧ qn (gA (Xm s o m) s.2.1.1) (popc m) ≤ 24 * (180 * 5832000) := b_qn (p := 9) (C := 180) h1 h4 (by decide) (by decide) (fun i j hi hj => by
    rw [if_neg (by omega)]
    exact (gA_bd h hm o i j).1 hi hj)
  have hA : ∀ p, -(24 * (18000 * 5832000)) ≤ qA (gA (Xm s o m) s.2.1.1) (popc m) p ∧ qA (gA (Xm s o m) s.2.1.1) (popc m) p ≤ 24 * (18000 * 5832000) := fun p => b_qn (p := p) (C := 18000) h1 h4 (by decide) (by decide) (fun i j hi hj => by
    by_cases w : j = p
    · simp only [if_pos w]
      exact (gA_bd h hm o i _).2.1 hi
    · simp only [if_neg w]
      exact (gA_bd h hm o i j).1 hi hj)
  have hS : ∀ k, k ≤ popc m → -(1800000 * (24 * (180 * 5832000)) + (k : Int) * (24 * (18000 * 5832000) * 18000)) ≤ sLf (gA (Xm s o m) s.2.1.1) (popc m) k ∧ sLf (gA (Xm s o m) s.2.1.1) (popc m) k ≤ 1800000 * (24 * (180 * 5832000)) + (k : Int) * (24 * (18000 * 5832000) * 18000) := by
    intro k
    induction k with
    | zero =>
      intro _
      have x := (gA_bd h hm o (popc m) (popc m)).2.2
      have y := abs_mul_le x.1 x.2 hq.1 hq.2
      rw [sLf]
      omega
    | succ k ih =>
      intro hk
      have i1 := ih (by omega)
      have x := hA k
      have y := (gA_bd h hm o k (popc m)).2.1 (by omega)
      have z := abs_mul_le x.1 x.2 y.1 y.2
      rw [sLf]
      omega
  rw [As_oI]
  simp only [oI_qn, oI_qA, oI_sLf]
  have e0 : (Int64.ofInt (qn (gA (Xm s o m) s.2.1.1) (popc m))).toInt = qn (gA (Xm s o m) s.2.1.1) (popc m) := oI_in (by omega) (by omega)
  refine ⟨?_, ?_, ?_, fun p _ => ?_, ?_⟩
  · rw [← g2, ← Int64.toInt_inj, e0]
    rfl
  · rw [e0]
    exact g1
  · rw [e0]
    omega
  · have := hA p
    rw [oI_in (by omega) (by omega)]
    omega
  · have := hS (popc m) (Nat.le_refl _)
    rw [oI_in (by omega) (by omega)]
    omega
