/-! subsets of a model -/
theorem isum_sh (F : Nat → Int) : ∀ n, isum (n + 1) F = F 0 + isum n (fun j => F (j + 1))
  | 0 => by simp [isum]
  | n + 1 => by rw [isum, isum_sh F n, isum]; omega
theorem isum_nth (F : Nat → Int) (cs : Nat) : ∀ n, n ≤ 8 → isum (pcN n cs) (fun j => F (nthB n cs j)) = isum n (fun i => if cs.testBit (8 - n + i) then F (8 - n + i) else 0)
  | 0, _ => rfl
  | n + 1, hn => by
    have ih := isum_nth F cs n (by omega)
    rw [pcN, isum_sh]
    have e2 : isum n (fun j => (fun i => if cs.testBit (8 - (n + 1) + i) then F (8 - (n + 1) + i) else 0) (j + 1)) = isum n (fun i => if cs.testBit (8 - n + i) then F (8 - n + i) else 0) := isum_ext n (fun j _ => by
      simp only [show 8 - (n + 1) + (j + 1) = 8 - n + j by omega])
    rw [e2, ← ih]
    by_cases hb : cs.testBit (8 - (n + 1)) = true
    · rw [if_pos hb, Nat.add_comm 1, isum_sh]
      simp only [Nat.add_zero, hb, if_true]
      have e0 : nthB (n + 1) cs 0 = 8 - (n + 1) := by rw [nthB, if_pos hb, if_pos rfl]
      rw [e0]
      congr 1
      refine isum_ext _ (fun t _ => ?_)
      show F (nthB (n + 1) cs (t + 1)) = F (nthB n cs t)
      rw [nthB, if_pos hb, if_neg (by omega), Nat.add_sub_cancel]
    · rw [if_neg hb, Nat.zero_add]
      simp only [Nat.add_zero]
      rw [if_neg hb, Int.zero_add]
      refine isum_ext _ (fun t _ => ?_)
      show F (nthB (n + 1) cs t) = F (nthB n cs t)
      rw [nthB, if_neg hb]
theorem isum_nth8 (F : Nat → Int) {cs : Nat} (h : cs < 256) : isum (popc cs) (fun j => F (nthB 8 cs j)) = isum 8 (fun c => if cs.testBit c then F c else 0) := by
  rw [popc_pcN cs h, isum_nth F cs 8 (Nat.le_refl _)]
  exact isum_ext 8 (fun j _ => by simp only [Nat.sub_self, Nat.zero_add])
def plN (m c : Nat) : Nat := popc (m % 2 ^ c)
set_option maxRecDepth 100000 in
theorem plN_1 : ∀ m, m < 256 → ∀ j, j < 8 → j < popc m → m.testBit (nthB 8 m j) = true ∧ nthB 8 m j < 8 ∧ plN m (nthB 8 m j) = j := by decide +kernel
set_option maxRecDepth 100000 in
theorem plN_2 : ∀ m, m < 256 → ∀ c, c < 8 → m.testBit c = true → plN m c < popc m ∧ nthB 8 m (plN m c) = c := by decide +kernel
theorem popc_8 (m : Nat) : popc m ≤ 8 := by unfold popc; omega
def em (m q : Nat) : Nat := (if q.testBit 0 then 2 ^ nthB 8 m 0 else 0) + (if q.testBit 1 then 2 ^ nthB 8 m 1 else 0) + (if q.testBit 2 then 2 ^ nthB 8 m 2 else 0) + (if q.testBit 3 then 2 ^ nthB 8 m 3 else 0)
set_option maxRecDepth 100000 in
theorem em_a : ∀ m, m < 256 → popc m ≤ 4 → ∀ q, q < 16 → q < 2 ^ popc m → em m q < 256 ∧ em m q &&& m = em m q ∧ popc (em m q) = popc q := by decide +kernel
set_option maxRecDepth 100000 in
theorem em_b : ∀ m, m < 256 → ∀ q, q < 16 → ∀ j, j < 4 → (popc m ≤ 4 ∧ q < 2 ^ popc m ∧ j < popc m) → (em m q).testBit (nthB 8 m j) = q.testBit j := by decide +kernel
theorem em_1 {m : Nat} (hm : m < 256) (h4 : popc m ≤ 4) {q : Nat} (hq : q < 16) (hq2 : q < 2 ^ popc m) : em m q < 256 ∧ em m q &&& m = em m q ∧ popc (em m q) = popc q ∧ ∀ j, j < 4 → j < popc m → (em m q).testBit (nthB 8 m j) = q.testBit j := ⟨(em_a m hm h4 q hq hq2).1, (em_a m hm h4 q hq hq2).2.1, (em_a m hm h4 q hq hq2).2.2, fun j hj hj2 => em_b m hm q hq j hj ⟨h4, hq2, hj2⟩⟩
theorem sub_bit {P m c : Nat} (h : P &&& m = P) (hb : P.testBit c = true) : m.testBit c = true := by
  rw [← h, Nat.testBit_and, Bool.and_eq_true] at hb
  exact hb.2
/-- a vector of the part, in the model's places -/
def lift (P m : Nat) (u : Nat → Int) (j : Nat) : Int := if P.testBit (nthB 8 m j) then u (plN P (nthB 8 m j)) else 0
theorem lift_sum {P m : Nat} (hP : P < 256) (hm : m < 256) (hs : P &&& m = P) (G u : Nat → Int) : isum (popc m) (fun j => G (nthB 8 m j) * lift P m u j) = isum (popc P) (fun j => G (nthB 8 P j) * u j) := by
  rw [isum_ext (G := fun j => (fun c => G c * u (plN P c)) (nthB 8 P j)) (popc P) (fun j hj => by
    simp only [(plN_1 P hP j (by have := popc_8 P; omega) hj).2.2]), isum_nth8 (fun c => G c * u (plN P c)) hP]
  show isum (popc m) (fun j => (fun c => G c * (if P.testBit c then u (plN P c) else 0)) (nthB 8 m j)) = _
  rw [isum_nth8 (fun c => G c * (if P.testBit c then u (plN P c) else 0)) hm]
  refine isum_ext 8 (fun c _ => ?_)
  by_cases h : P.testBit c = true
  · simp only [h, sub_bit hs h, if_true]
  · simp only [h, if_false, Int.mul_zero, Bool.false_eq_true]
    split <;> rfl
def DepC (X : Nat → Nat → Int) (N P : Nat) : Prop := Dep (fun r j => X r (nthB 8 P j)) N (popc P)
theorem rank_lo {X : Nat → Nat → Int} {N m rk : Nat} {T : Nat → Int64} {B : Int} (hm : m < 256) (hm4 : popc m ≤ 4) (h : Elm (fun r j => X r (nthB 8 m j)) N (popc m) T (popc m) rk B) : ∃ P, P < 256 ∧ P &&& m = P ∧ popc P = rk ∧ ¬ DepC X N P := by
  obtain ⟨q, h1, h2, h3⟩ := h.2.2.2.1
  have q16 : q < 16 := Nat.lt_of_lt_of_le h1 (Nat.pow_le_pow_right (n := 2) (j := 4) (by decide) hm4)
  obtain ⟨e1, e2, e3, e4⟩ := em_1 hm hm4 q16 h1
  refine ⟨em m q, e1, e2, e3.trans h2, ?_⟩
  rintro ⟨u, ⟨j, hj, hu⟩, hr⟩
  have w := h3 (lift (em m q) m u) (fun t ht hb => by
    unfold lift
    rw [e4 t (by omega) ht, hb]
    rfl) (fun i hi => by
    refine (h.2.1 (lift (em m q) m u)).mp (fun r hrN => ?_) i (by have := h.2.2.2.2.1; omega)
    have := lift_sum e1 hm e2 (fun c => X r c) u
    exact this.trans (hr r hrN))
  have p1 := plN_1 (em m q) e1 j (by have := popc_8 (em m q); omega) hj
  have p2 := plN_2 m hm (nthB 8 (em m q) j) p1.2.1 (sub_bit e2 p1.1)
  have := w (plN m (nthB 8 (em m q) j)) p2.1
  unfold lift at this
  rw [p2.2, p1.1, p1.2.2] at this
  exact hu this
theorem rank_hi {X : Nat → Nat → Int} {N m rk : Nat} {T : Nat → Int64} {B : Int} (hm : m < 256) (h : Elm (fun r j => X r (nthB 8 m j)) N (popc m) T (popc m) rk B) {P : Nat} (hP : P < 256) (hs : P &&& m = P) (hlt : rk < popc P) : DepC X N P := by
  obtain ⟨u, hu, he⟩ := homog rk (popc P) (fun i j => (T (4 * i + plN m (nthB 8 P j))).toInt) hlt
  refine ⟨u, hu, ?_⟩
  have hk := (h.2.1 (lift P m u)).mpr (fun r hr => by
    by_cases q : r < rk
    · have := lift_sum hP hm hs (fun c => (T (4 * r + plN m c)).toInt) u
      refine Eq.trans (isum_ext _ (fun j hj => ?_)) (this.trans (he r q))
      simp only [(plN_1 m hm j (by have := popc_8 m; omega) hj).2.2]
    · exact isum_z (fun j hj => by rw [h.2.2.1 r j (by omega) hr hj, Int.zero_mul]))
  intro r hr
  have := lift_sum hP hm hs (fun c => X r c) u
  exact this.symm.trans (hk r hr)
