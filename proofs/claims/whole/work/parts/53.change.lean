/-! change -/
theorem i32_nle {a b : Int32} : ¬ a ≤ b ↔ b < a := by rw [i32_le, i32_lt]; omega
theorem sub_in {x y : Int32} (hx : wit x (-1000) 1000 = true) (hy : wit y (-1000) 1000 = true) : (x - y).toInt = x.toInt - y.toInt ∧ 0 ≤ (absI (x - y)).toInt := by
  simp only [wit, Bool.and_eq_true, decide_eq_true_eq, i32_le] at hx hy
  have e1 : (-1000 : Int32).toInt = -1000 := rfl
  have e2 : (1000 : Int32).toInt = 1000 := rfl
  have e0 : (0 : Int32).toInt = 0 := rfl
  have h : (x - y).toInt = x.toInt - y.toInt := by
    rw [Int32.toInt_sub, Int.bmod_def]
    split <;> omega
  refine ⟨h, ?_⟩
  unfold absI
  by_cases q : (0 : Int32) ≤ x - y
  · rw [if_pos q]
    rw [i32_le] at q
    omega
  · rw [if_neg q, Int32.toInt_neg, Int.bmod_def]
    rw [i32_le] at q
    split <;> omega
def chI (t : sTr) (p : Int32) (k : Nat) (a m : Int32) : Prop :=
  (cnt (atP t.2.1 p) k = 0 ∧ a = -1 ∧ m = -1 ∧ gturn t.2.1 t.2.2 p k = (0, false, 0)) ∨
  (cnt (atP t.2.1 p) k = 1 ∧ m = -1 ∧ ∃ i, i < k ∧ a = nI i ∧ gturn t.2.1 t.2.2 p k = (0, true, t.2.2 i)) ∨
  (2 ≤ cnt (atP t.2.1 p) k ∧ 0 ≤ m.toInt ∧ ∃ i, i < k ∧ a = nI i ∧ gturn t.2.1 t.2.2 p k = (m, true, t.2.2 i))
theorem change_loop {t : sTr} {S : gS} (h : rTr t (iF S 5) (iA S 6) (iA S 7)) {fu : Nat} {p : Int32} (hp : wit p (-1) 5 = true) : ∀ (j k : Nat) (a m : Int32), k ≤ t.1 → t.1 - k < j → chI t p k a m → lX11_change_24 fu p j a m (nI k) S = if 2 ≤ cnt (atP t.2.1 p) t.1 then some ((gturn t.2.1 t.2.2 p t.1).1.toInt64, S) else fX11_tellFinding fu S (-9000000000000000006) := by
  intro j
  induction j with
  | zero => intro k a m _ hj; exact absurd hj (Nat.not_lt_zero _)
  | succ j ih =>
    intro k a m hk hj hI
    obtain ⟨t1, t2, t3⟩ := id h
    rw [lX11_change_24, t2]
    have em : (-1 : Int32).toInt = -1 := rfl
    have e0 : (0 : Int32).toInt = 0 := rfl
    by_cases e : k = t.1
    · subst e
      rw [if_pos (nI_le (Nat.le_refl _) (by omega)), obind_eta]
      rcases hI with ⟨c0, -, m0, -⟩ | ⟨c1, m0, -⟩ | ⟨c2, m0, i, -, -, g⟩
      · rw [m0, if_neg (by decide), if_neg (by omega)]
      · rw [m0, if_neg (by decide), if_neg (by omega)]
      · rw [if_pos (show 0 ≤ m by rw [i32_le]; omega), if_pos c2, g]
    · rw [if_neg (nI_ge (by omega) (by omega)), isAt_eq h fu (by omega) hp]
      simp only [Option.bind_some]
      have eg : gturn t.2.1 t.2.2 p (k + 1) = if atP t.2.1 p k then (if (gturn t.2.1 t.2.2 p k).2.1 then maxI (gturn t.2.1 t.2.2 p k).1 (absI (t.2.2 k - (gturn t.2.1 t.2.2 p k).2.2)) else (gturn t.2.1 t.2.2 p k).1, true, t.2.2 k) else gturn t.2.1 t.2.2 p k := rfl
      cases hb : atP t.2.1 p k
      · simp only [Bool.false_eq_true, if_false]
        rw [nI_1]
        refine ih (k + 1) a m (by omega) (by omega) ?_
        unfold chI
        rw [eg, hb, ← cnt_f hb]
        rcases hI with h0 | ⟨c1, m0, i, i1, i2⟩ | ⟨c2, m0, i, i1, i2⟩
        · exact Or.inl h0
        · exact Or.inr (Or.inl ⟨c1, m0, i, by omega, i2⟩)
        · exact Or.inr (Or.inr ⟨c2, m0, i, by omega, i2⟩)
      · simp only [if_true]
        rw [hb, if_pos rfl] at eg
        have ec := cnt_t hb
        obtain ⟨q1, q2, q3, q4⟩ := t3 k (by omega)
        rcases hI with ⟨c0, a0, m0, g⟩ | ⟨c1, m0, i, i1, a0, g⟩ | ⟨c2, m0, i, i1, a0, g⟩
        · rw [a0, if_pos (by decide), nI_1]
          refine ih (k + 1) _ _ (by omega) (by omega) (Or.inr (Or.inl ⟨by omega, m0, k, by omega, rfl, ?_⟩))
          rw [eg, g]
          simp only [Bool.false_eq_true, if_false]
        · obtain ⟨w1, w2, w3, w4⟩ := t3 i (by omega)
          obtain ⟨s1, s2⟩ := sub_in q4 w4
          rw [a0, if_neg (nI_pos (by omega)), gIx_n (by omega) (by decide), gIx_n (by omega) (by decide)]
          simp only [Option.bind_some]
          rw [q2, w2]
          unfold jX11_change_79
          have hj2 : ∀ x : Int32, x = absI (t.2.2 k - t.2.2 i) → (if x ≤ m then lX11_change_24 fu p j (nI k) m (nI k + 1) S else lX11_change_24 fu p j (nI k) x (nI k + 1) S) = if 2 ≤ cnt (atP t.2.1 p) t.1 then some ((gturn t.2.1 t.2.2 p t.1).1.toInt64, S) else fX11_tellFinding fu S (-9000000000000000006) := fun x hx => by
            rw [if_neg (show ¬ x ≤ m by rw [i32_le, m0, em, hx]; omega), nI_1]
            refine ih (k + 1) _ _ (by omega) (by omega) (Or.inr (Or.inr ⟨by omega, by rw [hx]; exact s2, k, by omega, rfl, ?_⟩))
            rw [eg, g]
            simp only [if_true]
            rw [hx, maxI]
            by_cases l : 0 < absI (t.2.2 k - t.2.2 i)
            · rw [if_pos l]
            · rw [if_neg l]
              have : absI (t.2.2 k - t.2.2 i) = 0 := by
                rw [i32_lt, e0] at l
                rw [i32_eq, e0]
                omega
              rw [this]
          by_cases l : (0 : Int32) ≤ t.2.2 k - t.2.2 i
          · rw [if_pos l]
            exact hj2 _ (if_pos l).symm
          · rw [if_neg l]
            exact hj2 _ (if_neg l).symm
        · obtain ⟨w1, w2, w3, w4⟩ := t3 i (by omega)
          obtain ⟨s1, s2⟩ := sub_in q4 w4
          rw [a0, if_neg (nI_pos (by omega)), gIx_n (by omega) (by decide), gIx_n (by omega) (by decide)]
          simp only [Option.bind_some]
          rw [q2, w2]
          unfold jX11_change_79
          have hj2 : ∀ x : Int32, x = absI (t.2.2 k - t.2.2 i) → (if x ≤ m then lX11_change_24 fu p j (nI k) m (nI k + 1) S else lX11_change_24 fu p j (nI k) x (nI k + 1) S) = if 2 ≤ cnt (atP t.2.1 p) t.1 then some ((gturn t.2.1 t.2.2 p t.1).1.toInt64, S) else fX11_tellFinding fu S (-9000000000000000006) := fun x hx => by
            have em2 : gturn t.2.1 t.2.2 p (k + 1) = (maxI m x, true, t.2.2 k) := by
              rw [eg, g, hx]
              simp only [if_true]
            by_cases l : x ≤ m
            · rw [if_pos l, nI_1]
              refine ih (k + 1) _ _ (by omega) (by omega) (Or.inr (Or.inr ⟨by omega, m0, k, by omega, rfl, ?_⟩))
              rw [em2, maxI, if_neg (fun q => absurd l (i32_nle.mpr q))]
            · rw [if_neg l, nI_1]
              refine ih (k + 1) _ _ (by omega) (by omega) (Or.inr (Or.inr ⟨by omega, by rw [hx]; exact s2, k, by omega, rfl, ?_⟩))
              rw [em2, maxI, if_pos (i32_nle.mp l)]
          by_cases l : (0 : Int32) ≤ t.2.2 k - t.2.2 i
          · rw [if_pos l]
            exact hj2 _ (if_pos l).symm
          · rw [if_neg l]
            exact hj2 _ (if_neg l).symm
theorem p_change {fu : Nat} (hfu : 80 ≤ fu) : St_change fu := by
  intro T S c h hc v0
  unfold fX10_change fX11_change
  rw [in_eq]
  simp only [Option.bind_some, obind_eta, fX9_isPlace]
  cases hw : wit v0 (-1) 5
  · simp only [Bool.false_eq_true, if_false]
    exact ref1 h hc
  · simp only [if_true]
    have h7 := h.2.2.2.2.2.2.1
    have t1 := h7.1
    have hl := change_loop h7 (fu := fu) hw fu 0 (-1) (-1) (by omega) (by omega) (Or.inl ⟨rfl, rfl, rfl, rfl⟩)
    have ed : fX9_daysAt T.2.2.2.2.2.2.2.2.1 v0 = some (nI (cnt (atP T.2.2.2.2.2.2.2.2.1.2.1 v0) T.2.2.2.2.2.2.2.2.1.1)) := if_pos t1
    have eg : fX9_greatestTurnAt T.2.2.2.2.2.2.2.2.1 v0 = some (gturn T.2.2.2.2.2.2.2.2.1.2.1 T.2.2.2.2.2.2.2.2.1.2.2 v0 T.2.2.2.2.2.2.2.2.1.1).1 := if_pos t1
    have hc1 := cnt_le (atP T.2.2.2.2.2.2.2.2.1.2.1 v0) T.2.2.2.2.2.2.2.2.1.1
    rw [nI_0] at hl
    rw [hl, ed, eg]
    simp only [Option.bind_some]
    by_cases q : 2 ≤ cnt (atP T.2.2.2.2.2.2.2.2.1.2.1 v0) T.2.2.2.2.2.2.2.2.1.1
    · rw [if_pos (show (2 : Int32) ≤ nI _ from nI_le (a := 2) q (by omega)), if_pos q]
      exact rOk_same h _
    · rw [if_neg (show ¬ (2 : Int32) ≤ nI _ from nI_ge (b := 2) (by omega) (by decide)), if_neg q]
      exact ref6 h hc
