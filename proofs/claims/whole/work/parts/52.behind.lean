theorem j77 (fu : Nat) (T : sWB) (v1 v2 v3 v4 v5 : Int32) (v6 : Bool) {k : Int32} (hk : ¬ k = 0) : jX10_behind_77 fu v1 v2 v3 v4 v5 v6 k T = fX10_refuse fu T k := by
  unfold jX10_behind_77
  rw [if_neg hk, obind_eta]
theorem j40 (fu : Nat) (T : sWB) (v1 v2 v3 v4 v5 : Int32) (v6 : Bool) {k : Int32} (s : Int32) (hk : ¬ k = 0) : jX10_behind_40 fu v1 v2 v3 v4 v5 v6 k s T = fX10_refuse fu T k := by
  unfold jX10_behind_40
  rw [if_neg hk, j77 fu T v1 v2 v3 v4 v5 v6 hk]
theorem p_behind {fu : Nat} (hfu : 80 ≤ fu) : St_behind fu := by
  intro T S c h hc v0 v1 v2 v3 v4 v5
  have h1 := h.1
  obtain ⟨-, -, ⟨m1, m2, m3⟩, -⟩ := id h1
  unfold fX10_behind fX11_behind jX10_behind_39
  rw [phas_eq (by omega), phas_eq (by omega)]
  rcases why_cases h fu with ⟨e1, e2⟩ | ⟨e1, e2⟩ | ⟨e1, e2, hcs, hf⟩
  · rw [e1, e2]
    simp only [Option.bind_some, obind_eta]
    rw [j40 fu T v0 v1 v2 v3 v4 v5 0 (by decide), j40 fu T v0 v1 v2 v3 v4 v5 1 (by decide), ite_self, ite_self, if_neg (by decide)]
    exact ref2 h hc
  · rw [e1, e2]
    simp only [Option.bind_some, obind_eta]
    rw [j40 fu T v0 v1 v2 v3 v4 v5 0 (by decide), j40 fu T v0 v1 v2 v3 v4 v5 1 (by decide), ite_self, ite_self, if_neg (by decide)]
    exact ref7 h hc
  · rw [e1, e2, isState_eq, isMend_eq h1, isMend_eq h1, in_eq, in_eq]
    obtain ⟨b1, b2, b3, b4⟩ := fresh_bd hf
    unfold jX10_behind_40 jX10_behind_74
    rw [j77 fu T v0 v1 v2 v3 v4 v5 (show ¬ (1 : Int32) = 0 by decide)]
    simp only [Option.bind_some, if_true, obind_eta, fX10_isState, fX10_isSteps, if_neg (show ¬ (1 : Int32) = 0 by decide)]
    cases hw : wit v0 0 35
    · simp only [Bool.false_eq_true, if_false, ite_self]
      exact ref1 h hc
    simp only [if_true]
    cases hp : pin v1 T.1.2.2.1.1
    · simp only [Bool.false_eq_true, if_false]
      exact ref1 h hc
    simp only [if_true]
    cases hq : pin v3 T.1.2.2.1.1
    · simp only [Bool.false_eq_true, if_false]
      exact ref1 h hc
    simp only [if_true]
    cases hs : wit v2 (-3) 3
    · simp only [Bool.false_eq_true, if_false]
      exact ref1 h hc
    simp only [if_true]
    cases ht : wit v4 (-3) 3
    · simp only [Bool.false_eq_true, if_false]
      exact ref1 h hc
    simp only [if_true]
    obtain ⟨i, hi, rfl⟩ := pin_ex hp (by omega)
    obtain ⟨k, hk, rfl⟩ := pin_ex hq (by omega)
    have ha : fX6_aboveIn T.2.2.2.2.2.1 T.1.1 v0 = some (abIn T.2.2.2.2.2.1.2.2.1 T.2.2.2.2.2.1.2.2.2.1 T.1.1.1 T.1.1.2.1 T.1.1.2.2.1 T.1.1.2.2.2 v0 8) := if_pos ⟨hcs, h1.1.1⟩
    have hst : ∀ n : Int32, fX6_stepIn T.2.2.2.2.2.1 T.1 v0 n = some (stIn T.2.2.2.2.2.1.2.2.1 T.2.2.2.2.2.1.2.2.2.2.1 T.1.1.1 T.1.1.2.1 T.1.1.2.2.1 T.1.1.2.2.2 T.1.2.2.1.1 T.1.2.2.1.2.1 T.1.2.2.1.2.2 v0 n) := fun n => if_pos ⟨hcs, h1.1.1, m1⟩
    obtain ⟨b, d, q1, q2, q3⟩ := mend_sum (fu := fu) (by omega) h1 hcs hf hi hk v2 v4 hw (abIn T.2.2.2.2.2.1.2.2.1 T.2.2.2.2.2.1.2.2.2.1 T.1.1.1 T.1.1.2.1 T.1.1.2.2.1 T.1.1.2.2.2 v0 8)
    unfold jX10_behind_77
    rw [if_pos rfl, ha, hst, hst, q1, q2, fore_eq (by omega) h1 hcs hf hw]
    simp only [Option.bind_some, fX6_below, fX2_lowest]
    rw [q3, hf.2.2.2.1]
    have hb : bd ((abIn T.2.2.2.2.2.1.2.2.1 T.2.2.2.2.2.1.2.2.2.1 T.1.1.1 T.1.1.2.1 T.1.1.2.2.1 T.1.1.2.2.2 v0 8 + v2.toInt64 * stIn T.2.2.2.2.2.1.2.2.1 T.2.2.2.2.2.1.2.2.2.2.1 T.1.1.1 T.1.1.2.1 T.1.1.2.2.1 T.1.1.2.2.2 T.1.2.2.1.1 T.1.2.2.1.2.1 T.1.2.2.1.2.2 v0 (nI i)) + v4.toInt64 * stIn T.2.2.2.2.2.1.2.2.1 T.2.2.2.2.2.1.2.2.2.2.1 T.1.1.1 T.1.1.2.1 T.1.1.2.2.1 T.1.1.2.2.2 T.1.2.2.1.1 T.1.2.2.1.2.1 T.1.2.2.1.2.2 v0 (nI k)) (2 ^ 50 + 3 * 2 ^ 45 + 3 * 2 ^ 45) := by
      rw [stIn_eq m1 hi, stIn_eq m1 hk]
      exact bd_add (bd_add (abIn_bd8 h1 b1 v0) (bd_mul (steps_bd hs) (stIn_bd h1 b2 hi v0) (by decide)) (by decide)) (bd_mul (steps_bd ht) (stIn_bd h1 b2 hk v0) (by decide)) (by decide)
    rw [part_lows hfu (bd_min hb (by decide)) b3 b4]
    exact rOk_same h _
/-! mean -/
theorem isAt_eq {t : sTr} {S : gS} (h : rTr t (iF S 5) (iA S 6) (iA S 7)) (fu : Nat) {k : Nat} (hk : k < t.1) {p : Int32} (hp : wit p (-1) 5 = true) : fX11_isAt fu S (nI k) p = some (atP t.2.1 p k) := by
  obtain ⟨t1, t2, t3⟩ := h
  unfold fX11_isAt
  rcases wit_m (m := 5) 5 rfl (by decide) hp with rfl | ⟨q, hq, rfl⟩
  · rw [if_pos (by decide)]
    rfl
  · rw [if_neg (nI_pos (by omega)), gIx_n (by omega) (by decide)]
    simp only [Option.bind_some]
    have ne : ¬ nI q = -1 := fun e => by
      rw [i32_eq, nI_toInt (by omega)] at e
      have : (-1 : Int32).toInt = -1 := rfl
      omega
    rw [(t3 k hk).1, atP, decide_eq_false ne, Bool.false_or]
    by_cases e : t.2.1 k / 6 = nI q
    · rw [if_pos e, decide_eq_true e]
    · rw [if_neg e, decide_eq_false e]
theorem gsum_bd {t : sTr} {n5 : Int32} {f g : Nat → Int32} (h : rTr t n5 f g) (p : Int32) : ∀ k, k ≤ t.1 → -(1000 * (k : Int)) ≤ (gsum t.2.1 t.2.2 p k).toInt ∧ (gsum t.2.1 t.2.2 p k).toInt ≤ 1000 * (k : Int)
  | 0, _ => by
    have e : (gsum t.2.1 t.2.2 p 0).toInt = 0 := rfl
    rw [e]
    omega
  | k + 1, hk => by
    have ih := gsum_bd h p k (by omega)
    obtain ⟨t1, t2, t3⟩ := h
    obtain ⟨-, -, -, q⟩ := t3 k (by omega)
    simp only [wit, Bool.and_eq_true, decide_eq_true_eq, i32_le] at q
    have e1 : (-1000 : Int32).toInt = -1000 := rfl
    have e2 : (1000 : Int32).toInt = 1000 := rfl
    rw [gsum]
    split
    · rw [Int32.toInt_add]
      have : ((gsum t.2.1 t.2.2 p k).toInt + (t.2.2 k).toInt).bmod (2 ^ 32) = (gsum t.2.1 t.2.2 p k).toInt + (t.2.2 k).toInt := by
        rw [Int.bmod_def]
        split <;> omega
      rw [this]
      omega
    · omega
theorem add_toL {x y : Int32} (h1 : -(2 : Int) ^ 31 ≤ x.toInt + y.toInt) (h2 : x.toInt + y.toInt < (2 : Int) ^ 31) : (x + y).toInt64 = x.toInt64 + y.toInt64 := by
  rw [i64_eq, Int32.toInt_toInt64, Int32.toInt_add, Int64.toInt_add, Int32.toInt_toInt64, Int32.toInt_toInt64, bmod64 (by omega) (by omega), Int.bmod_def]
  split <;> omega
theorem mean_loop {T : sWB} {S : gS} {c fu : Nat} (h : rR T S c) {p : Int32} (b : Bool) (hp : wit p (-1) 5 = true) : ∀ (j k : Nat), k ≤ T.2.2.2.2.2.2.2.2.1.1 → T.2.2.2.2.2.2.2.2.1.1 - k < j → lX11_mean_25 fu p b j (gsum T.2.2.2.2.2.2.2.2.1.2.1 T.2.2.2.2.2.2.2.2.1.2.2 p k).toInt64 (lN (cnt (atP T.2.2.2.2.2.2.2.2.1.2.1 p) k)) (nI k) S = (if lN (cnt (atP T.2.2.2.2.2.2.2.2.1.2.1 p) T.2.2.2.2.2.2.2.2.1.1) = 0 then fX11_tellFinding fu S (-9000000000000000006) else (fX11_part fu (gsum T.2.2.2.2.2.2.2.2.1.2.1 T.2.2.2.2.2.2.2.2.1.2.2 p T.2.2.2.2.2.2.2.2.1.1).toInt64 (lN (cnt (atP T.2.2.2.2.2.2.2.2.1.2.1 p) T.2.2.2.2.2.2.2.2.1.1)) b).bind fun r => some (r, S)) := by
  intro j
  induction j with
  | zero => intro k _ hj; exact absurd hj (Nat.not_lt_zero _)
  | succ j ih =>
    intro k hk hj
    obtain ⟨-, -, -, -, -, -, h7, -⟩ := h
    have h7' := h7
    obtain ⟨t1, t2, t3⟩ := h7
    generalize T.2.2.2.2.2.2.2.2.1 = t at *
    rw [lX11_mean_25, t2]
    by_cases e : k = t.1
    · subst e
      rw [if_pos (nI_le (Nat.le_refl _) (by omega)), obind_eta]
    · rw [if_neg (nI_ge (by omega) (by omega)), isAt_eq h7' fu (by omega) hp]
      simp only [Option.bind_some]
      unfold jX11_mean_57
      rw [isAt_eq h7' fu (by omega) hp, nI_1]
      simp only [Option.bind_some]
      have ih2 := ih (k + 1) (by omega) (by omega)
      have eg : gsum t.2.1 t.2.2 p (k + 1) = if atP t.2.1 p k = true then gsum t.2.1 t.2.2 p k + t.2.2 k else gsum t.2.1 t.2.2 p k := rfl
      rw [eg] at ih2
      cases hb : atP t.2.1 p k
      · rw [hb, if_neg (by decide), ← cnt_f hb] at ih2
        rw [if_neg (by decide), if_neg (by decide)]
        rw [show ∀ x : Int64, x + 0 = x from fun x => by simp, show ∀ x : Int64, x + 0 = x from fun x => by simp]
        exact ih2
      · have hg := gsum_bd h7' p k (by omega)
        obtain ⟨q1, q2, q3, q4⟩ := t3 k (by omega)
        simp only [wit, Bool.and_eq_true, decide_eq_true_eq, i32_le] at q4
        have e1 : (-1000 : Int32).toInt = -1000 := rfl
        have e2 : (1000 : Int32).toInt = 1000 := rfl
        rw [hb, if_pos rfl, ← cnt_t hb, add_toL (by omega) (by omega)] at ih2
        rw [if_pos rfl, gIx_n (by omega) (by decide)]
        simp only [Option.bind_some, if_true]
        rw [q2, lN_s]
        exact ih2
theorem p_mean {fu : Nat} (hfu : 80 ≤ fu) : St_mean fu := by
  intro T S c h hc v0 v1
  unfold fX10_mean fX11_mean
  rw [in_eq]
  simp only [Option.bind_some, obind_eta, fX9_isPlace]
  cases hw : wit v0 (-1) 5
  · simp only [Bool.false_eq_true, if_false]
    exact ref1 h hc
  · simp only [if_true]
    have hl := mean_loop (fu := fu) h v1 hw fu 0 (by omega) (by
      have := h.2.2.2.2.2.2.1.1
      omega)
    have h7 := h.2.2.2.2.2.2.1
    have t1 := h7.1
    have ed : fX9_daysAt T.2.2.2.2.2.2.2.2.1 v0 = some (nI (cnt (atP T.2.2.2.2.2.2.2.2.1.2.1 v0) T.2.2.2.2.2.2.2.2.1.1)) := if_pos t1
    have eg : fX9_gainAt T.2.2.2.2.2.2.2.2.1 v0 = some (gsum T.2.2.2.2.2.2.2.2.1.2.1 T.2.2.2.2.2.2.2.2.1.2.2 v0 T.2.2.2.2.2.2.2.2.1.1) := if_pos t1
    have hc1 := cnt_le (atP T.2.2.2.2.2.2.2.2.1.2.1 v0) T.2.2.2.2.2.2.2.2.1.1
    rw [nI_0] at hl
    have hl2 : lX11_mean_25 fu v0 v1 fu 0 0 0 S = _ := hl
    rw [hl2, ed, eg]
    simp only [Option.bind_some, fX2_lowest]
    by_cases q : cnt (atP T.2.2.2.2.2.2.2.2.1.2.1 v0) T.2.2.2.2.2.2.2.2.1.1 = 0
    · rw [if_pos (show nI _ = 0 by rw [q]; rfl), if_pos (show lN _ = 0 by rw [q]; rfl)]
      exact ref6 h hc
    · rw [if_neg (nI_ne0 (by omega) (by omega)), if_neg (fun w => q ((lN_z (by omega)).mp w)), nI_l (by omega)]
      have hg := gsum_bd h7 v0 _ (Nat.le_refl _)
      rw [part_lows hfu (by rw [Int32.toInt_toInt64]; omega) (by rw [pk_lT (by omega)]; omega) (by rw [pk_lT (by omega)]; omega)]
      exact rOk_same h _
