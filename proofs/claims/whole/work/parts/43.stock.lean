/-! What causes show; spans; keep and back. -/
theorem kd_cases {kd a b : Int32} (h : allw kd a b = true) : kd = 0 ∨ (kd = 1 ∨ kd = 5) ∧ wit a 0 3 = true ∧ wit b 1 3 = true ∨ (kd = 2 ∨ kd = 3 ∨ kd = 4) ∧ wit a (-2) 2 = true ∧ wit b (-2) 2 = true := by
  unfold allw at h
  have t : ∀ (k : Int32) (n : Int), kd.toInt = n → k.toInt = n → kd = k := fun k n h1 h2 => Int32.toInt_inj.mp (h1.trans h2.symm)
  by_cases h0 : kd.toInt = 0
  · exact Or.inl (t 0 0 h0 rfl)
  · rw [if_neg h0] at h
    by_cases h1 : kd.toInt = 1 ∨ kd.toInt = 5
    · rw [if_pos h1, Bool.and_eq_true] at h
      exact Or.inr (Or.inl ⟨h1.elim (fun q => Or.inl (t 1 1 q rfl)) (fun q => Or.inr (t 5 5 q rfl)), h⟩)
    · rw [if_neg h1] at h
      by_cases h2 : kd.toInt = 2 ∨ kd.toInt = 3 ∨ kd.toInt = 4
      · rw [if_pos h2, Bool.and_eq_true] at h
        exact Or.inr (Or.inr ⟨h2.elim (fun q => Or.inl (t 2 2 q rfl)) (fun q => Or.inr (q.elim (fun q => Or.inl (t 3 3 q rfl)) (fun q => Or.inr (t 4 4 q rfl)))), h⟩)
      · rw [if_neg h2] at h
        cases h
theorem quart : ∀ k, k < 36 → ∀ a, a < 4 → (2 : Int32) ≤ nI k / 6 → nI k / 6 - 2 - nI a + 8 - (nI k / 6 - 2 - nI a + 8) / 4 * 4 = nI k / 6 - 2 - nI a + 4 - (nI k / 6 - 2 - nI a + 4) / 4 * 4 ∧ 0 ≤ nI k / 6 - 2 - nI a + 8 - (nI k / 6 - 2 - nI a + 8) / 4 * 4 := by decide +kernel
theorem wound : ∀ k, k < 36 → (nI k / 3 - nI k / 3 / 2 * 2 = 0 ↔ ¬ (3 : Int32) ≤ nI k - nI k / 6 * 6) := by decide +kernel
def refF (kd a b w m q : Int32) : Int64 := if kd = 0 then 1 else if kd = 1 then (if q = 0 then b.toInt64 else if q = 2 then (-b).toInt64 else 0) else if kd = 2 then (if w = 0 then a.toInt64 else b.toInt64) else if kd = 3 then (if w = 0 then (if m = 0 then (a + 1).toInt64 else (a + 0).toInt64) else (if m = 0 then (b + 1).toInt64 else (b + 0).toInt64)) else if kd = 4 then (if m = 1 then (a * (m - 1) + b).toInt64 else (a * (m - 1) + 0).toInt64) else (if q = 0 then b.toInt64 else if q = 2 then (-b).toInt64 else if 0 ≤ q then 1 else 0)
theorem some_if {α : Type} {p : Prop} [Decidable p] {x y : α} : (if p then some x else some y) = some (if p then x else y) := by split <;> rfl
theorem j59_eq {S : gS} (fu : Nat) {j : Nat} (hj : j < 8) (x w m a b q : Int32) : jX11_shown_59 fu S (nI j) x w m a b q = some (refF (iA S 0 (8 + j)) a b w m q) := by
  unfold jX11_shown_59 refF
  rw [gIx_a (a := 8) 8 rfl (by omega) (by decide)]
  simp only [Option.bind_some, some_if]
theorem shown_eq {s : sSt} {S : gS} (h : rSt s (iA S 0)) (fu : Nat) {j : Nat} (hj : j < s.1.2.1) {x : Int32} (hx : wit x 0 35 = true) : fX11_shown fu S (nI j) x = some (shw s.1.1 s.1.2.1 s.1.2.2.1 s.1.2.2.2 (nI j) x).toInt64 := by
  obtain ⟨⟨a1, a2, a3⟩, -⟩ := h
  obtain ⟨e1, e2, e3, hw⟩ := a3 j hj
  rw [shw_lt hj a1 hx]
  unfold fX11_shown
  rw [gIx_a (a := 16) 16 rfl (by omega) (by decide), gIx_a (a := 24) 24 rfl (by omega) (by decide)]
  simp only [Option.bind_some]
  rw [j59_eq fu (by omega), j59_eq fu (by omega), e1, e2, e3, some_if]
  refine congrArg some ?_
  obtain ⟨k, hk, rfl⟩ := wit_st hx
  generalize s.1.2.2.1 j = a at *
  generalize s.1.2.2.2 j = b at *
  generalize s.1.1 j = kd at *
  have hwd := wound k hk
  clear e1 e2 e3 a3 a2 hx
  rcases kd_cases hw with rfl | ⟨hk1, ha, hb⟩ | ⟨hk2, ha, hb⟩
  · split <;> rfl
  · obtain ⟨n, hn, rfl⟩ := wit_nat (m := 3) 3 rfl (by decide) ha
    have hq := quart k hk n (by omega)
    rcases hk1 with rfl | rfl
    · rw [show shF 1 (nI n) b (nI k) = hang (nI k / 6) (nI n) b 0 from rfl, hang]
      by_cases h2 : (2 : Int32) ≤ nI k / 6
      · rw [if_pos h2, if_pos h2, (hq h2).1]
        generalize nI k / 6 - 2 - nI n + 4 - (nI k / 6 - 2 - nI n + 4) / 4 * 4 = q
        show (if q = 0 then b.toInt64 else if q = 2 then (-b).toInt64 else 0) = _
        by_cases q0 : q = 0
        · rw [if_pos q0, if_pos q0]
        · rw [if_neg q0, if_neg q0]
          by_cases q2 : q = 2
          · rw [if_pos q2, if_pos q2]
          · rw [if_neg q2, if_neg q2]; rfl
      · rw [if_neg h2, if_neg h2]
        rfl
    · rw [show shF 5 (nI n) b (nI k) = hang (nI k / 6) (nI n) b 1 from rfl, hang]
      by_cases h2 : (2 : Int32) ≤ nI k / 6
      · have h3 := (hq h2).2
        rw [(hq h2).1] at h3
        rw [if_pos h2, if_pos h2, (hq h2).1]
        generalize nI k / 6 - 2 - nI n + 4 - (nI k / 6 - 2 - nI n + 4) / 4 * 4 = q at *
        show (if q = 0 then b.toInt64 else if q = 2 then (-b).toInt64 else if 0 ≤ q then 1 else 0) = _
        by_cases q0 : q = 0
        · rw [if_pos q0, if_pos q0]
        · rw [if_neg q0, if_neg q0]
          by_cases q2 : q = 2
          · rw [if_pos q2, if_pos q2]
          · rw [if_neg q2, if_neg q2, if_pos h3]; rfl
      · rw [if_neg h2, if_neg h2]
        rfl
  · generalize (nI k / 6 - 2 - a + 8 - (nI k / 6 - 2 - a + 8) / 4 * 4) = q
    generalize hwv : nI k / 3 - nI k / 3 / 2 * 2 = w at *
    generalize hmv : nI k - nI k / 3 * 3 = m at *
    rcases hk2 with rfl | rfl | rfl
    · rw [show shF 2 a b (nI k) = (if 3 ≤ nI k - nI k / 6 * 6 then b else a) from rfl]
      have e : ∀ q, refF 2 a b w m q = if w = 0 then a.toInt64 else b.toInt64 := fun q => rfl
      rw [e, e, ite_self]
      by_cases h3 : (3 : Int32) ≤ nI k - nI k / 6 * 6
      · rw [if_pos h3, if_neg (fun q => hwd.mp q h3)]
      · rw [if_neg h3, if_pos (hwd.mpr h3)]
    · rw [show shF 3 a b (nI k) = (if 3 ≤ nI k - nI k / 6 * 6 then b else a) + (if nI k - nI k / 3 * 3 = 0 then 1 else 0) from rfl, hmv]
      have e : ∀ q, refF 3 a b w m q = (if w = 0 then (if m = 0 then (a + 1).toInt64 else (a + 0).toInt64) else (if m = 0 then (b + 1).toInt64 else (b + 0).toInt64)) := fun q => rfl
      rw [e, e, ite_self]
      by_cases h3 : (3 : Int32) ≤ nI k - nI k / 6 * 6
      · rw [if_pos h3, if_neg (fun q => hwd.mp q h3)]
        by_cases h5 : m = 0
        · rw [if_pos h5, if_pos h5]
        · rw [if_neg h5, if_neg h5]
      · rw [if_neg h3, if_pos (hwd.mpr h3)]
        by_cases h5 : m = 0
        · rw [if_pos h5, if_pos h5]
        · rw [if_neg h5, if_neg h5]
    · rw [show shF 4 a b (nI k) = a * (nI k - nI k / 3 * 3 - 1) + (if nI k - nI k / 3 * 3 = 1 then b else 0) from rfl, hmv]
      have e : ∀ q, refF 4 a b w m q = (if m = 1 then (a * (m - 1) + b).toInt64 else (a * (m - 1) + 0).toInt64) := fun q => rfl
      rw [e, e, ite_self]
      by_cases h5 : m = 1
      · rw [if_pos h5, if_pos h5]
      · rw [if_neg h5, if_neg h5]
theorem p_shows (fu : Nat) : St_shows fu := by
  intro T S c h hc v0 v1
  obtain ⟨h1, h2, h3, h4, h5, h6, h7, h8, h9⟩ := id h
  have h1' := h1
  obtain ⟨⟨a1, a2, a3⟩, -⟩ := h1
  unfold fX10_shows fX11_shows
  rw [has_eq a1, isCause_eq h1', isState_eq]
  simp only [Option.bind_some, obind_eta, fX10_isState]
  cases hp : pin v0 T.1.1.2.1
  · simp only [Bool.false_eq_true, if_false]
    exact ref1 h hc
  · obtain ⟨k, hk, rfl⟩ := pin_ex hp (by omega)
    simp only [if_true]
    cases hw : wit v1 0 35
    · simp only [Bool.false_eq_true, if_false]
      exact ref1 h hc
    · simp only [if_true]
      rw [shown_eq h1' fu hk hw, fX0_shownIn, if_pos a1]
      exact rOk_same h _
theorem hasSpan_eq {s : sSt} {S : gS} (h : rSt s (iA S 0)) (fu : Nat) {k : Nat} (hk : k < 36) : fX11_hasSpan fu S (nI k) = some (s.2.2.2.1 k) := by
  obtain ⟨-, -, -, d⟩ := h
  unfold fX11_hasSpan
  rw [gIx_a (a := 88) 88 rfl (by omega) (by decide), gIx_a (a := 124) 124 rfl (by omega) (by decide), (d k hk).1]
  simp only [Option.bind_some]
  by_cases q : iA S 0 (124 + k) < iA S 0 (88 + k)
  · rw [if_pos q, le_f q]
  · rw [if_neg q, le_t q]
theorem spans_eq {s : sSt} {S : gS} (h : rSt s (iA S 0)) {fu : Nat} (hfu : 40 ≤ fu) : fX11_spans fu S = some (nI (cnt s.2.2.2.1 36)) := by
  have loop : ∀ (j k : Nat), k ≤ 36 → 36 - k < j → lX11_spans_4 fu S j (nI (cnt s.2.2.2.1 k)) (nI k) = some (nI (cnt s.2.2.2.1 36)) := by
    intro j
    induction j with
    | zero => intro k _ hj; exact absurd hj (Nat.not_lt_zero _)
    | succ j ih =>
      intro k hk hj
      rw [lX11_spans_4]
      by_cases e : k = 36
      · subst e
        rw [if_pos (by decide)]
      · rw [if_neg (show ¬ (36 : Int32) ≤ nI k from nI_ge (b := 36) (by omega) (by decide)), hasSpan_eq h fu (by omega)]
        simp only [Option.bind_some]
        have i1 : nI k + 1 = nI (k + 1) := nI_1 k
        cases hb : s.2.2.2.1 k
        · simp only [Bool.false_eq_true, if_false]
          have c0 := cnt_f hb
          have := ih (k + 1) (by omega) (by omega)
          rw [← c0] at this
          rw [i1, show nI (cnt s.2.2.2.1 k) + 0 = nI (cnt s.2.2.2.1 k) from nI_add _ 0]
          exact this
        · simp only [if_true]
          have c0 := cnt_t hb
          have := ih (k + 1) (by omega) (by omega)
          rw [← c0] at this
          rw [i1, nI_1]
          exact this
  exact loop fu 0 (by omega) (by omega)
theorem p_count {fu : Nat} (hfu : 40 ≤ fu) : St_count fu := by
  intro T S c h hc v0
  obtain ⟨h1, h2, h3, h4, h5, h6, h7, h8, h9⟩ := id h
  have h1' := h1
  obtain ⟨⟨a1, a2, a3⟩, ⟨b1, b2, b3⟩, ⟨c1, c2, c3⟩, d⟩ := h1
  obtain ⟨t1, t2, t3⟩ := h7
  obtain ⟨g1, -⟩ := h8
  unfold fX10_count fX11_count
  rw [spans_eq h1' hfu, a2, b2, c2, t2, g1]
  simp only [Option.bind_some, obind_eta, fX0_length, fX3_length, fX7_howMany]
  by_cases e0 : v0 = 0
  · rw [if_pos e0, if_pos e0]; exact rOk_same h _
  rw [if_neg e0, if_neg e0]
  by_cases e1 : v0 = 1
  · rw [if_pos e1, if_pos e1]; exact rOk_same h _
  rw [if_neg e1, if_neg e1]
  by_cases e2 : v0 = 2
  · rw [if_pos e2, if_pos e2]; exact rOk_same h _
  rw [if_neg e2, if_neg e2]
  by_cases e3 : v0 = 3
  · rw [if_pos e3, if_pos e3]; exact rOk_same h _
  rw [if_neg e3, if_neg e3]
  by_cases e4 : v0 = 4
  · rw [if_pos e4, if_pos e4]; exact rOk_same h _
  rw [if_neg e4, if_neg e4]
  by_cases e5 : v0 = 5
  · rw [if_pos e5, if_pos e5]; exact rOk_same h _
  rw [if_neg e5, if_neg e5]
  exact ref1 h hc
