/-! What needs sizes: model, sum, size. -/
theorem why_cases {T : sWB} {S : gS} {c : Nat} (h : rR T S c) (fu : Nat) : (fX10_whyNoSizes fu T = some 2 ∧ fX11_notFound fu S = some (-9000000000000000002)) ∨ (fX10_whyNoSizes fu T = some 7 ∧ fX11_notFound fu S = some (-9000000000000000007)) ∨ (fX10_whyNoSizes fu T = some 0 ∧ fX11_notFound fu S = some 0 ∧ T.2.2.2.2.2.1.2.2.1 < 256 ∧ fresh T.1 T.2.2.2.2.2.1 (iF S 14) (iF S 15) (iA S 16) (lA S 17) (lF S 18) (lF S 19)) := by
  obtain ⟨h1, h2, h3, h4, ⟨f1, f2, f3, f4⟩, -⟩ := h
  unfold fX10_whyNoSizes fX11_notFound
  rw [f1, f2]
  simp only [Option.bind_some, fX6_areFound, fX6_areStale]
  cases ha : T.2.2.2.2.2.1.1
  · exact Or.inl ⟨rfl, rfl⟩
  · cases hb : T.2.2.2.2.2.1.2.1
    · exact Or.inr (Or.inr ⟨rfl, rfl, f3, f4 ha hb⟩)
    · exact Or.inr (Or.inl ⟨rfl, rfl⟩)
theorem p_model (fu : Nat) : St_model fu := by
  intro T S c h hc
  unfold fX10_model fX11_model
  rcases why_cases h fu with ⟨e1, e2⟩ | ⟨e1, e2⟩ | ⟨e1, e2, hcs, hf⟩
  · rw [e1, e2]
    simp only [Option.bind_some, obind_eta]
    rw [if_neg (by decide), if_neg (by decide)]
    exact ref2 h hc
  · rw [e1, e2]
    simp only [Option.bind_some, obind_eta]
    rw [if_neg (by decide), if_neg (by decide)]
    exact ref7 h hc
  · rw [e1, e2]
    simp only [Option.bind_some, if_true, fX6_causeSet]
    rw [hf.1]
    exact rOk_same h _
theorem p_sum {fu : Nat} (hfu : 80 ≤ fu) : St_sum fu := by
  intro T S c h hc v0
  unfold fX10_sum fX11_sum
  rcases why_cases h fu with ⟨e1, e2⟩ | ⟨e1, e2⟩ | ⟨e1, e2, hcs, hf⟩
  · rw [e1, e2]
    simp only [Option.bind_some, obind_eta]
    rw [if_neg (by decide), if_neg (by decide)]
    exact ref2 h hc
  · rw [e1, e2]
    simp only [Option.bind_some, obind_eta]
    rw [if_neg (by decide), if_neg (by decide)]
    exact ref7 h hc
  · rw [e1, e2]
    obtain ⟨-, -, -, g1, g2, -, -, -, g3, g4, -, g5, -⟩ := hf
    simp only [Option.bind_some, if_true, fX6_squares, fX6_below, fX2_lowest]
    rw [g1, g2, part_lows hfu (by omega) g3 g4]
    exact rOk_same h _
def plF (F : Nat → Int32) (v : Int32) : Nat → Nat → Int32 → Int32
  | 0, _, p => p
  | m + 1, i, p => plF F v m (i + 1) (if F i = v then nI i else p)
theorem plF_ext {F G : Nat → Int32} (v : Int32) : ∀ (m i : Nat) (p : Int32), (∀ t, i ≤ t → t < i + m → F t = G t) → plF F v m i p = plF G v m i p
  | 0, _, _, _ => rfl
  | m + 1, i, p, h => by
    rw [plF, plF, h i (Nat.le_refl _) (by omega)]
    exact plF_ext v m (i + 1) _ (fun t h1 h2 => h t (by omega) (by omega))
theorem plF_no {F : Nat → Int32} {v : Int32} : ∀ (m i : Nat) (p : Int32), (∀ t, F t ≠ v) → plF F v m i p = p
  | 0, _, _, _ => rfl
  | m + 1, i, p, h => by
    rw [plF, if_neg (h i)]
    exact plF_no m (i + 1) p h
theorem nthB_lt : ∀ (n cs i : Nat), nthB n cs i < 8
  | 0, _, _ => Nat.zero_lt_succ 7
  | n + 1, cs, i => by
    unfold nthB
    split
    · split
      · omega
      · exact nthB_lt n cs (i - 1)
    · exact nthB_lt n cs i
set_option maxRecDepth 100000 in
theorem plF_dec : ∀ cs, cs < 256 → ∀ c, c < 8 → popc cs ≤ 4 → plF (fun i => nI (nthB 8 cs i)) (nI c) (popc cs) 0 (-1) = if szHas cs (nI c) = true then nI (szPl cs (nI c)) else -1 := by decide +kernel
set_option maxRecDepth 100000 in
theorem nth_pl : ∀ cs, cs < 256 → ∀ c, c < 8 → cs.testBit c = true → szPl cs (nI c) < popc cs ∧ nthB 8 cs (szPl cs (nI c)) = c := by decide +kernel
theorem plF_val {cs : Nat} (h : cs < 256) (hp : popc cs ≤ 4) (v : Int32) : plF (fun i => nI (nthB 8 cs i)) v (popc cs) 0 (-1) = if szHas cs v = true then nI (szPl cs v) else -1 := by
  by_cases h1 : v < 0
  · rw [plF_no _ _ _ (fun t q => by rw [← q] at h1; exact nI_pos (by have := nthB_lt 8 cs t; omega) h1), szHas, if_pos h1, if_neg (by decide)]
  · by_cases h2 : (8 : Int32) ≤ v
    · rw [plF_no _ _ _ (fun t q => by rw [← q] at h2; exact nI_ge (b := 8) (nthB_lt 8 cs t) (by decide) h2), szHas, if_neg h1, if_pos h2, if_neg (by decide)]
    · obtain ⟨c, hc, rfl⟩ := ix8 h1 h2
      exact plF_dec cs h c hc hp
theorem placeOf_loop {fu : Nat} {S : gS} {n : Nat} (hn : n ≤ 4) (h15 : iF S 15 = nI n) (v : Int32) : ∀ (j i : Nat) (p : Int32), i ≤ n → n - i < j → lX11_placeOf_4 fu S v j p (nI i) = some (plF (iA S 16) v (n - i) i p) := by
  intro j
  induction j with
  | zero => intro i p _ hj; exact absurd hj (Nat.not_lt_zero _)
  | succ j ih =>
    intro i p hi hj
    rw [lX11_placeOf_4, h15]
    by_cases e : i = n
    · subst e
      rw [if_pos (nI_le (Nat.le_refl _) (by omega)), Nat.sub_self]
      rfl
    · rw [if_neg (nI_ge (by omega) (by omega)), gIx_n (by omega) (by decide)]
      simp only [Option.bind_some]
      rw [nI_1, show n - i = (n - (i + 1)) + 1 by omega, plF]
      by_cases q : iA S 16 i = v
      · rw [if_pos q, if_pos q]
        exact ih (i + 1) _ (by omega) (by omega)
      · rw [if_neg q, if_neg q]
        exact ih (i + 1) _ (by omega) (by omega)
theorem placeOf_eq {fu : Nat} (hfu : 10 ≤ fu) {s : sSt} {z : sSz} {S : gS} (hcs : z.2.2.1 < 256) (hf : fresh s z (iF S 14) (iF S 15) (iA S 16) (lA S 17) (lF S 18) (lF S 19)) (v : Int32) : fX11_placeOf fu S v = some (if szHas z.2.2.1 v = true then nI (szPl z.2.2.1 v) else -1) := by
  obtain ⟨g0, g1, g2, -, -, g5, g6, -⟩ := hf
  unfold fX11_placeOf
  have := placeOf_loop (fu := fu) g6 g1 v fu 0 (-1) (by omega) (by omega)
  rw [nI_0] at this
  rw [this, Nat.sub_zero, plF_ext v _ 0 _ (fun t _ ht => (g2 t (by omega)).1), plF_val hcs g6]
theorem p_size {fu : Nat} (hfu : 80 ≤ fu) : St_size fu := by
  intro T S c h hc v0 v1
  unfold fX10_size fX11_size jX10_size_22
  rcases why_cases h fu with ⟨e1, e2⟩ | ⟨e1, e2⟩ | ⟨e1, e2, hcs, hf⟩
  · rw [e1, e2]
    simp only [Option.bind_some, obind_eta]
    rw [if_neg (by decide), if_neg (by decide)]
    exact ref2 h hc
  · rw [e1, e2]
    simp only [Option.bind_some, obind_eta]
    rw [if_neg (by decide), if_neg (by decide)]
    exact ref7 h hc
  · rw [e1, e2, placeOf_eq (by omega) hcs hf]
    obtain ⟨-, -, g0, g1, g2, g5, g6, -, g3, g4, g7, -⟩ := hf
    have hh : fX6_has T.2.2.2.2.2.1 v0 = some (szHas T.2.2.2.2.2.1.2.2.1 v0) := if_pos hcs
    rw [hh]
    simp only [Option.bind_some, if_true, obind_eta, fX6_below, fX2_lowest]
    cases hs : szHas T.2.2.2.2.2.1.2.2.1 v0
    · simp only [Bool.false_eq_true, if_false]
      rw [if_neg (by decide), if_neg (by decide)]
      exact ref1 h hc
    · simp only [if_true]
      obtain ⟨j, hj, rfl⟩ := szHas_ex hs
      have hb : T.2.2.2.2.2.1.2.2.1.testBit j = true := by rw [← szHas_lt hj]; exact hs
      obtain ⟨p1, p2⟩ := nth_pl _ hcs j hj hb
      have ha : fX6_above T.2.2.2.2.2.1 (nI j) = some (T.2.2.2.2.2.1.2.2.2.1 j) := by rw [fX6_above, if_pos hcs, szAb_lt hj hs]
      rw [ha, if_pos (nI_pos' (by omega)), gIx_n (by omega) (by decide)]
      simp only [Option.bind_some]
      obtain ⟨r1, r2⟩ := g0 _ p1
      rw [r2, p2, g1, part_lows hfu (by have := (g7 j hj).1; omega) g3 g4]
      exact rOk_same h _
