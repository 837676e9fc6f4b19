/-! worst, behind -/
def wstF (V : Nat → Int64) (th : Nat → Bool) : Nat → Int64
  | 0 => 0
  | k + 1 => if th k = true then (if wstF V th k < (if 0 ≤ V k then V k else -V k) then (if 0 ≤ V k then V k else -V k) else wstF V th k) else wstF V th k
theorem i64_nle {a b : Int64} : ¬ a ≤ b ↔ b < a := by rw [i64_le, i64_lt]; omega
theorem ww_loop {s : sSt} {S : gS} (h : rSt s (iA S 0)) {fu : Nat} (v1 v2 v3 v4 : Int32) (V : Nat → Int64) (hV : ∀ k, k < 36 → s.2.2.2.1 k = true → ∃ a b c : Int64, fX11_foretoldAt fu S (nI k) = some a ∧ fX11_mended fu S v1 v2 (nI k) = some b ∧ fX11_mended fu S v3 v4 (nI k) = some c ∧ a + (b + c) * lF S 18 = V k) : ∀ (j k : Nat), k ≤ 36 → 36 - k < j → lX11_worstWith_6 fu S v1 v2 v3 v4 j (wstF V s.2.2.2.1 k) (nI k) = some (wstF V s.2.2.2.1 36) := by
  intro j
  induction j with
  | zero => intro k _ hj; exact absurd hj (Nat.not_lt_zero _)
  | succ j ih =>
    intro k hk hj
    rw [lX11_worstWith_6]
    by_cases e : k = 36
    · subst e
      rw [if_pos (by decide)]
    · have hn : ¬ (36 : Int32) ≤ nI k := nI_ge (b := 36) (by omega) (by decide)
      rw [if_neg hn, hasSpan_eq h fu (by omega), nI_1]
      simp only [Option.bind_some]
      have ih2 := ih (k + 1) (by omega) (by omega)
      have ew : wstF V s.2.2.2.1 (k + 1) = if s.2.2.2.1 k = true then (if wstF V s.2.2.2.1 k < (if 0 ≤ V k then V k else -V k) then (if 0 ≤ V k then V k else -V k) else wstF V s.2.2.2.1 k) else wstF V s.2.2.2.1 k := rfl
      rw [ew] at ih2
      cases hb : s.2.2.2.1 k
      · rw [hb] at ih2
        exact ih2
      · obtain ⟨a, b, c, q1, q2, q3, q4⟩ := hV k (by omega) hb
        rw [hb, if_pos rfl] at ih2
        rw [if_pos rfl, q1, q2, q3]
        simp only [Option.bind_some, q4]
        unfold jX11_worstWith_72
        by_cases p : (0 : Int64) ≤ V k
        · rw [if_pos p]
          rw [if_pos p] at ih2
          by_cases l : V k ≤ wstF V s.2.2.2.1 k
          · rw [if_pos l]
            rw [if_neg (fun q => absurd l (i64_nle.mpr q))] at ih2
            rw [nI_1]
            exact ih2
          · rw [if_neg l]
            rw [if_pos (i64_nle.mp l)] at ih2
            rw [nI_1]
            exact ih2
        · rw [if_neg p]
          rw [if_neg p] at ih2
          by_cases l : -V k ≤ wstF V s.2.2.2.1 k
          · rw [if_pos l]
            rw [if_neg (fun q => absurd l (i64_nle.mpr q))] at ih2
            rw [nI_1]
            exact ih2
          · rw [if_neg l]
            rw [if_pos (i64_nle.mp l)] at ih2
            rw [nI_1]
            exact ih2
theorem ww_eq {s : sSt} {S : gS} (h : rSt s (iA S 0)) {fu : Nat} (hfu : 40 ≤ fu) (v1 v2 v3 v4 : Int32) (V : Nat → Int64) (hV : ∀ k, k < 36 → s.2.2.2.1 k = true → ∃ a b c : Int64, fX11_foretoldAt fu S (nI k) = some a ∧ fX11_mended fu S v1 v2 (nI k) = some b ∧ fX11_mended fu S v3 v4 (nI k) = some c ∧ a + (b + c) * lF S 18 = V k) : fX11_worstWith fu S v1 v2 v3 v4 = some (wstF V s.2.2.2.1 36) := ww_loop h v1 v2 v3 v4 V hV fu 0 (by omega) (by omega)
theorem mended_no (fu : Nat) (S : gS) (t x : Int32) : fX11_mended fu S (-1) t x = some 0 := by
  unfold fX11_mended
  rw [if_pos (by decide)]
theorem add00 (a l : Int64) : a + (0 + 0) * l = a := by simp
theorem bd_abs {x : Int64} {B : Int} (h : bd x B) (hB : B < 2 ^ 63) : bd (if 0 ≤ x then x else -x) B := by
  obtain ⟨h1, h2⟩ := h
  by_cases q : (0 : Int64) ≤ x
  · rw [if_pos q]
    exact ⟨h1, h2⟩
  · rw [if_neg q]
    unfold bd
    rw [Int64.toInt_neg, bmod64 (by omega) (by omega)]
    omega
theorem wst_bd {V : Nat → Int64} {th : Nat → Bool} {B : Int} (h0 : 0 ≤ B) (hB : B < 2 ^ 63) : ∀ n, (∀ k, k < n → th k = true → bd (V k) B) → bd (wstF V th n) B
  | 0, _ => bd_0 h0
  | n + 1, h => by
    have ih := wst_bd h0 hB n (fun k hk => h k (by omega))
    rw [wstF]
    by_cases q : th n = true
    · rw [if_pos q]
      by_cases l : wstF V th n < (if 0 ≤ V n then V n else -V n)
      · rw [if_pos l]
        exact bd_abs (h n (by omega) q) hB
      · rw [if_neg l]
        exact ih
    · rw [if_neg q]
      exact ih
theorem cworst_loop {T : sWB} {f : Nat → Int32} {fu : Nat} (v : Bool) (hs : rSt T.1 f) (hcs : T.2.2.2.2.2.1.2.2.1 < 256) (V : Nat → Int64) (hV : ∀ k, abIn T.2.2.2.2.2.1.2.2.1 T.2.2.2.2.2.1.2.2.2.1 T.1.1.1 T.1.1.2.1 T.1.1.2.2.1 T.1.1.2.2.2 (nI k) 8 = V k) : ∀ (j k : Nat), k ≤ 36 → 36 - k < j → lX10_worst_20 fu v j (wstF V T.1.2.2.2.1 k) (nI k) T = some (lows (wstF V T.1.2.2.2.1 36) T.2.2.2.2.2.1.2.2.2.2.1 v, T) := by
  intro j
  induction j with
  | zero => intro k _ hj; exact absurd hj (Nat.not_lt_zero _)
  | succ j ih =>
    intro k hk hj
    rw [lX10_worst_20]
    by_cases e : k = 36
    · subst e
      rw [if_pos (by decide)]
      rfl
    · have hn : ¬ (36 : Int32) ≤ nI k := nI_ge (b := 36) (by omega) (by decide)
      have ih2 := ih (k + 1) (by omega) (by omega)
      have ha : fX6_aboveIn T.2.2.2.2.2.1 T.1.1 (nI k) = some (V k) := (if_pos ⟨hcs, hs.1.1⟩ : fX6_aboveIn T.2.2.2.2.2.1 T.1.1 (nI k) = _).trans (congrArg some (hV k))
      rw [if_neg hn, ha, nI_1]
      simp only [Option.bind_some, fX7_has, fJ9_abs_067f4, fJ9_max_f86c9]
      rw [spHas_lt (by omega)]
      have ew : wstF V T.1.2.2.2.1 (k + 1) = if T.1.2.2.2.1 k = true then (if wstF V T.1.2.2.2.1 k < (if 0 ≤ V k then V k else -V k) then (if 0 ≤ V k then V k else -V k) else wstF V T.1.2.2.2.1 k) else wstF V T.1.2.2.2.1 k := rfl
      rw [ew] at ih2
      cases hb : T.1.2.2.2.1 k
      · rw [hb] at ih2
        exact ih2
      · rw [hb, if_pos rfl] at ih2
        rw [if_pos rfl]
        exact ih2
theorem p_worst {fu : Nat} (hfu : 80 ≤ fu) : St_worst fu := by
  intro T S c h hc v0
  unfold fX10_worst fX11_worst
  rcases noPaper_cases h (fu := fu) (by omega) with ⟨e1, e2⟩ | ⟨e1, e2⟩ | ⟨e1, e2⟩ | ⟨e1, e2, hcs, hf, hn⟩
  · rw [e1, e2]
    simp only [Option.bind_some, obind_eta]
    rw [if_neg (by decide), if_neg (by decide)]
    exact ref2 h hc
  · rw [e1, e2]
    simp only [Option.bind_some, obind_eta]
    rw [if_neg (by decide), if_neg (by decide)]
    exact ref7 h hc
  · rw [e1, e2]
    simp only [Option.bind_some, obind_eta]
    rw [if_neg (by decide), if_neg (by decide)]
    exact ref6 h hc
  · rw [e1, e2]
    simp only [Option.bind_some, if_true]
    have h1 := h.1
    obtain ⟨b1, b2, b3, b4⟩ := fresh_bd hf
    have p1 := cworst_loop (fu := fu) v0 h1 hcs (fun k => abIn T.2.2.2.2.2.1.2.2.1 T.2.2.2.2.2.1.2.2.2.1 T.1.1.1 T.1.1.2.1 T.1.1.2.2.1 T.1.1.2.2.2 (nI k) 8) (fun k => rfl) fu 0 (by omega) (by omega)
    have p2 := ww_eq h1 (fu := fu) (by omega) (-1) 0 (-1) 0 (fun k => abIn T.2.2.2.2.2.1.2.2.1 T.2.2.2.2.2.1.2.2.2.1 T.1.1.1 T.1.1.2.1 T.1.1.2.2.1 T.1.1.2.2.2 (nI k) 8) (fun k hk _ => ⟨_, 0, 0, fore_eq (by omega) h1 hcs hf (st_ok hk), mended_no _ _ _ _, mended_no _ _ _ _, add00 _ _⟩)
    rw [nI_0] at p1
    have e0 : wstF (fun k => abIn T.2.2.2.2.2.1.2.2.1 T.2.2.2.2.2.1.2.2.2.1 T.1.1.1 T.1.1.2.1 T.1.1.2.2.1 T.1.1.2.2.2 (nI k) 8) T.1.2.2.2.1 0 = 0 := rfl
    rw [e0] at p1
    rw [p1, p2]
    simp only [Option.bind_some]
    have hb := wst_bd (V := fun k => abIn T.2.2.2.2.2.1.2.2.1 T.2.2.2.2.2.1.2.2.2.1 T.1.1.1 T.1.1.2.1 T.1.1.2.2.1 T.1.1.2.2.2 (nI k) 8) (th := T.1.2.2.2.1) (B := 2 ^ 50) (by decide) (by decide) 36 (fun k _ _ => abIn_bd8 h1 b1 (nI k))
    rw [hf.2.2.2.1, part_lows hfu (bd_min hb (by decide)) b3 b4]
    exact rOk_same h _
theorem mended_eq {fu : Nat} (hfu : 10 ≤ fu) {s : sSt} {z : sSz} {S : gS} (hs : rSt s (iA S 0)) (hcs : z.2.2.1 < 256) (hf : fresh s z (iF S 14) (iF S 15) (iA S 16) (lA S 17) (lF S 18) (lF S 19)) {i : Nat} (hi : i < s.2.2.1.1) (t : Int32) {x : Int32} (hx : wit x 0 35 = true) : fX11_mended fu S (nI i) t x = some (if szHas z.2.2.1 (s.2.2.1.2.1 i) = true then (shw s.1.1 s.1.2.1 s.1.2.2.1 s.1.2.2.2 (s.2.2.1.2.1 i) x).toInt64 * (s.2.2.1.2.2 i).toInt64 * t.toInt64 else 0) := by
  obtain ⟨⟨a1, -, -⟩, -, ⟨c1, c2, c3⟩, -⟩ := id hs
  obtain ⟨q1, q2, q3, q4⟩ := c3 i hi
  unfold fX11_mended
  rw [if_neg (nI_pos (by omega)), gIx_a (a := 72) 72 rfl (by omega) (by decide), gIx_a (a := 80) 80 rfl (by omega) (by decide)]
  simp only [Option.bind_some]
  rw [q1, q2, placeOf_eq hfu hcs hf]
  simp only [Option.bind_some]
  obtain ⟨j, hj, e⟩ := pin_ex q3 (by omega)
  by_cases hb : szHas z.2.2.1 (s.2.2.1.2.1 i) = true
  · rw [if_pos hb, if_pos hb]
    have hlt : szPl z.2.2.1 (s.2.2.1.2.1 i) < 8 := by
      rw [e] at hb ⊢
      have hb2 : z.2.2.1.testBit j = true := by rw [← szHas_lt (show j < 8 by omega)]; exact hb
      have := (nth_pl _ hcs j (by omega) hb2).1
      have := hf.2.2.2.2.2.2.1
      omega
    rw [if_pos (nI_pos' (by omega)), e, shown_eq hs fu hj hx]
    rfl
  · rw [if_neg hb, if_neg hb, if_neg (by decide)]
