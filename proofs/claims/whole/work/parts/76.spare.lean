/-! spare -/
theorem rR_pd {T : sWB} {S : gS} {c : Nat} (h : rR T S c) {p : sPd} (hp : rPd p) : rR (st_X10_4 T p) S c := by
  obtain ⟨h1, h2, h3, h4, h5, h6, h7, h8, h9⟩ := h
  exact ⟨h1, h2, h3, hp, h5, h6, h7, h8, h9⟩
theorem spare_loop {fu : Nat} (hfu : 30 ≤ fu) {c m : Nat} {t0 : Nat → Int64} (hm : m < 256) (h1 : 1 ≤ popc m) (h4 : popc m ≤ 4) : ∀ (j r : Nat) (v : Int32) (T : sWB) (S : gS), r ≤ T.1.2.1.1 → T.1.2.1.1 - r < j → rR T S c → m < 2 ^ T.1.1.2.1 → T.2.2.2.2.2.1.2.2.1 = m → T.2.2.2.2.1.2.1 = gTb T.1 t0 T.1.2.1.1 → mtk S m → ∃ (w : Int64) (T' : sWB) (S' : gS), lX10_spare_30 fu j v (nI r) T = some (w, T') ∧ lX11_spare_30 fu j v (nI r) S = some (w, S') ∧ rR T' S' c := by
  intro j
  induction j with
  | zero => intro r v T S _ hj; exact absurd hj (Nat.not_lt_zero _)
  | succ j ih =>
    intro r v T S hr hj h hm2 hcs ht hk
    obtain ⟨⟨a1, a2, a3⟩, ⟨b1, b2, b3⟩, -⟩ := id h.1
    rw [lX10_spare_30, lX11_spare_30, fX3_length, b2]
    simp only [Option.bind_some]
    by_cases e : r = T.1.2.1.1
    · rw [e, if_pos (nI_le (Nat.le_refl _) (by omega)), if_pos (nI_le (Nat.le_refl _) (by omega))]
      exact ⟨_, _, _, rfl, rfl, h⟩
    · rw [if_neg (nI_ge (by omega) (by omega)), if_neg (nI_ge (by omega) (by omega)), fX6_causeSet, hcs]
      simp only [Option.bind_some]
      obtain ⟨p', e1, e2, e3, -⟩ := without_eq hfu a1 b1 h.2.2.2.1 ht hm h1 h4 (show r < T.1.2.1.1 by omega)
      obtain ⟨S', d1, d2, d3, -⟩ := rsol_eq hfu (v1 := nI r) (o := r) h.1 hm hm2 h1 h4 hk (fun r' hr' => nI_eq (by omega) (by omega))
      rw [e1, d1]
      simp only [Option.bind_some, nI_1]
      have hn := rR_scr (rR_pd h e2) d2
      by_cases z : qn (As T.1 r m) (popc m) = 0
      · simp only [z, decide_true, Bool.not_true, Bool.false_eq_true, if_false]
        rw [Int32.add_zero]
        exact ih (r + 1) v (st_X10_4 T p') S' (by show r + 1 ≤ T.1.2.1.1; omega) (by show T.1.2.1.1 - (r + 1) < j; omega) hn hm2 hcs e3 d3
      · simp only [z, decide_false, Bool.not_false, if_true]
        exact ih (r + 1) (v + 1) (st_X10_4 T p') S' (by show r + 1 ≤ T.1.2.1.1; omega) (by show T.1.2.1.1 - (r + 1) < j; omega) hn hm2 hcs e3 d3
theorem p_spare {fu : Nat} (hfu : 80 ≤ fu) : St_spare fu := by
  intro T S c h hc
  unfold fX10_spare fX11_spare
  rcases why_cases h fu with ⟨e1, e2⟩ | ⟨e1, e2⟩ | ⟨e1, e2, hcs, hf⟩
  · rw [e1, e2]
    simp only [Option.bind_some, obind_eta]
    rw [if_neg (by decide), if_neg (by decide)]
    exact ref2 h hc
  · rw [e1, e2]
    simp only [Option.bind_some, obind_eta]
    rw [if_neg (by decide), if_neg (by decide)]
    exact ref7 h hc
  · rw [e1, e2]
    simp only [Option.bind_some, if_true]
    obtain ⟨⟨a1, a2, a3⟩, ⟨b1, b2, b3⟩, -⟩ := id h.1
    obtain ⟨g0, -, -, -, -, g5, g6, g7, -⟩ := hf
    obtain ⟨row, e3⟩ := gather_eq (fu := fu) (by omega) a1 b1 T.2.2.2.2.1
    obtain ⟨S', d1, d2, d3⟩ := take_eq (fu := fu) (by omega) hcs g6 S
    rw [g0, e3, d1]
    simp only [Option.bind_some]
    obtain ⟨w, T', S2, x1, x2, x3⟩ := spare_loop (fu := fu) (by omega) hcs g5 g6 (t0 := T.2.2.2.2.1.2.1) fu 0 0 (st_X10_4 T (row, gTb T.1 T.2.2.2.2.1.2.1 T.1.2.1.1, T.2.2.2.2.1.2.2)) S' (Nat.zero_le _) (by show T.1.2.1.1 - 0 < fu; omega) (rR_scr (rR_pd h h.2.2.2.1) d2) g7 rfl rfl d3
    rw [nI_0] at x1 x2
    exact ⟨w, T', S2, x1, x2, rR_mono x3⟩
