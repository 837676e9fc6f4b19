/-! doubt -/
theorem cmpr_eq {fu : Nat} (hfu : 80 ≤ fu) {a b c d : Int64} (hb : 0 < b.toInt) (hb2 : b.toInt < 2 ^ 35) (hd : 0 < d.toInt) : fX11_compare fu a b c d = some (ordr 100 a b c d) := cmp_eq 35 100 fu a b c d hb hb2 hd (by omega) (by omega)
theorem i64_nz {x : Int64} (h : x ≠ 0) : x.toInt ≠ 0 := fun q => h (Int64.toInt_inj.mp (q.trans rfl))
theorem doubt_loop {fu : Nat} (hfu : 80 ≤ fu) {c m ci : Nat} {t0 : Nat → Int64} {v2 v3 : Bool} (hc : c < 512) (hm : m < 256) (h1 : 1 ≤ popc m) (h4 : popc m ≤ 4) {v1 : Int32} (hpl : szPl m v1 = ci) (hci : ci < popc m) : ∀ (j r : Nat) (fl : Int32) (a u b : Int64) (T : sWB) (S : gS), r ≤ T.1.2.1.1 → T.1.2.1.1 - r < j → rR T S c → m < 2 ^ T.1.1.2.1 → T.2.2.2.2.2.1.2.2.1 = m → T.2.2.2.2.1.2.1 = gTb T.1 t0 T.1.2.1.1 → mtk S m → ((fl = 0 ∧ b = 0) ∨ (fl = 1 ∧ b ≠ 0 ∧ u = b ∧ -(2 : Int) ^ 45 < a.toInt ∧ a.toInt < (2 : Int) ^ 45 ∧ 0 < b.toInt ∧ b.toInt < 2 ^ 35)) → ∀ aa, (fl = 1 → a = aa) → rOk c (lX10_doubt_60 fu v1 v2 v3 j fl a u (nI r) T) (lX11_doubt_55 fu v1 v2 v3 j (nI ci) aa b (nI r) S) := by
  intro j
  induction j with
  | zero => intro r fl a u b T S _ hj; exact absurd hj (Nat.not_lt_zero _)
  | succ j ih =>
    intro r fl a u b T S hr hj h hm2 hcs ht hk hfl aa haa
    obtain ⟨⟨a1, a2, a3⟩, ⟨b1, b2, b3⟩, -⟩ := id h.1
    rw [lX10_doubt_60, lX11_doubt_55, fX3_length, b2]
    simp only [Option.bind_some]
    by_cases e : r = T.1.2.1.1
    · rw [e, if_pos (nI_le (Nat.le_refl _) (by omega)), if_pos (nI_le (Nat.le_refl _) (by omega))]
      rcases hfl with ⟨f1, f2⟩ | ⟨f1, f2, f3, f4, f5, f6, f7⟩
      · rw [if_pos f1, if_pos f2, obind_eta, obind_eta]
        exact ref6 h hc
      · rw [if_neg (show ¬ fl = 0 by rw [f1]; decide), if_neg f2, ← haa f1, part_lows hfu (by omega) f6 f7, f3, fX2_lowest]
        simp only [Option.bind_some]
        exact rOk_same h _
    · rw [if_neg (nI_ge (by omega) (by omega)), if_neg (nI_ge (by omega) (by omega)), fX6_causeSet, hcs]
      simp only [Option.bind_some]
      obtain ⟨p', e1, e2, e3, e4, e5, -⟩ := without_eq (fu := fu) (by omega) a1 b1 h.2.2.2.1 ht hm h1 h4 (show r < T.1.2.1.1 by omega)
      obtain ⟨S', d1, d2, d3, d4, -, d6⟩ := rsol_eq (fu := fu) (by omega) (v1 := nI r) (o := r) h.1 hm hm2 h1 h4 hk (fun r' hr' => nI_eq (by omega) (by omega))
      obtain ⟨-, s1, s2, s3, -⟩ := sol_bd h.1 hm h1 h4 r
      rw [e1, d1]
      simp only [Option.bind_some, nI_1]
      have hn := rR_scr (rR_pd h e2) d2
      have nx : ∀ (fl : Int32) (a u b aa : Int64), ((fl = 0 ∧ b = 0) ∨ (fl = 1 ∧ b ≠ 0 ∧ u = b ∧ -(2 : Int) ^ 45 < a.toInt ∧ a.toInt < (2 : Int) ^ 45 ∧ 0 < b.toInt ∧ b.toInt < 2 ^ 35)) → (fl = 1 → a = aa) → rOk c (lX10_doubt_60 fu v1 v2 v3 j fl a u (nI (r + 1)) (st_X10_4 T p')) (lX11_doubt_55 fu v1 v2 v3 j (nI ci) aa b (nI (r + 1)) S') := fun fl a u b aa q1 q2 => ih (r + 1) fl a u b (st_X10_4 T p') S' (by show r + 1 ≤ T.1.2.1.1; omega) (by show T.1.2.1.1 - (r + 1) < j; omega) hn hm2 hcs e3 d3 q1 aa q2
      by_cases z : qn (As T.1 r m) (popc m) = 0
      · simp only [z, decide_true, Bool.not_true, Bool.false_eq_true, if_false]
        exact nx fl a u b aa hfl haa
      · simp only [z, decide_false, Bool.not_false, if_true]
        have zp := i64_nz z
        have hpl' : fX6_placeOf (st_X10_4 T p').2.2.2.2.2.1 v1 = some (nI ci) := by
          show (if T.2.2.2.2.2.1.2.2.1 < 256 then some (nI (szPl T.2.2.2.2.2.1.2.2.1 v1)) else none) = _
          rw [hcs, if_pos hm, hpl]
        have hab : fX4_above (st_X10_4 T p').2.2.2.2.1 (nI ci) = some (qA (As T.1 r m) (popc m) ci) := e5 ci hci
        have hbl : fX4_below (st_X10_4 T p').2.2.2.2.1 = some (qn (As T.1 r m) (popc m)) := e4
        rw [hpl']
        simp only [Option.bind_some]
        rw [hab, hbl]
        simp only [Option.bind_some, fX2_order]
        obtain ⟨t1, t2⟩ := s3 ci hci
        have tk : rOk c (lX10_doubt_60 fu v1 v2 v3 j 1 (qA (As T.1 r m) (popc m) ci) (qn (As T.1 r m) (popc m)) (nI (r + 1)) (st_X10_4 T p')) (lX11_doubt_55 fu v1 v2 v3 j (nI ci) (lA S' 24 ci) (lF S' 25) (nI (r + 1)) S') := nx 1 _ _ _ _ (Or.inr ⟨rfl, by rw [d4]; exact z, d4.symm, t1, t2, by rw [d4]; omega, by rw [d4]; exact s2⟩) (fun _ => (d6 z ci hci).symm)
        unfold jX11_doubt_107
        rw [gIx_n (show ci < 4 by omega) (by decide)]
        simp only [Option.bind_some, nI_1]
        rcases hfl with ⟨f1, f2⟩ | ⟨f1, f2, f3, f4, f5, f6, f7⟩
        · rw [if_pos f1, if_pos f2, if_pos f2]
          exact tk
        · rw [if_neg (show ¬ fl = 0 by rw [f1]; decide), if_neg f2, d6 z ci hci, d4, cmpr_eq hfu (by omega) s2 f6, ← haa f1, f3]
          simp only [Option.bind_some]
          rw [if_neg f2]
          rw [d6 z ci hci, d4] at tk
          have kp : rOk c (lX10_doubt_60 fu v1 v2 v3 j 1 a b (nI (r + 1)) (st_X10_4 T p')) (lX11_doubt_55 fu v1 v2 v3 j (nI ci) a b (nI (r + 1)) S') := nx 1 a b b a (Or.inr ⟨rfl, f2, rfl, f4, f5, f6, f7⟩) (fun _ => rfl)
          cases v2
          · simp only [Bool.false_eq_true, if_false]
            by_cases w : 0 ≤ ordr 100 (qA (As T.1 r m) (popc m) ci) (qn (As T.1 r m) (popc m)) a b
            · rw [if_pos w, if_pos w]
              exact kp
            · rw [if_neg w, if_neg w]
              exact tk
          · simp only [if_true]
            by_cases w : ordr 100 (qA (As T.1 r m) (popc m) ci) (qn (As T.1 r m) (popc m)) a b ≤ 0
            · rw [if_pos w, if_pos w]
              exact kp
            · rw [if_neg w, if_neg w]
              exact tk
theorem p_doubt {fu : Nat} (hfu : 80 ≤ fu) : St_doubt fu := by
  intro T S c h hc v0 v1 v2
  unfold fX10_doubt fX11_doubt
  rcases why_cases h fu with ⟨e1, e2⟩ | ⟨e1, e2⟩ | ⟨e1, e2, hcs, hf⟩
  · rw [e1, e2]
    simp only [Option.bind_some, obind_eta]
    rw [if_neg (by decide), if_neg (by decide), jX10_doubt_25, if_neg (by decide), obind_eta]
    exact ref2 h hc
  · rw [e1, e2]
    simp only [Option.bind_some, obind_eta]
    rw [if_neg (by decide), if_neg (by decide), jX10_doubt_25, if_neg (by decide), obind_eta]
    exact ref7 h hc
  · rw [e1, e2, placeOf_eq (by omega) hcs hf]
    simp only [Option.bind_some, if_true]
    rw [fX6_has, if_pos hcs]
    simp only [Option.bind_some]
    obtain ⟨⟨a1, a2, a3⟩, ⟨b1, b2, b3⟩, -⟩ := id h.1
    obtain ⟨g0, -, -, -, -, g5, g6, g7, -⟩ := hf
    cases hh : szHas T.2.2.2.2.2.1.2.2.1 v0
    · simp only [Bool.false_eq_true, if_false]
      rw [jX10_doubt_25, if_neg (by decide), if_neg (by decide), obind_eta, obind_eta]
      exact ref1 h hc
    · simp only [if_true]
      obtain ⟨k, hk8, rfl⟩ := szHas_ex hh
      rw [szHas_lt hk8] at hh
      have hn := nth_pl _ hcs k hk8 hh
      rw [jX10_doubt_25, if_pos rfl, if_pos (nI_pos' (by omega))]
      obtain ⟨row, e3⟩ := gather_eq (fu := fu) (by omega) a1 b1 T.2.2.2.2.1
      obtain ⟨S', d1, d2, d3⟩ := take_eq (fu := fu) (by omega) hcs g6 S
      rw [g0, e3, d1]
      simp only [Option.bind_some]
      have := doubt_loop hfu (v2 := v1) (v3 := v2) hc hcs g5 g6 (v1 := nI k) rfl hn.1 (t0 := T.2.2.2.2.1.2.1) fu 0 0 0 1 0 (st_X10_4 T (row, gTb T.1 T.2.2.2.2.1.2.1 T.1.2.1.1, T.2.2.2.2.1.2.2)) S' (Nat.zero_le _) (by show T.1.2.1.1 - 0 < fu; omega) (rR_scr (rR_pd h h.2.2.2.1) d2) g7 rfl rfl d3 (Or.inl ⟨rfl, rfl⟩) 0 (fun q => rfl)
      rw [nI_0] at this
      exact this
