/-! few -/
set_option maxRecDepth 100000 in
theorem bits_d : ∀ m, m < 256 → ∀ c, c < 32 → nI (plN m c) + ((((nI m).toUInt32 >>> ((nI c).toUInt32 &&& Int32.toUInt32 31)).toInt32) &&& (1 : Int32)) = nI (plN m (c + 1)) := by decide +kernel
set_option maxRecDepth 100000 in
theorem plN_32 : ∀ m, m < 256 → plN m 32 = popc m := by decide +kernel
theorem bits_loop {fu m : Nat} (hm : m < 256) : ∀ (j c : Nat), c ≤ 32 → 32 - c < j → lX11_bits_4 fu (nI m) j (nI (plN m c)) (nI c) = some (nI (popc m)) := by
  intro j
  induction j with
  | zero => intro c _ hj; exact absurd hj (Nat.not_lt_zero _)
  | succ j ih =>
    intro c hc hj
    rw [lX11_bits_4]
    by_cases e : c = 32
    · subst e
      rw [if_pos (show (32 : Int32) ≤ nI 32 by decide +kernel), plN_32 m hm]
    · rw [if_neg (show ¬ (32 : Int32) ≤ nI c from nI_ge (a := c) (b := 32) (by omega) (by decide)), bits_d m hm c (by omega), nI_1]
      exact ih (c + 1) (by omega) (by omega)
theorem bits_eq {fu m : Nat} (hfu : 40 ≤ fu) (hm : m < 256) : fX11_bits fu (nI m) = some (nI (popc m)) := by
  have := bits_loop (fu := fu) hm fu 0 (by omega) (by omega)
  rw [nI_0, show plN m 0 = 0 by rw [plN, Nat.pow_zero, Nat.mod_one]; rfl, nI_0] at this
  exact this
theorem bitc_eq {m : Nat} (hm : m < 256) : fJ6_bitCount_0f7a4 (nI m) = some (nI (popc m)) := by
  unfold fJ6_bitCount_0f7a4
  rw [gIx_n hm (by decide)]
  rfl
theorem solve_ref {fu : Nat} (hfu : 30 ≤ fu) {s : sSt} {S : gS} {m : Nat} (hs : rSt s (iA S 0)) (hm : m < 256) (hm2 : m < 2 ^ s.1.2.1) (h1 : 1 ≤ popc m) (h4 : popc m ≤ 4) : ∃ S1 S2, fX11_takeModel fu S (nI m) = some S1 ∧ fX11_solve fu S1 (-1) = some (!decide (qn (As s 20 m) (popc m) = 0), S2) ∧ scr S S2 ∧ mtk S2 m ∧ lF S2 25 = qn (As s 20 m) (popc m) ∧ (∀ a, a < popc m → lA S2 23 a = As s 20 m a (popc m)) ∧ (qn (As s 20 m) (popc m) ≠ 0 → ∀ q, q < popc m → lA S2 24 q = qA (As s 20 m) (popc m) q) := by
  obtain ⟨S1, d1, d2, d3⟩ := take_eq (fu := fu) (by omega) hm h4 S
  have hs1 : rSt s (iA S1 0) := by
    rw [d2.2.2.1 0 (by decide)]
    exact hs
  obtain ⟨S2, e1, e2, e3, e4, e5, e6⟩ := rsol_eq hfu (v1 := -1) (o := 20) hs1 hm hm2 h1 h4 d3 (fun r hr => ⟨fun q => absurd q (nI_nm1 (by omega)), fun q => absurd q (by omega)⟩)
  exact ⟨S1, S2, d1, e1, scr_trans d2 e2, e3, e4, e5, e6⟩
/-- the best so far, on both sides -/
def bst (s : sSt) (ch : Nat) (sq b sq' b' : Int64) : Prop := ch = 0 ∨ (ch < 256 ∧ ch < 2 ^ s.1.2.1 ∧ 1 ≤ popc ch ∧ popc ch ≤ 4 ∧ qn (As s 20 ch) (popc ch) ≠ 0 ∧ sq = sq' ∧ b = b' ∧ 0 < b.toInt ∧ b.toInt < 2 ^ 35)
theorem pow8 {n : Nat} (h : n ≤ 8) : 2 ^ n ≤ 256 := Nat.pow_le_pow_right (n := 2) (j := 8) (by decide) h
theorem few_in {fu : Nat} (hfu : 80 ≤ fu) {s : sSt} {t0 : Nat → Int64} {k z : Nat} (hz1 : 1 ≤ z) (hz3 : z ≤ 3) {k11 : Int32 → Int64 → Int64 → Int32 → sPd → Option (Int32 × sPd)} {k44 : Int32 → Int64 → Int64 → Int32 → gS → Option (Int64 × gS)} : ∀ (j q : Nat) (ch : Nat) (sq b sq' b' : Int64) (p : sPd) (S : gS), 1 ≤ q → q ≤ 2 ^ s.1.2.1 → 2 ^ s.1.2.1 - q < j → rSt s (iA S 0) → rPd p → p.2.1 = gTb s t0 s.2.1.1 → bst s ch sq b sq' b' → ∃ ch2 sq2 b2 sq2' b2' p2 S2, lX4_fewestOf_26 k11 fu (nI (2 ^ s.1.2.1 - 1)) (nI k) j (nI ch) sq b (nI z) (nI q) p = k11 (nI ch2) sq2 b2 (nI (z + 1)) p2 ∧ lX11_few_53 k44 fu (nI k) j (nI ch) sq' b' (nI z) (nI q) S = k44 (nI ch2) sq2' b2' (nI (z + 1)) S2 ∧ scr S S2 ∧ rPd p2 ∧ p2.2.1 = gTb s t0 s.2.1.1 ∧ bst s ch2 sq2 b2 sq2' b2' := by
  intro j
  induction j with
  | zero => intro q ch sq b sq' b' p S _ _ hj; exact absurd hj (Nat.not_lt_zero _)
  | succ j ih =>
    intro q ch sq b sq' b' p S hq1 hq2 hj hs hp ht hb
    obtain ⟨⟨a1, a2, a3⟩, ⟨b1, b2, b3⟩, -⟩ := id hs
    have p8 := pow8 a1
    have pp := Nat.two_pow_pos s.1.2.1
    rw [lX4_fewestOf_26, lX11_few_53, a2, shl1 _ (by omega)]
    by_cases e : q = 2 ^ s.1.2.1
    · rw [e, if_pos (show nI (2 ^ s.1.2.1 - 1) < nI (2 ^ s.1.2.1) from Int32.lt_iff_le_and_ne.mpr ⟨nI_le (by omega) (by omega), fun w => absurd ((nI_eq (by omega) (by omega)).mp w) (by omega)⟩), if_pos (nI_le (Nat.le_refl _) (by omega)), nI_1]
      exact ⟨ch, sq, b, sq', b', p, S, rfl, rfl, scr_refl S, hp, ht, hb⟩
    · have q256 : q < 256 := by omega
      rw [if_neg (show ¬ nI (2 ^ s.1.2.1 - 1) < nI q from Int32.not_lt.mpr (nI_le (by omega) (by omega))), if_neg (show ¬ (256 : Int32) ≤ nI q from nI_ge (a := q) (b := 256) q256 (by decide)), if_neg (nI_ge (show q < 2 ^ s.1.2.1 by omega) (by omega)), bitc_eq q256, bits_eq (by omega) q256]
      simp only [Option.bind_some, nI_1]
      have pc8 := popc_8 q
      by_cases w : popc q = z
      · rw [if_pos (show nI (popc q) = nI z by rw [w]), if_pos (show nI (popc q) = nI z by rw [w])]
        obtain ⟨r, e1, e2, e3⟩ := psol_eq (A := As s 20 q) hp q256 (by omega) (by omega) (fun i j _ _ => by rw [ht]; exact gTb_As q256 (by omega) i j) (As_sy s 20 q)
        obtain ⟨S1, S2, d1, d2, d3, d4, d5, d6, d7⟩ := solve_ref (fu := fu) (by omega) hs q256 (by omega) (by omega) (by omega)
        obtain ⟨-, x1, x2, -⟩ := sol_bd hs q256 (by omega) (by omega) 20
        rw [e1, d1]
        simp only [Option.bind_some]
        rw [d2]
        simp only [Option.bind_some]
        have hs2 : rSt s (iA S2 0) := by
          rw [d3.2.2.1 0 (by decide)]
          exact hs
        have nx : ∀ (ch : Nat) (sq b sq' b' : Int64), bst s ch sq b sq' b' → ∃ ch2 sq2 b2 sq2' b2' p2 S3, lX4_fewestOf_26 k11 fu (nI (2 ^ s.1.2.1 - 1)) (nI k) j (nI ch) sq b (nI z) (nI (q + 1)) (p.1, p.2.1, r) = k11 (nI ch2) sq2 b2 (nI (z + 1)) p2 ∧ lX11_few_53 k44 fu (nI k) j (nI ch) sq' b' (nI z) (nI (q + 1)) S2 = k44 (nI ch2) sq2' b2' (nI (z + 1)) S3 ∧ scr S S3 ∧ rPd p2 ∧ p2.2.1 = gTb s t0 s.2.1.1 ∧ bst s ch2 sq2 b2 sq2' b2' := fun ch sq b sq' b' hbs => by
          obtain ⟨ch2, sq2, b2, sq2', b2', p2, S3, y1, y2, y3, y4, y5, y6⟩ := ih (q + 1) ch sq b sq' b' (p.1, p.2.1, r) S2 (by omega) (by omega) (by omega) hs2 e2 ht hbs
          exact ⟨ch2, sq2, b2, sq2', b2', p2, S3, y1, y2, scr_trans d3 y3, y4, y5, y6⟩
        by_cases zz : qn (As s 20 q) (popc q) = 0
        · simp only [zz, decide_true, Bool.not_true, Bool.false_eq_true, if_false]
          exact nx ch sq b sq' b' hb
        · simp only [zz, decide_false, Bool.not_false, if_true]
          have zp := i64_nz zz
          obtain ⟨u1, -, u3⟩ := e3 p.1 p.2.1
          rw [u1, u3, sumL_eq (fu := fu) (by omega) hs2 (by omega) (by omega) (show s.2.1.1 ≤ 20 from b1) d4.1 d5 d6 (d7 zz), d5]
          simp only [Option.bind_some]
          have tk := nx q (sLf (As s 20 q) (popc q) (popc q)) (qn (As s 20 q) (popc q)) _ _ (Or.inr ⟨q256, by omega, by omega, by omega, zz, rfl, rfl, by omega, x2⟩)
          by_cases c0 : ch = 0
          · rw [if_pos (show nI ch = 0 by rw [c0]; rfl), if_pos (show nI ch = 0 by rw [c0]; rfl)]
            exact tk
          · rcases hb with hb | hb
            · exact absurd hb c0
            · obtain ⟨v1, v2, v3, v4, v5, v6, v7, v8, v9⟩ := hb
              have cn : ¬ nI ch = 0 := fun y => c0 ((nI_eq (b := 0) (by omega) (by decide)).mp y)
              rw [if_neg cn, if_neg cn, ← v6, ← v7, fX2_order, cmpr_eq hfu (by omega) x2 v8]
              simp only [Option.bind_some]
              by_cases o0 : 0 ≤ ordr 100 (sLf (As s 20 q) (popc q) (popc q)) (qn (As s 20 q) (popc q)) sq b
              · rw [if_pos o0, if_pos o0]
                exact nx ch sq b sq b (Or.inr ⟨v1, v2, v3, v4, v5, rfl, rfl, v8, v9⟩)
              · rw [if_neg o0, if_neg o0]
                exact tk
      · have wn : ¬ nI (popc q) = nI z := fun y => w ((nI_eq (by omega) (by omega)).mp y)
        rw [if_neg wn, if_neg wn]
        exact ih (q + 1) ch sq b sq' b' p S (by omega) (by omega) (by omega) hs hp ht hb
def rfew (fu : Nat) (v2 : Int32) (S0 : gS) : Option (Int64 × gS) := (if v2 = 0 then ((some (sL S0 11 (((1 : Int64) <<< (((iA S0 0) 0).toInt64 &&& 63)) - (1 : Int64)))).bind fun S0x160 => ((fX11_tellFinding fu S0x160 (-9000000000000000006 : Int64)).bind fun r167 => (some (r167.1, r167.2)))) else ((fX11_takeModel fu S0 v2).bind fun r173 => ((fX11_solve fu r173 (-1 : Int32)).bind fun r178 => (if r178.1 = true then ((fX11_becomesFound fu r178.2 v2).bind fun r186 => (some ((v2.toInt64), r186))) else (some ((v2.toInt64), r178.2))))))
theorem few_out {fu : Nat} (hfu : 300 ≤ fu) {s : sSt} {t0 : Nat → Int64} {k : Nat} (hk : k ≤ 3) : ∀ (j z : Nat) (ch : Nat) (sq b sq' b' : Int64) (p : sPd) (S : gS), 1 ≤ z → z ≤ k + 1 → k + 1 - z < j → rSt s (iA S 0) → rPd p → p.2.1 = gTb s t0 s.2.1.1 → bst s ch sq b sq' b' → ∃ ch2 sq2 b2 p2 S2, lX4_fewestOf_11 fu (nI (2 ^ s.1.2.1 - 1)) (nI k) j (nI ch) sq b (nI z) p = some (nI ch2, p2) ∧ lX11_few_44 fu (nI k) j (nI ch) sq' b' (nI z) S = rfew fu (nI ch2) S2 ∧ scr S S2 ∧ rPd p2 ∧ p2.2.1 = gTb s t0 s.2.1.1 ∧ bst s ch2 sq2 b2 sq2 b2 := by
  intro j
  induction j with
  | zero => intro z ch sq b sq' b' p S _ _ hj; exact absurd hj (Nat.not_lt_zero _)
  | succ j ih =>
    intro z ch sq b sq' b' p S hz1 hz2 hj hs hp ht hb
    rw [lX4_fewestOf_11, lX11_few_44]
    by_cases e : z = k + 1
    · have l : nI k < nI z := Int32.lt_iff_le_and_ne.mpr ⟨nI_le (by omega) (by omega), fun w => absurd ((nI_eq (by omega) (by omega)).mp w) (by omega)⟩
      rw [if_pos l, if_pos l]
      refine ⟨ch, sq, b, p, S, rfl, rfl, scr_refl S, hp, ht, ?_⟩
      rcases hb with hb | ⟨v1, v2, v3, v4, v5, v6, v7, v8, v9⟩
      · exact Or.inl hb
      · exact Or.inr ⟨v1, v2, v3, v4, v5, rfl, rfl, v8, v9⟩
    · have l : ¬ nI k < nI z := Int32.not_lt.mpr (nI_le (by omega) (by omega))
      rw [if_neg l, if_neg l, if_neg (show ¬ (3 : Int32) < nI z from Int32.not_lt.mpr (nI_le (a := z) (b := 3) (by omega) (by decide)))]
      have p8 := pow8 hs.1.1
      have pp := Nat.two_pow_pos s.1.2.1
      obtain ⟨ch2, sq2, b2, sq2', b2', p2, S2, y1, y2, y3, y4, y5, y6⟩ := few_in (fu := fu) (by omega) (k := k) hz1 (show z ≤ 3 by omega) (k11 := lX4_fewestOf_11 fu (nI (2 ^ s.1.2.1 - 1)) (nI k) j) (k44 := lX11_few_44 fu (nI k) j) fu 1 ch sq b sq' b' p S (Nat.le_refl _) (by omega) (by omega) hs hp ht hb
      have y1' : lX4_fewestOf_26 (lX4_fewestOf_11 fu (nI (2 ^ s.1.2.1 - 1)) (nI k) j) fu (nI (2 ^ s.1.2.1 - 1)) (nI k) fu (nI ch) sq b (nI z) 1 p = _ := y1
      have y2' : lX11_few_53 (lX11_few_44 fu (nI k) j) fu (nI k) fu (nI ch) sq' b' (nI z) 1 S = _ := y2
      rw [y1', y2']
      have hs2 : rSt s (iA S2 0) := by
        rw [y3.2.2.1 0 (by decide)]
        exact hs
      obtain ⟨ch3, sq3, b3, p3, S3, w1, w2, w3, w4, w5, w6⟩ := ih (z + 1) ch2 sq2 b2 sq2' b2' p2 S2 (by omega) (by omega) (by omega) hs2 y4 y5 y6
      exact ⟨ch3, sq3, b3, p3, S3, w1, w2, scr_trans y3 w3, w4, w5, w6⟩
theorem all_64 : ∀ n, n < 9 → (nI (2 ^ n - 1)).toInt64 = ((1 : Int64) <<< ((nI n).toInt64 &&& 63)) - 1 := by decide +kernel
theorem wit_13 {v : Int32} (h : wit v 1 3 = true) : ∃ k, 1 ≤ k ∧ k ≤ 3 ∧ v = nI k := by
  unfold wit at h
  rw [Bool.and_eq_true, decide_eq_true_eq, decide_eq_true_eq] at h
  have h1 := Int32.le_iff_toInt_le.mp h.1
  have h2 := Int32.le_iff_toInt_le.mp h.2
  rw [show ((1 : Int32).toInt) = 1 from rfl] at h1
  rw [show ((3 : Int32).toInt) = 3 from rfl] at h2
  have : v.toInt = 1 ∨ v.toInt = 2 ∨ v.toInt = 3 := by omega
  rcases this with q | q | q
  · exact ⟨1, by decide, by decide, Int32.toInt_inj.mp (q.trans rfl)⟩
  · exact ⟨2, by decide, by decide, Int32.toInt_inj.mp (q.trans rfl)⟩
  · exact ⟨3, by decide, by decide, Int32.toInt_inj.mp (q.trans rfl)⟩
theorem rR_lo {T : sWB} {S : gS} {c : Nat} (h : rR T S c) {v : Int32} {w : Int64} (e : v.toInt64 = w) : rR (st_X10_6 T v) (sL S 11 w) c := by
  obtain ⟨h1, h2, h3, h4, h5, h6, h7, h8, h9⟩ := h
  exact ⟨h1, h2, h3, h4, h5, e, h7, h8, h9⟩
theorem p_few {fu : Nat} (hfu : 300 ≤ fu) : St_few fu := by
  intro T S c h hc v0
  unfold fX10_few fX11_few
  rw [in_eq]
  simp only [fX2_within, Option.bind_some]
  cases hw : wit v0 1 3
  · simp only [Bool.false_eq_true, if_false, obind_eta]
    exact ref1 h hc
  · obtain ⟨k, k1, k3, rfl⟩ := wit_13 hw
    simp only [if_true]
    obtain ⟨⟨a1, a2, a3⟩, ⟨b1, b2, b3⟩, -⟩ := id h.1
    rw [fX0_length, a2]
    simp only [Option.bind_some]
    by_cases n0 : T.1.1.2.1 = 0
    · rw [if_pos (show nI T.1.1.2.1 = 0 by rw [n0]; rfl), if_pos (show nI T.1.1.2.1 = 0 by rw [n0]; rfl), obind_eta, obind_eta]
      exact ref2 h hc
    · have nn : ¬ nI T.1.1.2.1 = 0 := fun y => n0 ((nI_eq (b := 0) (by omega) (by decide)).mp y)
      rw [if_neg nn, if_neg nn]
      obtain ⟨row, e3⟩ := gather_eq (fu := fu) (by omega) a1 b1 T.2.2.2.2.1
      rw [e3]
      simp only [Option.bind_some]
      have p8 := pow8 a1
      have pp := Nat.two_pow_pos T.1.1.2.1
      rw [fX0_length, show (st_X10_4 T (row, gTb T.1 T.2.2.2.2.1.2.1 T.1.2.1.1, T.2.2.2.2.1.2.2)).1.1.2.1 = T.1.1.2.1 from rfl]
      simp only [Option.bind_some]
      rw [shl1 _ (by omega), nI_m1 pp]
      obtain ⟨ch, sq, b, p2, S2, w1, w2, w3, w4, w5, w6⟩ := few_out hfu (s := T.1) (t0 := T.2.2.2.2.1.2.1) k3 fu 1 0 0 1 0 1 (row, gTb T.1 T.2.2.2.2.1.2.1 T.1.2.1.1, T.2.2.2.2.1.2.2) S (Nat.le_refl _) (by omega) (by omega) h.1 h.2.2.2.1 rfl (Or.inl rfl)
      have w1' : fX4_fewestOf fu (st_X10_4 T (row, gTb T.1 T.2.2.2.2.1.2.1 T.1.2.1.1, T.2.2.2.2.1.2.2)).2.2.2.2.1 (nI (2 ^ T.1.1.2.1 - 1)) (nI k) = some (nI ch, p2) := w1
      have w2' : lX11_few_44 fu (nI k) fu 0 0 1 1 S = rfew fu (nI ch) S2 := w2
      rw [w1', w2']
      simp only [Option.bind_some]
      have h2 := rR_scr (rR_pd h w4) w3
      unfold rfew
      rcases w6 with c0 | ⟨v1, v2, v3, v4, v5, -⟩
      · subst c0
        rw [if_pos nI_0, if_pos nI_0]
        simp only [Option.bind_some, obind_eta]
        refine ref6 (T := st_X10_6 (st_X10_4 (st_X10_4 T (row, gTb T.1 T.2.2.2.2.1.2.1 T.1.2.1.1, T.2.2.2.2.1.2.2)) p2) (nI (2 ^ T.1.1.2.1 - 1))) (rR_lo h2 ?_) hc
        have a2' : iA S2 0 0 = nI T.1.1.2.1 := by
          rw [w3.2.2.1 0 (by decide)]
          exact a2
        rw [a2']
        exact all_64 _ (by omega)
      · have cn : ¬ nI ch = 0 := fun y => by
          have := (nI_eq (b := 0) (by omega) (by decide)).mp y
          rw [this] at v3
          exact absurd v3 (by decide)
        rw [if_neg cn, if_neg cn]
        obtain ⟨r, e1, e2, e4⟩ := psol_eq (A := As T.1 20 ch) w4 v1 v3 v4 (fun i j _ _ => by rw [w5]; exact gTb_As v1 (by omega) i j) (As_sy T.1 20 ch)
        obtain ⟨S1, S3, d1, d2, d3, d4, d5, d6, d7⟩ := solve_ref (fu := fu) (s := T.1) (by omega) h2.1 v1 v2 v3 v4
        have e1' : fX4_solve (st_X10_4 (st_X10_4 T (row, gTb T.1 T.2.2.2.2.1.2.1 T.1.2.1.1, T.2.2.2.2.1.2.2)) p2).2.2.2.2.1 (nI ch) = _ := e1
        rw [e1', d1]
        simp only [Option.bind_some]
        rw [d2]
        simp only [Option.bind_some, v5, decide_false, Bool.not_false, if_true]
        have h3 := rR_scr (rR_pd (p := (p2.1, p2.2.1, r)) h2 e2) d3
        obtain ⟨z', S4, x1, x2, x3, -⟩ := found_join (fu := fu) (by omega) (o := 20) h3 v1 v2 v3 v4 b1 (e4 p2.1 p2.2.1) d4 v5 d5 d6 (d7 v5) T.2.2.2.2.2.1
        have x1' : fX6_take fu (st_X10_4 (st_X10_4 (st_X10_4 T (row, gTb T.1 T.2.2.2.2.1.2.1 T.1.2.1.1, T.2.2.2.2.1.2.2)) p2) (p2.1, p2.2.1, r)).2.2.2.2.2.1 (st_X10_4 (st_X10_4 (st_X10_4 T (row, gTb T.1 T.2.2.2.2.1.2.1 T.1.2.1.1, T.2.2.2.2.1.2.2)) p2) (p2.1, p2.2.1, r)).2.2.2.2.1 (nI ch) = some z' := x1
        rw [x1', x2]
        exact ⟨_, _, _, rfl, rfl, rR_mono x3⟩
