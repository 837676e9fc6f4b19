/-! find, whole -/
theorem nI_toNat (v : Int32) : v = nI v.toBitVec.toNat := Int32.toBitVec_inj.mp (by rw [nI_bv, BitVec.ofNat_toNat, BitVec.setWidth_eq])
theorem msk_c : ∀ n, n < 9 → nI (2 ^ n) - (1 : Int32) = nI (2 ^ n - 1) := by decide +kernel
theorem mask_1 {v : Int32} {n : Nat} (hn : n ≤ 8) (h : v &&& (nI (2 ^ n - 1) ^^^ (-1 : Int32)) = 0) : ∃ m, m < 2 ^ n ∧ v = nI m := by
  refine ⟨v.toBitVec.toNat, ?_, nI_toNat v⟩
  have hu : v.toBitVec.toNat < 2 ^ 32 := v.toBitVec.isLt
  rw [nI_toNat v, nI_neg1, nI_xor, nI_and] at h
  have h0 : (v.toBitVec.toNat &&& ((2 ^ n - 1) ^^^ 4294967295)) = 0 := by
    have h2 := congrArg (fun x => x.toBitVec.toNat) h
    simp only [nI_bv, BitVec.toNat_ofNat] at h2
    rw [Nat.mod_eq_of_lt (Nat.lt_of_le_of_lt Nat.and_le_left hu)] at h2
    exact h2
  refine Nat.lt_pow_two_of_testBit _ (fun i hi => ?_)
  by_cases q : i < 32
  · have := congrArg (fun x => x.testBit i) h0
    simp only [Nat.testBit_and, Nat.testBit_xor, Nat.zero_testBit] at this
    rw [bits32 i q, bit_ge (x := 2 ^ n - 1) (n := n) (by have := Nat.two_pow_pos n; omega) hi] at this
    revert this
    cases v.toBitVec.toNat.testBit i <;> simp
  · exact bit_ge hu (by omega)
theorem mask_2 {m n : Nat} (hn : n ≤ 8) (h : m < 2 ^ n) : nI m &&& (nI (2 ^ n - 1) ^^^ (-1 : Int32)) = 0 := by
  have p8 := pow8 hn
  rw [andn_eq (by omega), ← nI_0]
  congr 1
  refine (sub_iff (by omega)).mpr (Nat.eq_of_testBit_eq (fun i => ?_))
  rw [Nat.testBit_and]
  by_cases q : i < n
  · rw [Nat.testBit_two_pow_sub_one, decide_eq_true q, Bool.and_true]
  · rw [bit_ge h (by omega), Bool.false_and]
theorem lN_64 : ∀ a, a < 256 → (nI a).toInt64 = lN a := by decide +kernel
theorem p_find {fu : Nat} (hfu : 300 ≤ fu) : St_find fu := by
  intro T S c h hc v0
  obtain ⟨⟨a1, a2, a3⟩, ⟨b1, b2, b3⟩, -⟩ := id h.1
  have p8 := pow8 a1
  have pp := Nat.two_pow_pos T.1.1.2.1
  unfold fX10_find fX11_find fX10_isModel
  rw [fX0_length, a2]
  simp only [Option.bind_some]
  rw [shl1 _ (by omega), msk_c _ (by omega)]
  by_cases mk : v0 &&& (nI (2 ^ T.1.1.2.1 - 1) ^^^ (-1 : Int32)) = 0
  · obtain ⟨m, hm2, rfl⟩ := mask_1 a1 mk
    have hm : m < 256 := by omega
    rw [if_pos mk, bitc_eq hm, bits_eq (by omega) hm]
    simp only [Option.bind_some, fX2_within, obind_eta]
    by_cases m0 : m = 0
    · subst m0
      rw [show wit (nI (popc 0)) 1 4 = false from by decide +kernel, if_pos (show nI 0 < 1 by decide +kernel)]
      simp only [Bool.false_eq_true, if_false, Option.bind_some]
      exact ref1 h hc
    · rw [if_neg (show ¬ nI m < 1 from Int32.not_lt.mpr (nI_le (a := 1) (b := m) (by omega) (by omega))), if_neg (nI_ge hm2 (by omega))]
      have c1 := popc_p1 m hm (by omega)
      have c8 := popc_8 m
      by_cases c4 : popc m ≤ 4
      · have hw : wit (nI (popc m)) 1 4 = true := by
          unfold wit
          rw [decide_eq_true (show (1 : Int32) ≤ nI (popc m) from nI_le (a := 1) c1 (by omega)), decide_eq_true (show nI (popc m) ≤ (4 : Int32) from nI_le (b := 4) c4 (by decide))]
          rfl
        rw [hw, if_pos (show nI (popc m) ≤ (4 : Int32) from nI_le (b := 4) c4 (by decide))]
        simp only [if_true, Option.bind_some]
        obtain ⟨row, e3⟩ := gather_eq (fu := fu) (by omega) a1 b1 T.2.2.2.2.1
        obtain ⟨S1, S2, d1, d2, d3, d4, d5, d6, d7⟩ := solve_ref (fu := fu) (s := T.1) (by omega) h.1 hm hm2 c1 c4
        obtain ⟨r, e1, e2, e4⟩ := psol_eq (p := (row, gTb T.1 T.2.2.2.2.1.2.1 T.1.2.1.1, T.2.2.2.2.1.2.2)) (A := As T.1 20 m) h.2.2.2.1 hm c1 c4 (fun i j _ _ => gTb_As hm (by omega) i j) (As_sy T.1 20 m)
        have e1' : fX4_solve (st_X10_4 T (row, gTb T.1 T.2.2.2.2.1.2.1 T.1.2.1.1, T.2.2.2.2.1.2.2)).2.2.2.2.1 (nI m) = _ := e1
        rw [e3, d1]
        simp only [Option.bind_some]
        rw [e1', d2]
        simp only [Option.bind_some]
        have h2 : rR (st_X10_4 (st_X10_4 T (row, gTb T.1 T.2.2.2.2.1.2.1 T.1.2.1.1, T.2.2.2.2.1.2.2)) (row, gTb T.1 T.2.2.2.2.1.2.1 T.1.2.1.1, r)) S2 c := rR_scr (rR_pd (rR_pd h h.2.2.2.1) e2) d3
        by_cases zz : qn (As T.1 20 m) (popc m) = 0
        · simp only [zz, decide_true, Bool.not_true, Bool.false_eq_true, if_false]
          obtain ⟨rk, f, B, x1, x2, x3⟩ := rank_eq (fu := fu) (by omega) (v1 := -1) (i := 9) (s := T.1) (S := sL S2 11 0) h2.1 hm hm2 c4 d4 (fun a ha => ⟨fun q => absurd q (nI_nm1 (by omega)), fun q => absurd q (by omega)⟩)
          rw [show mWo m 9 = m from if_neg (by omega)] at x3
          rw [x1]
          simp only [Option.bind_some]
          obtain ⟨M, S3, y1, y2, y3, y4⟩ := find_loop (fu := fu) (by omega) hm hm2 c4 x2 x3 (v1 := nI m) fu 0 0 (sB S2 26 f) (by omega) (by omega) h2.1 d4 (by decide)
          have es : sL (sB S2 26 f) 11 (lN 0) = sB (sL S2 11 0) 26 f := rfl
          rw [es, nI_0] at y1
          rw [y1]
          obtain ⟨most, L, p2, w1, w2, w3⟩ := loose_loop (fu := fu) (t0 := T.2.2.2.2.1.2.1) h.1 hm c4 fu 1 0 m (row, gTb T.1 T.2.2.2.2.1.2.1 T.1.2.1.1, r) (Nat.le_refl _) (by omega) (by omega) e2 rfl ⟨fun q' h1 h2 => absurd h2.1 (by omega), hm, by decide, fun _ => rfl, fun q => absurd q (by decide)⟩
          rw [nI_0] at w1
          have w1' : fX4_looseOf fu (st_X10_4 (st_X10_4 T (row, gTb T.1 T.2.2.2.2.1.2.1 T.1.2.1.1, T.2.2.2.2.1.2.2)) (row, gTb T.1 T.2.2.2.2.1.2.1 T.1.2.1.1, r)).2.2.2.2.1 (nI m) = some (nI L, p2) := w1
          rw [w1']
          simp only [Option.bind_some, obind_eta]
          have hl := loose_same hm c4 x3 w3 y3 y4
          have h3 := rR_scr (rR_pd (p := p2) h2 w2) (scr_trans (scr_sB S2 (by decide) f) y2)
          exact ref6 (rR_lo h3 (by rw [lN_64 L (by omega), hl])) hc
        · simp only [zz, decide_false, Bool.not_false, if_true]
          obtain ⟨z', S4, x1, x2, x3, x4⟩ := found_join (fu := fu) (by omega) (o := 20) h2 hm hm2 c1 c4 b1 (e4 row (gTb T.1 T.2.2.2.2.1.2.1 T.1.2.1.1)) d4 zz d5 d6 (d7 zz) T.2.2.2.2.2.1
          have x1' : fX6_take fu (st_X10_4 (st_X10_4 T (row, gTb T.1 T.2.2.2.2.1.2.1 T.1.2.1.1, T.2.2.2.2.1.2.2)) (row, gTb T.1 T.2.2.2.2.1.2.1 T.1.2.1.1, r)).2.2.2.2.2.1 (st_X10_4 (st_X10_4 T (row, gTb T.1 T.2.2.2.2.1.2.1 T.1.2.1.1, T.2.2.2.2.1.2.2)) (row, gTb T.1 T.2.2.2.2.1.2.1 T.1.2.1.1, r)).2.2.2.2.1 (nI m) = some z' := x1
          rw [x1', x2]
          simp only [Option.bind_some]
          rw [x4]
          exact ⟨_, _, _, rfl, rfl, rR_mono x3⟩
      · have hw : wit (nI (popc m)) 1 4 = false := by
          unfold wit
          rw [decide_eq_false (show ¬ nI (popc m) ≤ (4 : Int32) from nI_ge (a := 4) (by omega) (by omega)), Bool.and_false]
        rw [hw, if_neg (show ¬ nI (popc m) ≤ (4 : Int32) from nI_ge (a := 4) (by omega) (by omega))]
        simp only [Bool.false_eq_true, if_false, Option.bind_some]
        exact ref1 h hc
  · rw [if_neg mk]
    simp only [Option.bind_some, Bool.false_eq_true, if_false, obind_eta]
    by_cases l1 : v0 < 1
    · rw [if_pos l1]
      exact ref1 h hc
    · rw [if_neg l1]
      by_cases l2 : nI (2 ^ T.1.1.2.1) ≤ v0
      · rw [if_pos l2]
        exact ref1 h hc
      · refine absurd ?_ mk
        have q1 := Int32.le_iff_toInt_le.mp (Int32.not_lt.mp l1)
        rw [show ((1 : Int32).toInt) = 1 from rfl] at q1
        have hp : pin v0 (2 ^ T.1.1.2.1) = true := pin_t (by omega) (fun y => by
          have := Int32.lt_iff_toInt_lt.mp y
          rw [show ((0 : Int32).toInt) = 0 from rfl] at this
          omega) l2
        obtain ⟨m, hm, rfl⟩ := pin_ex hp (by omega)
        exact mask_2 a1 hm
