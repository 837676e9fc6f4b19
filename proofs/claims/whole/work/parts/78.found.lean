/-! sizes taken on both sides -/
theorem take_loop {fu : Nat} {p : sPd} {m : Nat} {A : Nat → Nat → Int64} {v1 : Int32} {bl sq : Int64} (hm : m < 256) (ht : tld p A (popc m)) : ∀ (j c : Nat) (ab : Nat → Int64), c ≤ 8 → 8 - c < j → ∃ ab', lX6_take_33 fu p v1 j (nI c) (true, false, m, ab, bl, sq) = some (true, false, m, ab', bl, sq) ∧ (∀ x, c ≤ x → x < 8 → ab' x = if m.testBit x = true then qA A (popc m) (szPl m (nI x)) else 0) ∧ (∀ x, x < c → ab' x = ab x) := by
  intro j
  induction j with
  | zero => intro c ab _ hj; exact absurd hj (Nat.not_lt_zero _)
  | succ j ih =>
    intro c ab hc hj
    rw [lX6_take_33]
    by_cases e : c = 8
    · subst e
      rw [if_pos (show (8 : Int32) ≤ nI 8 by decide +kernel)]
      exact ⟨ab, rfl, fun x h1 h2 => absurd h2 (by omega), fun _ _ => rfl⟩
    · have hh : fX6_has (true, false, m, ab, bl, sq) (nI c) = some (m.testBit c) := by
        rw [fX6_has, if_pos hm, szHas_lt (show c < 8 by omega)]
      rw [if_neg (show ¬ (8 : Int32) ≤ nI c from nI_ge (a := c) (b := 8) (by omega) (by decide)), hh]
      simp only [Option.bind_some, nI_1]
      rw [gIx_n (show c < 8 by omega) (by decide)]
      simp only [Option.bind_some]
      cases hb : m.testBit c
      · simp only [Bool.false_eq_true, if_false]
        obtain ⟨ab', g1, g2, g3⟩ := ih (c + 1) (vp_updL ab c 0) (by omega) (by omega)
        refine ⟨ab', g1, fun x h1 h2 => ?_, fun x hx => ?_⟩
        · by_cases q : x = c
          · rw [q, g3 c (by omega), upL_s, hb]
            rfl
          · exact g2 x (by omega) h2
        · rw [g3 x (by omega), upL_n (by omega)]
      · simp only [if_true]
        have hn := nth_pl m hm c (by omega) hb
        have hp : fX6_placeOf (true, false, m, ab, bl, sq) (nI c) = some (nI (szPl m (nI c))) := if_pos hm
        rw [hp]
        simp only [Option.bind_some]
        rw [ht.2.1 _ hn.1]
        simp only [Option.bind_some]
        obtain ⟨ab', g1, g2, g3⟩ := ih (c + 1) (vp_updL ab c (qA A (popc m) (szPl m (nI c)))) (by omega) (by omega)
        refine ⟨ab', g1, fun x h1 h2 => ?_, fun x hx => ?_⟩
        · by_cases q : x = c
          · rw [q, g3 c (by omega), upL_s, hb, if_pos rfl]
          · exact g2 x (by omega) h2
        · rw [g3 x (by omega), upL_n (by omega)]
theorem ptake_eq {fu : Nat} (hfu : 10 ≤ fu) {p : sPd} {m : Nat} {A : Nat → Nat → Int64} (hm : m < 256) (ht : tld p A (popc m)) (z : sSz) : ∃ ab', fX6_take fu z p (nI m) = some (true, false, m, ab', qn A (popc m), sLf A (popc m) (popc m)) ∧ (∀ x, x < 8 → ab' x = if m.testBit x = true then qA A (popc m) (szPl m (nI x)) else 0) := by
  unfold fX6_take
  rw [gIx_n hm (by decide), ht.1, ht.2.2]
  simp only [Option.bind_some]
  obtain ⟨ab', g1, g2, -⟩ := take_loop (fu := fu) (v1 := nI m) (bl := qn A (popc m)) (sq := sLf A (popc m) (popc m)) hm ht fu 0 z.2.2.2.1 (by omega) (by omega)
  rw [nI_0] at g1
  exact ⟨ab', g1, fun x hx => g2 x (by omega) hx⟩
def bF (S : gS) (f : Nat → Int32) (h : Nat → Int64) : gS := sB (sA S 16 f) 17 h
theorem bF_a (S : gS) (f : Nat → Int32) (h : Nat → Int64) (k : Nat) (v : Int32) : sAu (bF S f h) 16 k v = bF S (upd f k v) h := by
  unfold sAu bF sA sB
  simp only
  rw [uG_uG]
  rfl
theorem bF_b (S : gS) (f : Nat → Int32) (h : Nat → Int64) (k : Nat) (v : Int64) : sBu (bF S f h) 17 k v = bF S f (vp_updL h k v) := by
  unfold sBu bF sA sB
  simp only
  rw [uG_uG]
  rfl
theorem bF_self (S : gS) : bF S (iA S 16) (lA S 17) = S := by
  unfold bF
  rw [sA_self]
  exact sB_self S 17
theorem bf_loop {fu : Nat} (hfu : 30 ≤ fu) {v1 : Int32} {s : sSt} {S : gS} {m o : Nat} (hs : rSt s (iA S 0)) (h1 : 1 ≤ popc m) (h4 : popc m ≤ 4) (ho : s.2.1.1 ≤ o) (h20 : iF S 20 = nI (popc m)) (h25 : lF S 25 = qn (As s o m) (popc m)) (h23 : ∀ a, a < popc m → lA S 23 a = As s o m a (popc m)) (h24 : ∀ q, q < popc m → lA S 24 q = qA (As s o m) (popc m) q) : ∀ (j k : Nat) (f : Nat → Int32) (h : Nat → Int64), k ≤ popc m → popc m - k < j → ∃ f' h', lX11_becomesFound_33 fu v1 j (nI k) (bF S f h) = some (sL (bF S f' h') 19 (sLf (As s o m) (popc m) (popc m))) ∧ (∀ i, k ≤ i → i < popc m → f' i = iA S 21 i ∧ h' i = lA S 24 i) ∧ (∀ i, i < k → f' i = f i ∧ h' i = h i) := by
  intro j
  induction j with
  | zero => intro k f h _ hj; exact absurd hj (Nat.not_lt_zero _)
  | succ j ih =>
    intro k f h hk hj
    rw [lX11_becomesFound_33, show iF (bF S f h) 20 = nI (popc m) from h20]
    by_cases e : k = popc m
    · rw [e, if_pos (nI_le (Nat.le_refl _) (by omega)), sumL_eq hfu (S := bF S f h) hs h1 h4 ho h20 h25 h23 h24]
      exact ⟨f, h, rfl, fun i a b => absurd b (by omega), fun _ _ => ⟨rfl, rfl⟩⟩
    · rw [if_neg (nI_ge (by omega) (by omega)), gIx_n (show k < 4 by omega) (by decide)]
      simp only [Option.bind_some, nI_1]
      rw [bF_a, bF_b]
      obtain ⟨f', h', g1, g2, g3⟩ := ih (k + 1) (upd f k (iA (bF S f h) 21 k)) (vp_updL h k (lA (bF S (upd f k (iA (bF S f h) 21 k)) h) 24 k)) (by omega) (by omega)
      refine ⟨f', h', g1, fun i a b => ?_, fun i a => ?_⟩
      · by_cases q : i = k
        · obtain ⟨x1, x2⟩ := g3 i (by omega)
          rw [x1, x2, q, pk_us, upL_s]
          exact ⟨rfl, rfl⟩
        · exact g2 i (by omega) b
      · obtain ⟨x1, x2⟩ := g3 i (by omega)
        rw [x1, x2, pk_un (by omega), upL_n (by omega)]
        exact ⟨rfl, rfl⟩
theorem found_join {fu : Nat} (hfu : 30 ≤ fu) {T : sWB} {S : gS} {c m o : Nat} {p : sPd} (h : rR T S c) (hm : m < 256) (hm2 : m < 2 ^ T.1.1.2.1) (h1 : 1 ≤ popc m) (h4 : popc m ≤ 4) (ho : T.1.2.1.1 ≤ o) (ht : tld p (As T.1 o m) (popc m)) (hk : mtk S m) (hz : qn (As T.1 o m) (popc m) ≠ 0) (h25 : lF S 25 = qn (As T.1 o m) (popc m)) (h23 : ∀ a, a < popc m → lA S 23 a = As T.1 o m a (popc m)) (h24 : ∀ q, q < popc m → lA S 24 q = qA (As T.1 o m) (popc m) q) (z : sSz) : ∃ z' S', fX6_take fu z p (nI m) = some z' ∧ fX11_becomesFound fu S (nI m) = some S' ∧ rR (st_X10_5 T z') S' c ∧ iF S' 20 = nI (popc m) := by
  obtain ⟨ab, t1, t2⟩ := ptake_eq (fu := fu) (by omega) hm ht z
  obtain ⟨-, s1, s2, s3, s4, s5⟩ := sol_bd h.1 hm h1 h4 o
  have zp := i64_nz hz
  obtain ⟨f', h', g1, g2, -⟩ := bf_loop hfu (v1 := nI m) (S := sL (sI (sI (sI (sI S 12 1) 13 0) 14 (nI m)) 15 (iF S 20)) 18 (lF S 25)) h.1 h1 h4 ho hk.1 h25 h23 h24 fu 0 (iA S 16) (lA S 17) (by omega) (by omega)
  rw [nI_0] at g1
  refine ⟨_, sL (bF (sL (sI (sI (sI (sI S 12 1) 13 0) 14 (nI m)) 15 (iF S 20)) 18 (lF S 25)) f' h') 19 (sLf (As T.1 o m) (popc m) (popc m)), t1, ?_, ?_, hk.1⟩
  · have e := bF_self (sL (sI (sI (sI (sI S 12 1) 13 0) 14 (nI m)) 15 (iF S 20)) 18 (lF S 25))
    have g1' := g1
    rw [show bF (sL (sI (sI (sI (sI S 12 1) 13 0) 14 (nI m)) 15 (iF S 20)) 18 (lF S 25)) (iA S 16) (lA S 17) = sL (sI (sI (sI (sI S 12 1) 13 0) 14 (nI m)) 15 (iF S 20)) 18 (lF S 25) from e] at g1'
    exact g1'
  · obtain ⟨r1, r2, r3, r4, r5, r6, r7, r8, r9⟩ := h
    refine ⟨r1, r2, r3, r4, ⟨rfl, rfl, hm, fun _ _ => ⟨rfl, hk.1, fun i hi => ?_, h25, rfl, h1, h4, hm2, ?_, s2, fun x hx => ?_, s4, s5⟩⟩, r6, r7, r8, r9⟩
    · have hi : i < popc m := hi
      obtain ⟨x1, x2⟩ := g2 i (by omega) hi
      have p1 := plN_1 m hm i (by omega) hi
      refine ⟨x1.trans (hk.2 i hi), x2.trans ((h24 i hi).trans ?_)⟩
      show _ = ab (nthB 8 m i)
      rw [t2 _ p1.2.1, p1.1, if_pos rfl]
      have : szPl m (nI (nthB 8 m i)) = i := by
        have hn := nth_pl m hm _ p1.2.1 p1.1
        have q1 := plN_1 m hm _ (by have := popc_8 m; omega) hn.1
        rw [hn.2, p1.2.2] at q1
        exact q1.2.2.symm
      rw [this]
    · show 0 < (qn (As T.1 o m) (popc m)).toInt
      omega
    · show -(2 : Int) ^ 45 < (ab x).toInt ∧ (ab x).toInt < (2 : Int) ^ 45
      rw [t2 x hx]
      by_cases b : m.testBit x = true
      · rw [if_pos b]
        exact s3 _ (nth_pl m hm x hx b).1
      · rw [if_neg b, show ((0 : Int64).toInt) = 0 from rfl]
        omega
