/-! find -/
theorem nI_bv (a : Nat) : (nI a).toBitVec = BitVec.ofNat 32 a := rfl
theorem nI_and (a b : Nat) : nI a &&& nI b = nI (a &&& b) := Int32.toBitVec_inj.mp (by rw [Int32.toBitVec_and, nI_bv, nI_bv, nI_bv, BitVec.ofNat_and])
theorem nI_or (a b : Nat) : nI a ||| nI b = nI (a ||| b) := Int32.toBitVec_inj.mp (by rw [Int32.toBitVec_or, nI_bv, nI_bv, nI_bv, BitVec.ofNat_or])
theorem nI_xor (a b : Nat) : nI a ^^^ nI b = nI (a ^^^ b) := Int32.toBitVec_inj.mp (by rw [Int32.toBitVec_xor, nI_bv, nI_bv, nI_bv, BitVec.ofNat_xor])
theorem nI_neg1 : (-1 : Int32) = nI 4294967295 := by decide +kernel
theorem bits32 : ∀ i, i < 32 → (4294967295 : Nat).testBit i = true := by decide +kernel
theorem bits8 : ∀ i, i < 8 → (255 : Nat).testBit i = true := by decide +kernel
theorem bit_ge {x n i : Nat} (h : x < 2 ^ n) (hi : n ≤ i) : x.testBit i = false := Nat.testBit_lt_two_pow (Nat.lt_of_lt_of_le h (Nat.pow_le_pow_right (by decide) hi))
theorem andn_eq {m q : Nat} (hm : m < 256) : nI m &&& (nI q ^^^ (-1 : Int32)) = nI (m &&& (q ^^^ 255)) := by
  rw [nI_neg1, nI_xor, nI_and]
  congr 1
  refine Nat.eq_of_testBit_eq (fun i => ?_)
  rw [Nat.testBit_and, Nat.testBit_and, Nat.testBit_xor, Nat.testBit_xor]
  by_cases h : i < 8
  · rw [bits32 i (by omega), bits8 i h]
  · rw [bit_ge (n := 8) hm (by omega), Bool.false_and, Bool.false_and]
theorem andn_bit {m q c : Nat} (hc : c < 8) : (m &&& (q ^^^ 255)).testBit c = (m.testBit c && !q.testBit c) := by
  rw [Nat.testBit_and, Nat.testBit_xor, bits8 c hc]
  cases m.testBit c <;> cases q.testBit c <;> rfl
theorem andn_lt {m q : Nat} (hm : m < 256) : m &&& (q ^^^ 255) < 256 := Nat.lt_of_le_of_lt Nat.and_le_left hm
theorem sub_iff {m q : Nat} (hq : q < 256) : q &&& (m ^^^ 255) = 0 ↔ q &&& m = q := by
  constructor
  · intro h
    refine Nat.eq_of_testBit_eq (fun i => ?_)
    rw [Nat.testBit_and]
    by_cases hi : i < 8
    · have := andn_bit (m := q) (q := m) hi
      rw [h, Nat.zero_testBit] at this
      revert this
      cases q.testBit i <;> cases m.testBit i <;> simp
    · rw [bit_ge (n := 8) hq (by omega), Bool.false_and]
  · intro h
    refine Nat.eq_of_testBit_eq (fun i => ?_)
    rw [Nat.zero_testBit]
    by_cases hi : i < 8
    · rw [andn_bit hi]
      have := congrArg (fun x => x.testBit i) h
      simp only [Nat.testBit_and] at this
      revert this
      cases q.testBit i <;> cases m.testBit i <;> simp
    · rw [Nat.testBit_and, bit_ge (n := 8) hq (by omega), Bool.false_and]
theorem popc_sub {q m : Nat} (h : q &&& m = q) : popc q ≤ popc m := by
  have b : ∀ i, q / 2 ^ i % 2 ≤ m / 2 ^ i % 2 := fun i => by
    have := sub_bit (c := i) h
    rw [Nat.testBit_eq_decide_div_mod_eq, Nat.testBit_eq_decide_div_mod_eq, decide_eq_true_eq, decide_eq_true_eq] at this
    omega
  have b0 := b 0
  have b1 := b 1
  have b2 := b 2
  have b3 := b 3
  have b4 := b 4
  have b5 := b 5
  have b6 := b 6
  have b7 := b 7
  simp only [Nat.reducePow, Nat.div_one] at b0 b1 b2 b3 b4 b5 b6 b7
  unfold popc
  omega
theorem Dep_cg {X Y : Nat → Nat → Int} {N n : Nat} (h : ∀ r j, r < N → j < n → X r j = Y r j) (hd : Dep X N n) : Dep Y N n := by
  obtain ⟨u, hu, hr⟩ := hd
  refine ⟨u, hu, fun r hrN => ?_⟩
  rw [← hr r hrN]
  exact isum_ext n (fun j hj => by simp only [h r j hrN hj])
theorem firm_iff {s : sSt} {f : Nat → Int32} (h : rSt s f) {q : Nat} (hq : q < 256) (h1 : 1 ≤ popc q) (h4 : popc q ≤ 4) : qn (As s 20 q) (popc q) = 0 ↔ DepC (Xc s) s.2.1.1 q := by
  rw [(sol_bd h hq h1 h4 20).1]
  have hN : s.2.1.1 ≤ 20 := h.2.1.1
  have e : ∀ r j, r < s.2.1.1 → j < popc q → Xm s 20 q r j = Xc s r (nthB 8 q j) := fun r j hr hj => by
    unfold Xm xo Xc
    rw [if_neg (by omega), cxm_lt hj]
  exact ⟨Dep_cg e, Dep_cg (fun r j hr hj => (e r j hr hj).symm)⟩
theorem popc_p1 : ∀ q, q < 256 → 1 ≤ q → 1 ≤ popc q := by decide +kernel
/-- a part that is firm -/
def Fm (s : sSt) (m q : Nat) : Prop := 1 ≤ q ∧ q < 256 ∧ q &&& m = q ∧ ¬ DepC (Xc s) s.2.1.1 q
def LInv (s : sSt) (m q most L : Nat) : Prop := (∀ q', q' < q → Fm s m q' → popc q' ≤ most) ∧ L < 256 ∧ most ≤ 8 ∧ (most = 0 → L = m) ∧ (1 ≤ most → (∃ q', q' < q ∧ Fm s m q' ∧ popc q' = most) ∧ ∀ c, c < 8 → (L.testBit c = true ↔ m.testBit c = true ∧ ∃ q', q' < q ∧ Fm s m q' ∧ popc q' = most ∧ q'.testBit c = false))
theorem LInv_skip {s : sSt} {m q most L : Nat} (h : LInv s m q most L) (hn : ¬ Fm s m q ∨ popc q < most) : LInv s m (q + 1) most L := by
  obtain ⟨h1, h2, h3, h4, h5⟩ := h
  have cs : ∀ q', q' < q + 1 → Fm s m q' → popc q' = most → q' < q := fun q' hq' hf hp => by
    by_cases e : q' = q
    · rw [e] at hf hp
      rcases hn with hn | hn
      · exact absurd hf hn
      · omega
    · omega
  refine ⟨fun q' hq' hf => ?_, h2, h3, h4, fun hm => ?_⟩
  · by_cases e : q' = q
    · rw [e] at hf ⊢
      rcases hn with hn | hn
      · exact absurd hf hn
      · omega
    · exact h1 q' (by omega) hf
  · obtain ⟨⟨q0, a1, a2, a3⟩, h7⟩ := h5 hm
    refine ⟨⟨q0, by omega, a2, a3⟩, fun c hc => ?_⟩
    rw [h7 c hc]
    constructor
    · rintro ⟨x1, q', x2, x3, x4, x5⟩
      exact ⟨x1, q', by omega, x3, x4, x5⟩
    · rintro ⟨x1, q', x2, x3, x4, x5⟩
      exact ⟨x1, q', cs q' x2 x3 x4, x3, x4, x5⟩
theorem LInv_same {s : sSt} {m q most L : Nat} (hm : m < 256) (h : LInv s m q most L) (hf : Fm s m q) (hp : popc q = most) : LInv s m (q + 1) most (L ||| (m &&& (q ^^^ 255))) := by
  obtain ⟨h1, h2, h3, h4, h5⟩ := h
  have m1 : 1 ≤ most := by rw [← hp]; exact popc_p1 q hf.2.1 hf.1
  obtain ⟨-, h7⟩ := h5 m1
  refine ⟨fun q' hq' hf' => ?_, Nat.or_lt_two_pow (n := 8) h2 (andn_lt hm), h3, fun q0 => absurd q0 (by omega), fun _ => ⟨⟨q, by omega, hf, hp⟩, fun c hc => ?_⟩⟩
  · by_cases e : q' = q
    · rw [e]; omega
    · exact h1 q' (by omega) hf'
  · rw [Nat.testBit_or, Bool.or_eq_true, h7 c hc, andn_bit hc, Bool.and_eq_true, Bool.not_eq_true']
    constructor
    · rintro (⟨x1, q', x2, x3, x4, x5⟩ | ⟨x1, x2⟩)
      · exact ⟨x1, q', by omega, x3, x4, x5⟩
      · exact ⟨x1, q, by omega, hf, hp, x2⟩
    · rintro ⟨x1, q', x2, x3, x4, x5⟩
      by_cases e : q' = q
      · rw [e] at x5
        exact Or.inr ⟨x1, x5⟩
      · exact Or.inl ⟨x1, q', by omega, x3, x4, x5⟩
theorem LInv_more {s : sSt} {m q most L : Nat} (hm : m < 256) (h : LInv s m q most L) (hf : Fm s m q) (hp : most < popc q) : LInv s m (q + 1) (popc q) (m &&& (q ^^^ 255)) := by
  obtain ⟨h1, h2, h3, h4, h5⟩ := h
  refine ⟨fun q' hq' hf' => ?_, andn_lt hm, popc_8 q, fun q0 => absurd q0 (by omega), fun _ => ⟨⟨q, by omega, hf, rfl⟩, fun c hc => ?_⟩⟩
  · by_cases e : q' = q
    · rw [e]; omega
    · have := h1 q' (by omega) hf'
      omega
  · rw [andn_bit hc, Bool.and_eq_true, Bool.not_eq_true']
    constructor
    · rintro ⟨x1, x2⟩
      exact ⟨x1, q, by omega, hf, rfl, x2⟩
    · rintro ⟨x1, q', x2, x3, x4, x5⟩
      by_cases e : q' = q
      · rw [e] at x5
        exact ⟨x1, x5⟩
      · have := h1 q' (by omega) x3
        omega
theorem loose_loop {fu : Nat} {s : sSt} {fs : Nat → Int32} {t0 : Nat → Int64} {m : Nat} (hs : rSt s fs) (hm : m < 256) (h4 : popc m ≤ 4) : ∀ (j q most L : Nat) (p : sPd), 1 ≤ q → q ≤ m + 1 → m + 1 - q < j → rPd p → p.2.1 = gTb s t0 s.2.1.1 → LInv s m q most L → ∃ most' L' p', lX4_looseOf_7 fu (nI m) j (nI most) (nI L) (nI q) p = some (nI L', p') ∧ rPd p' ∧ LInv s m (m + 1) most' L' := by
  have hN : s.2.1.1 ≤ 20 := hs.2.1.1
  intro j
  induction j with
  | zero => intro q most L p _ _ hj; exact absurd hj (Nat.not_lt_zero _)
  | succ j ih =>
    intro q most L p hq1 hq2 hj hp ht hI
    rw [lX4_looseOf_7]
    by_cases e : q = m + 1
    · rw [e, if_pos ((nI_ltI (by omega) (by omega)).mpr (by omega))]
      rw [e] at hI
      exact ⟨most, L, p, rfl, hp, hI⟩
    · have q256 : q < 256 := by omega
      rw [if_neg (fun y => absurd ((nI_ltI (by omega) (by omega)).mp y) (by omega)), if_neg (show ¬ (256 : Int32) ≤ nI q from nI_ge (a := q) (b := 256) q256 (by decide)), bitc_eq q256, andn_eq q256]
      simp only [Option.bind_some, nI_1]
      have hmost := hI.2.2.1
      have pc8 := popc_8 q
      have hz : nI (q &&& (m ^^^ 255)) = 0 ↔ q &&& m = q := by
        rw [← sub_iff (m := m) q256, ← nI_0]
        exact nI_eq (Nat.lt_of_lt_of_le (andn_lt q256) (by decide)) (by decide)
      by_cases sb : q &&& m = q
      · rw [if_pos (hz.mpr sb)]
        by_cases l : popc q < most
        · rw [if_pos ((nI_ltI (by omega) (by omega)).mpr l)]
          exact ih (q + 1) most L p (by omega) (by omega) (by omega) hp ht (LInv_skip hI (Or.inr l))
        · rw [if_neg (fun y => l ((nI_ltI (by omega) (by omega)).mp y))]
          have c1 := popc_p1 q q256 hq1
          have c4 := Nat.le_trans (popc_sub sb) h4
          obtain ⟨r, e1, e2, -⟩ := psol_eq (A := As s 20 q) hp q256 c1 c4 (fun i j _ _ => by rw [ht]; exact gTb_As q256 hN i j) (As_sy s 20 q)
          rw [e1]
          simp only [Option.bind_some]
          have fi := firm_iff hs q256 c1 c4
          by_cases zz : qn (As s 20 q) (popc q) = 0
          · simp only [zz, decide_true, Bool.not_true, Bool.false_eq_true, if_false]
            exact ih (q + 1) most L _ (by omega) (by omega) (by omega) e2 ht (LInv_skip hI (Or.inl (fun hf => hf.2.2.2 (fi.mp zz))))
          · simp only [zz, decide_false, Bool.not_false, if_true]
            have hf : Fm s m q := ⟨hq1, q256, sb, fun y => zz (fi.mpr y)⟩
            rw [andn_eq hm]
            by_cases g : popc q ≤ most
            · rw [if_pos (nI_le g (by omega)), nI_or]
              have eq' : popc q = most := by omega
              rw [eq']
              exact ih (q + 1) most _ _ (by omega) (by omega) (by omega) e2 ht (LInv_same hm hI hf eq')
            · rw [if_neg (nI_ge (by omega) (by omega))]
              exact ih (q + 1) (popc q) _ _ (by omega) (by omega) (by omega) e2 ht (LInv_more hm hI hf (by omega))
      · rw [if_neg (fun y => sb (hz.mp y))]
        exact ih (q + 1) most L p (by omega) (by omega) (by omega) hp ht (LInv_skip hI (Or.inl (fun hf => sb hf.2.2.1)))
/-- a cause is loose: a greatest firm part does without it -/
def Lo (s : sSt) (m rk c : Nat) : Prop := ∃ q, q < 256 ∧ q &&& m = q ∧ popc q = rk ∧ ¬ DepC (Xc s) s.2.1.1 q ∧ q.testBit c = false
theorem xor_bit {m c i : Nat} : (m ^^^ 2 ^ c).testBit i = (m.testBit i ^^ decide (c = i)) := by rw [Nat.testBit_xor, Nat.testBit_two_pow]
theorem sub_wo {q m c : Nat} (hb : m.testBit c = true) : q &&& (m ^^^ 2 ^ c) = q ↔ q &&& m = q ∧ q.testBit c = false := by
  constructor
  · intro h
    refine ⟨Nat.eq_of_testBit_eq (fun i => ?_), ?_⟩
    · rw [Nat.testBit_and]
      have := sub_bit (c := i) h
      rw [xor_bit] at this
      by_cases e : c = i
      · rw [← e, hb, Bool.and_true]
      · rw [decide_eq_false e, Bool.xor_false] at this
        revert this
        cases q.testBit i <;> cases m.testBit i <;> simp
    · have := sub_bit (c := c) h
      rw [xor_bit, hb, decide_eq_true rfl] at this
      revert this
      cases q.testBit c <;> simp
  · rintro ⟨h, h2⟩
    refine Nat.eq_of_testBit_eq (fun i => ?_)
    rw [Nat.testBit_and, xor_bit]
    have := sub_bit (c := i) h
    by_cases e : c = i
    · rw [← e, h2, Bool.false_and]
    · rw [decide_eq_false e, Bool.xor_false]
      revert this
      cases q.testBit i <;> cases m.testBit i <;> simp
theorem lo_iff {s : sSt} {m i rk rk' : Nat} {f f' : Nat → Int64} {B B' : Int} (hm : m < 256) (h4 : popc m ≤ 4) (hi : i < popc m) (hE : Elm (fun r j => Xc s r (nthB 8 m j)) s.2.1.1 (popc m) f (popc m) rk B) (hE' : Elm (fun r j => Xc s r (nthB 8 (mWo m i) j)) s.2.1.1 (popc (mWo m i)) f' (popc (mWo m i)) rk' B') : rk' = rk ↔ Lo s m rk (nthB 8 m i) := by
  obtain ⟨w1, w2, -⟩ := mWo_1 hm i
  have p1 := plN_1 m hm i (by have := popc_8 m; omega) hi
  have em' : mWo m i = m ^^^ 2 ^ nthB 8 m i := if_pos hi
  have hk4 : popc (mWo m i) ≤ 4 := by
    rw [w2]
    unfold bOf
    split <;> omega
  obtain ⟨P, a1, a2, a3, a4⟩ := rank_lo w1 hk4 hE'
  rw [em'] at a2
  obtain ⟨a5, a6⟩ := (sub_wo p1.1).mp a2
  constructor
  · intro e
    exact ⟨P, a1, a5, by rw [a3, e], a4, a6⟩
  · rintro ⟨q, b1, b2, b3, b4, b5⟩
    have u1 : rk' ≤ rk := by
      by_cases y : rk' ≤ rk
      · exact y
      · exact absurd (rank_hi hm hE a1 a5 (by omega)) a4
    have u2 : rk ≤ rk' := by
      by_cases y : rk ≤ rk'
      · exact y
      · exact absurd (rank_hi w1 hE' b1 (by rw [em']; exact (sub_wo p1.1).mpr ⟨b2, b5⟩) (by omega)) b4
    omega
theorem lN_or : ∀ a, a < 256 → ∀ c, c < 8 → lN a ||| ((1 : Int64) <<< ((nI c).toInt64 &&& 63)) = lN (a ||| 2 ^ c) := by decide +kernel
theorem sL_sB (S : gS) (w w' : Int64) (f : Nat → Int64) : sL (sB (sL S 11 w) 26 f) 11 w' = sL (sB S 26 f) 11 w' := by
  unfold sL sB
  simp only
  rw [uG_uG]
theorem find_loop {fu : Nat} (hfu : 30 ≤ fu) {s : sSt} {m rk : Nat} {f0 : Nat → Int64} {B : Int} (hm : m < 256) (hm2 : m < 2 ^ s.1.2.1) (h4 : popc m ≤ 4) (hrk : rk ≤ 4) (hE : Elm (fun r j => Xc s r (nthB 8 m j)) s.2.1.1 (popc m) f0 (popc m) rk B) {v1 : Int32} : ∀ (j i M : Nat) (S : gS), i ≤ popc m → popc m - i < j → rSt s (iA S 0) → mtk S m → M < 256 → ∃ M' S', lX11_find_70 fu v1 j (nI rk) (nI i) (sL S 11 (lN M)) = fX11_tellFinding fu (sL S' 11 (lN M')) (-9000000000000000006 : Int64) ∧ scr S S' ∧ M' < 256 ∧ ∀ c, (M'.testBit c = true ↔ M.testBit c = true ∨ ∃ i', i ≤ i' ∧ i' < popc m ∧ nthB 8 m i' = c ∧ Lo s m rk c) := by
  intro j
  induction j with
  | zero => intro i M S _ hj; exact absurd hj (Nat.not_lt_zero _)
  | succ j ih =>
    intro i M S hi hj hs hk hM
    rw [lX11_find_70, show iF (sL S 11 (lN M)) 20 = nI (popc m) from hk.1]
    by_cases e : i = popc m
    · rw [e, if_pos (nI_le (Nat.le_refl _) (by omega)), obind_eta]
      exact ⟨M, S, rfl, scr_refl S, hM, fun c => ⟨Or.inl, fun y => y.elim id (fun ⟨i', y1, y2, _⟩ => absurd y2 (by omega))⟩⟩
    · rw [if_neg (nI_ge (by omega) (by omega))]
      obtain ⟨rk', f, B', d1, d2, d3⟩ := rank_eq hfu (v1 := nI i) (i := i) (S := sL S 11 (lN M)) hs hm hm2 h4 hk (fun a ha => nI_eq (by omega) (by omega))
      have lo := lo_iff hm h4 (show i < popc m by omega) hE d3
      have p1 := plN_1 m hm i (by omega) (show i < popc m by omega)
      rw [d1]
      simp only [Option.bind_some, nI_1]
      rw [lF_sL]
      by_cases w : rk' = rk
      · rw [if_pos (show nI rk' = nI rk by rw [w]), gIx_n (show i < 4 by omega) (by decide)]
        simp only [Option.bind_some]
        rw [sL_sB, show iA (sB (sL S 11 (lN M)) 26 f) 21 i = iA S 21 i from rfl, hk.2 i (by omega), lN_or M hM _ p1.2.1]
        have M2 : M ||| 2 ^ nthB 8 m i < 256 := Nat.or_lt_two_pow (n := 8) hM (Nat.pow_lt_pow_right (by decide) p1.2.1)
        obtain ⟨M', S', g1, g2, g3, g4⟩ := ih (i + 1) (M ||| 2 ^ nthB 8 m i) (sB S 26 f) (by omega) (by omega) hs hk M2
        refine ⟨M', S', g1, scr_trans (scr_sB S (by decide) f) g2, g3, fun c => ?_⟩
        rw [g4 c, Nat.testBit_or, Nat.testBit_two_pow, Bool.or_eq_true, decide_eq_true_eq]
        constructor
        · rintro ((y | y) | ⟨i', y1, y2, y3, y4⟩)
          · exact Or.inl y
          · exact Or.inr ⟨i, Nat.le_refl _, by omega, y, by rw [← y]; exact lo.mp w⟩
          · exact Or.inr ⟨i', by omega, y2, y3, y4⟩
        · rintro (y | ⟨i', y1, y2, y3, y4⟩)
          · exact Or.inl (Or.inl y)
          · by_cases e' : i' = i
            · rw [e'] at y3
              exact Or.inl (Or.inr y3)
            · exact Or.inr ⟨i', by omega, y2, y3, y4⟩
      · rw [if_neg (fun y => w ((nI_eq (by omega) (by omega)).mp y)), sL_sB, show lN M ||| (0 : Int64) = lN M from Int64.or_zero]
        obtain ⟨M', S', g1, g2, g3, g4⟩ := ih (i + 1) M (sB S 26 f) (by omega) (by omega) hs hk hM
        refine ⟨M', S', g1, scr_trans (scr_sB S (by decide) f) g2, g3, fun c => ?_⟩
        rw [g4 c]
        constructor
        · rintro (y | ⟨i', y1, y2, y3, y4⟩)
          · exact Or.inl y
          · exact Or.inr ⟨i', by omega, y2, y3, y4⟩
        · rintro (y | ⟨i', y1, y2, y3, y4⟩)
          · exact Or.inl y
          · by_cases e' : i' = i
            · rw [e'] at y3
              rw [← y3] at y4
              exact absurd (lo.mpr y4) w
            · exact Or.inr ⟨i', by omega, y2, y3, y4⟩
/-- both loose sets are one -/
theorem loose_same {s : sSt} {m rk most L M : Nat} {f0 : Nat → Int64} {B : Int} (hm : m < 256) (h4 : popc m ≤ 4) (hE : Elm (fun r j => Xc s r (nthB 8 m j)) s.2.1.1 (popc m) f0 (popc m) rk B) (hI : LInv s m (m + 1) most L) (hM : M < 256) (hc : ∀ c, (M.testBit c = true ↔ (0 : Nat).testBit c = true ∨ ∃ i', 0 ≤ i' ∧ i' < popc m ∧ nthB 8 m i' = c ∧ Lo s m rk c)) : L = M := by
  obtain ⟨h1, h2, h3, h5, h6⟩ := hI
  obtain ⟨P, a1, a2, a3, a4⟩ := rank_lo hm h4 hE
  have hle : ∀ q, q &&& m = q → q < m + 1 := fun q hq => by
    have : q &&& m ≤ m := Nat.and_le_right
    omega
  have up : ∀ q, Fm s m q → popc q ≤ rk := fun q hf => by
    by_cases y : popc q ≤ rk
    · exact y
    · exact absurd (rank_hi hm hE hf.2.1 hf.2.2.1 (by omega)) hf.2.2.2
  have em0 : most = rk := by
    have u1 : rk ≤ most := by
      by_cases y : rk = 0
      · omega
      · have P1 : 1 ≤ P := by
          by_cases y2 : P = 0
          · rw [y2] at a3
            exact absurd (show rk = 0 by rw [← a3]; rfl) y
          · omega
        have := h1 P (hle P a2) ⟨P1, a1, a2, a4⟩
        omega
    have u2 : most ≤ rk := by
      by_cases y : most = 0
      · omega
      · obtain ⟨⟨q, b1, b2, b3⟩, -⟩ := h6 (by omega)
        rw [← b3]
        exact up q b2
    omega
  refine Nat.eq_of_testBit_eq (fun c => ?_)
  by_cases c8 : c < 8
  · have lhs : L.testBit c = true ↔ m.testBit c = true ∧ Lo s m rk c := by
      by_cases y : most = 0
      · rw [h5 y]
        refine ⟨fun w => ⟨w, 0, by decide, Nat.zero_and m, by rw [← em0, y]; rfl, ?_, Nat.zero_testBit c⟩, fun w => w.1⟩
        rintro ⟨u, ⟨j, hj, _⟩, _⟩
        exact absurd hj (Nat.not_lt_zero _)
      · rw [(h6 (by omega)).2 c c8]
        constructor
        · rintro ⟨x1, q, x2, x3, x4, x5⟩
          exact ⟨x1, q, x3.2.1, x3.2.2.1, by omega, x3.2.2.2, x5⟩
        · rintro ⟨x1, q, x2, x3, x4, x5, x6⟩
          refine ⟨x1, q, hle q x3, ⟨?_, x2, x3, x5⟩, by omega, x6⟩
          by_cases y2 : q = 0
          · rw [y2] at x4
            exact absurd (show rk = 0 by rw [← x4]; rfl) (by omega)
          · omega
    have rhs : M.testBit c = true ↔ m.testBit c = true ∧ Lo s m rk c := by
      rw [hc c, Nat.zero_testBit]
      constructor
      · rintro (y | ⟨i, -, y2, y3, y4⟩)
        · cases y
        · have p1 := plN_1 m hm i (by have := popc_8 m; omega) y2
          rw [y3] at p1
          exact ⟨p1.1, y4⟩
      · rintro ⟨y1, y2⟩
        have p2 := plN_2 m hm c c8 y1
        exact Or.inr ⟨plN m c, Nat.zero_le _, p2.1, p2.2, y2⟩
    exact Bool.eq_iff_iff.mpr (lhs.trans rhs.symm)
  · rw [bit_ge (n := 8) h2 (by omega), bit_ge (n := 8) hM (by omega)]
