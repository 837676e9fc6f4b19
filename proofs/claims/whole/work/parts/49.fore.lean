/-! Bounds; what is foretold. -/
def bd (x : Int64) (B : Int) : Prop := -B ≤ x.toInt ∧ x.toInt ≤ B
theorem bmod64 {x : Int} (h1 : -(2 : Int) ^ 63 ≤ x) (h2 : x < (2 : Int) ^ 63) : x.bmod (2 ^ 64) = x := by
  rw [Int.bmod_def]
  split <;> omega
theorem bd_add {x y : Int64} {A B : Int} (hx : bd x A) (hy : bd y B) (h : A + B < 2 ^ 63) : bd (x + y) (A + B) := by
  obtain ⟨a1, a2⟩ := hx
  obtain ⟨b1, b2⟩ := hy
  unfold bd
  rw [Int64.toInt_add, bmod64 (by omega) (by omega)]
  omega
theorem bd_sub {x y : Int64} {A B : Int} (hx : bd x A) (hy : bd y B) (h : A + B < 2 ^ 63) : bd (x - y) (A + B) := by
  obtain ⟨a1, a2⟩ := hx
  obtain ⟨b1, b2⟩ := hy
  unfold bd
  rw [Int64.toInt_sub, bmod64 (by omega) (by omega)]
  omega
theorem abs_mul_le {x y A B : Int} (h1 : -A ≤ x) (h2 : x ≤ A) (h3 : -B ≤ y) (h4 : y ≤ B) : -(A * B) ≤ x * y ∧ x * y ≤ A * B := by
  have hx : x.natAbs ≤ A.toNat := by omega
  have hy : y.natAbs ≤ B.toNat := by omega
  have hm := Nat.mul_le_mul hx hy
  rw [← Int.natAbs_mul] at hm
  have e : ((A.toNat * B.toNat : Nat) : Int) = A * B := by
    rw [Int.natCast_mul, Int.toNat_of_nonneg (by omega), Int.toNat_of_nonneg (by omega)]
  have hm2 : ((x * y).natAbs : Int) ≤ A * B := by
    rw [← e]
    exact Int.ofNat_le.mpr hm
  omega
theorem bd_mul {x y : Int64} {A B : Int} (hx : bd x A) (hy : bd y B) (h : A * B < 2 ^ 63) : bd (x * y) (A * B) := by
  obtain ⟨c1, c2⟩ := abs_mul_le hx.1 hx.2 hy.1 hy.2
  unfold bd
  rw [Int64.toInt_mul, bmod64 (by omega) (by omega)]
  exact ⟨c1, c2⟩
theorem bd_le {x : Int64} {A B : Int} (hx : bd x A) (h : A ≤ B) : bd x B := ⟨by have := hx.1; omega, by have := hx.2; omega⟩
theorem bd_32 {x : Int32} {B : Int} (h1 : -B ≤ x.toInt) (h2 : x.toInt ≤ B) : bd x.toInt64 B := by
  unfold bd
  rw [Int32.toInt_toInt64]
  exact ⟨h1, h2⟩
theorem bd_0 {B : Int} (h : 0 ≤ B) : bd 0 B := by
  have e : (0 : Int64).toInt = 0 := rfl
  unfold bd
  rw [e]
  omega
set_option maxRecDepth 100000 in
theorem sh_d1 : ∀ s, s < 36 → ∀ a, a < 4 → ∀ b, b < 4 → (-3 ≤ (shF 1 (nI a) (nI b) (nI s)).toInt ∧ (shF 1 (nI a) (nI b) (nI s)).toInt ≤ 3) ∧ (-3 ≤ (shF 5 (nI a) (nI b) (nI s)).toInt ∧ (shF 5 (nI a) (nI b) (nI s)).toInt ≤ 3) := by decide +kernel
set_option maxRecDepth 100000 in
theorem sh_d2 : ∀ s, s < 36 → ∀ a, a < 5 → ∀ b, b < 5 → (-3 ≤ (shF 2 (nI a - 2) (nI b - 2) (nI s)).toInt ∧ (shF 2 (nI a - 2) (nI b - 2) (nI s)).toInt ≤ 3) ∧ (-3 ≤ (shF 3 (nI a - 2) (nI b - 2) (nI s)).toInt ∧ (shF 3 (nI a - 2) (nI b - 2) (nI s)).toInt ≤ 3) ∧ (-3 ≤ (shF 4 (nI a - 2) (nI b - 2) (nI s)).toInt ∧ (shF 4 (nI a - 2) (nI b - 2) (nI s)).toInt ≤ 3) := by decide +kernel
theorem wit_22 {a : Int32} (h : wit a (-2) 2 = true) : ∃ n, n < 5 ∧ a = nI n - 2 := by
  simp only [wit, Bool.and_eq_true, decide_eq_true_eq, i32_le] at h
  have e1 : (-2 : Int32).toInt = -2 := rfl
  have e2 : (2 : Int32).toInt = 2 := rfl
  rw [e1, e2] at h
  refine ⟨(a.toInt + 2).toNat, by omega, ?_⟩
  rw [i32_eq, show nI (a.toInt + 2).toNat - 2 = nI (a.toInt + 2).toNat - nI 2 from rfl, pk_sub_toInt (by omega) (by decide)]
  omega
theorem shw_bd {s : sSt} {f : Nat → Int32} (h : rSt s f) (c x : Int32) : bd (shw s.1.1 s.1.2.1 s.1.2.2.1 s.1.2.2.2 c x).toInt64 3 := by
  obtain ⟨⟨a1, a2, a3⟩, -⟩ := h
  unfold shw
  by_cases hp : (pin c s.1.2.1 && wit x 0 35) = true
  · rw [if_pos hp]
    rw [Bool.and_eq_true] at hp
    obtain ⟨j, hj, rfl⟩ := pin_ex hp.1 (by omega)
    obtain ⟨k, hk, rfl⟩ := wit_st hp.2
    rw [nI_clamp (by omega)]
    obtain ⟨-, -, -, hw⟩ := a3 j hj
    generalize s.1.2.2.1 j = a at *
    generalize s.1.2.2.2 j = b at *
    generalize s.1.1 j = kd at *
    rcases kd_cases hw with rfl | ⟨hk1, ha, hb⟩ | ⟨hk2, ha, hb⟩
    · exact bd_32 (x := 1) (by decide) (by decide)
    · obtain ⟨n, hn, rfl⟩ := wit_nat (m := 3) 3 rfl (by decide) ha
      have hb' : wit b 0 3 = true := by
        simp only [wit, Bool.and_eq_true, decide_eq_true_eq, i32_le] at hb ⊢
        have e1 : (1 : Int32).toInt = 1 := rfl
        have e0 : (0 : Int32).toInt = 0 := rfl
        exact ⟨by omega, hb.2⟩
      obtain ⟨m, hm, rfl⟩ := wit_nat (m := 3) 3 rfl (by decide) hb'
      have q := sh_d1 k hk n (by omega) m (by omega)
      rcases hk1 with rfl | rfl
      · exact bd_32 q.1.1 q.1.2
      · exact bd_32 q.2.1 q.2.2
    · obtain ⟨n, hn, rfl⟩ := wit_22 ha
      obtain ⟨m, hm, rfl⟩ := wit_22 hb
      have q := sh_d2 k hk n hn m hm
      rcases hk2 with rfl | rfl | rfl
      · exact bd_32 q.1.1 q.1.2
      · exact bd_32 q.2.1.1 q.2.1.2
      · exact bd_32 q.2.2.1 q.2.2.2
  · rw [if_neg hp]
    exact bd_0 (by decide)
/-! a sum over the model's causes, in two ways -/
def foS (G : Nat → Int64) : Nat → Nat → Int64 → Int64
  | 0, _, acc => acc
  | m + 1, i, acc => foS G m (i + 1) (acc + G i)
theorem foS_ext {F G : Nat → Int64} : ∀ (m i : Nat) (p : Int64), (∀ t, i ≤ t → t < i + m → F t = G t) → foS F m i p = foS G m i p
  | 0, _, _, _ => rfl
  | m + 1, i, p, h => by
    rw [foS, foS, h i (Nat.le_refl _) (by omega)]
    exact foS_ext m (i + 1) _ (fun t h1 h2 => h t (by omega) (by omega))
theorem foS_sh (G : Nat → Int64) : ∀ (m i : Nat) (p : Int64), foS G m (i + 1) p = foS (fun t => G (t + 1)) m i p
  | 0, _, _ => rfl
  | m + 1, i, p => by
    rw [foS, foS]
    exact foS_sh G m (i + 1) _
def pcN : Nat → Nat → Nat
  | 0, _ => 0
  | n + 1, cs => (if cs.testBit (8 - (n + 1)) then 1 else 0) + pcN n cs
def snF (g : Nat → Int64) (cs : Nat) : Nat → Int64 → Int64
  | 0, acc => acc
  | n + 1, acc => snF g cs n (if cs.testBit (8 - (n + 1)) then acc + g (8 - (n + 1)) else acc)
theorem foS_nth (g : Nat → Int64) (cs : Nat) : ∀ (n : Nat) (acc : Int64), foS (fun i => g (nthB n cs i)) (pcN n cs) 0 acc = snF g cs n acc
  | 0, acc => rfl
  | n + 1, acc => by
    rw [pcN, snF]
    by_cases hb : cs.testBit (8 - (n + 1)) = true
    · rw [if_pos hb, if_pos hb, Nat.add_comm 1, foS, foS_sh]
      have e0 : nthB (n + 1) cs 0 = 8 - (n + 1) := by rw [nthB, if_pos hb, if_pos rfl]
      rw [e0, ← foS_nth g cs n]
      refine foS_ext _ _ _ (fun t _ _ => ?_)
      show g (nthB (n + 1) cs (t + 1)) = g (nthB n cs t)
      rw [nthB, if_pos hb, if_neg (by omega), Nat.add_sub_cancel]
    · rw [if_neg hb, if_neg hb, Nat.zero_add, ← foS_nth g cs n]
      refine foS_ext _ _ _ (fun t _ _ => ?_)
      show g (nthB (n + 1) cs t) = g (nthB n cs t)
      rw [nthB, if_neg hb]
set_option maxRecDepth 100000 in
theorem popc_pcN : ∀ cs, cs < 256 → popc cs = pcN 8 cs := by decide +kernel
set_option maxRecDepth 100000 in
theorem nth_bit : ∀ cs, cs < 256 → ∀ i, i < 8 → i < popc cs → cs.testBit (nthB 8 cs i) = true := by decide +kernel
theorem bit_lt {cs n c : Nat} (h : cs < 2 ^ n) (hb : cs.testBit c = true) : c < n := by
  by_cases q : c < n
  · exact q
  · have := Nat.testBit_lt_two_pow (x := cs) (i := c) (Nat.lt_of_lt_of_le h (Nat.pow_le_pow_right (by decide) (by omega)))
    rw [this] at hb
    cases hb
theorem abIn_sn (cs : Nat) (ab : Nat → Int64) (kd : Nat → Int32) (n : Nat) (fa fb : Nat → Int32) (s : Int32) : abIn cs ab kd n fa fb s 8 = snF (fun c => ab c * (shw kd n fa fb (nI c) s).toInt64) cs 8 0 := by
  have e : ∀ c, c < 8 → szHas cs (nI c) = cs.testBit c := fun c hc => szHas_lt hc
  simp only [abIn, snF, e 0 (by decide), e 1 (by decide), e 2 (by decide), e 3 (by decide), e 4 (by decide), e 5 (by decide), e 6 (by decide), e 7 (by decide)]
theorem fore_loop {fu : Nat} {S : gS} {n : Nat} {G : Nat → Int64} (hn : n ≤ 4) (h15 : iF S 15 = nI n) (x : Int32) (hG : ∀ i, i < n → ∃ a : Int64, fX11_shown fu S (iA S 16 i) x = some a ∧ a * lA S 17 i = G i) : ∀ (j i : Nat) (p : Int64), i ≤ n → n - i < j → lX11_foretoldAt_5 fu S x j p (nI i) = some (foS G (n - i) i p) := by
  intro j
  induction j with
  | zero => intro i p _ hj; exact absurd hj (Nat.not_lt_zero _)
  | succ j ih =>
    intro i p hi hj
    rw [lX11_foretoldAt_5, h15]
    by_cases e : i = n
    · subst e
      rw [if_pos (nI_le (Nat.le_refl _) (by omega)), Nat.sub_self]
      rfl
    · obtain ⟨a, h1, h2⟩ := hG i (by omega)
      rw [if_neg (nI_ge (by omega) (by omega)), gIx_n (by omega) (by decide)]
      simp only [Option.bind_some]
      rw [h1]
      simp only [Option.bind_some]
      rw [h2, nI_1, show n - i = (n - (i + 1)) + 1 by omega, foS]
      exact ih (i + 1) _ (by omega) (by omega)
theorem fore_eq {fu : Nat} (hfu : 10 ≤ fu) {s : sSt} {z : sSz} {S : gS} (hs : rSt s (iA S 0)) (hcs : z.2.2.1 < 256) (hf : fresh s z (iF S 14) (iF S 15) (iA S 16) (lA S 17) (lF S 18) (lF S 19)) {x : Int32} (hx : wit x 0 35 = true) : fX11_foretoldAt fu S x = some (abIn z.2.2.1 z.2.2.2.1 s.1.1 s.1.2.1 s.1.2.2.1 s.1.2.2.2 x 8) := by
  obtain ⟨g0, g1, g2, -, -, g5, g6, g7, -⟩ := hf
  unfold fX11_foretoldAt
  have hG : ∀ i, i < popc z.2.2.1 → ∃ a : Int64, fX11_shown fu S (iA S 16 i) x = some a ∧ a * lA S 17 i = (fun i => (fun c => z.2.2.2.1 c * (shw s.1.1 s.1.2.1 s.1.2.2.1 s.1.2.2.2 (nI c) x).toInt64) (nthB 8 z.2.2.1 i)) i := fun i hi => by
    obtain ⟨q1, q2⟩ := g2 i hi
    rw [q1, q2]
    have hb := nth_bit _ hcs i (by omega) hi
    refine ⟨_, shown_eq hs fu (bit_lt g7 hb) hx, ?_⟩
    exact Int64.mul_comm _ _
  have := fore_loop (fu := fu) g6 g1 x hG fu 0 0 (by omega) (by omega)
  rw [nI_0] at this
  rw [this, Nat.sub_zero, popc_pcN _ hcs, foS_nth (fun c => z.2.2.2.1 c * (shw s.1.1 s.1.2.1 s.1.2.2.1 s.1.2.2.2 (nI c) x).toInt64), ← abIn_sn]
theorem abIn_bd {s : sSt} {f : Nat → Int32} (h : rSt s f) {cs : Nat} {ab : Nat → Int64} (hab : ∀ c, c < 8 → bd (ab c) (2 ^ 45)) (x : Int32) : ∀ n : Nat, n ≤ 8 → bd (abIn cs ab s.1.1 s.1.2.1 s.1.2.2.1 s.1.2.2.2 x n) ((n : Int) * 2 ^ 47)
  | 0, _ => bd_0 (by decide)
  | n + 1, hn => by
    have ih := abIn_bd h (cs := cs) hab x n (by omega)
    rw [abIn]
    by_cases q : szHas cs (nI n) = true
    · rw [if_pos q]
      have hm := bd_mul (hab n (by omega)) (shw_bd h (nI n) x) (by decide)
      exact bd_le (bd_add ih hm (by omega)) (by omega)
    · rw [if_neg q]
      exact bd_le ih (by omega)
theorem abIn_bd8 {s : sSt} {f : Nat → Int32} (h : rSt s f) {cs : Nat} {ab : Nat → Int64} (hab : ∀ c, c < 8 → bd (ab c) (2 ^ 45)) (x : Int32) : bd (abIn cs ab s.1.1 s.1.2.1 s.1.2.2.1 s.1.2.2.2 x 8) (2 ^ 50) := bd_le (abIn_bd h hab x 8 (by decide)) (by decide)
theorem fresh_bd {s : sSt} {z : sSz} {i14 i15 : Int32} {f16 : Nat → Int32} {f17 : Nat → Int64} {l18 l19 : Int64} (hf : fresh s z i14 i15 f16 f17 l18 l19) : (∀ c, c < 8 → bd (z.2.2.2.1 c) (2 ^ 45)) ∧ bd z.2.2.2.2.1 (2 ^ 35) ∧ 0 < z.2.2.2.2.1.toInt ∧ z.2.2.2.2.1.toInt < 2 ^ 35 := by
  obtain ⟨-, -, -, -, -, -, -, -, g3, g4, g7, -⟩ := hf
  refine ⟨fun c hc => ?_, ?_, g3, g4⟩
  · have := g7 c hc
    exact ⟨by omega, by omega⟩
  · exact ⟨by omega, by omega⟩
theorem bd_min {x : Int64} {B : Int} (h : bd x B) (hB : B < 2 ^ 63) : -(2 : Int) ^ 63 < x.toInt := by
  have := h.1
  omega
theorem p_foretold {fu : Nat} (hfu : 80 ≤ fu) : St_foretold fu := by
  intro T S c h hc v0 v1
  unfold fX10_foretold fX11_foretold jX10_foretold_18
  rcases why_cases h fu with ⟨e1, e2⟩ | ⟨e1, e2⟩ | ⟨e1, e2, hcs, hf⟩
  · rw [e1, e2]
    simp only [Option.bind_some, obind_eta]
    rw [if_neg (by decide), if_neg (by decide)]
    exact ref2 h hc
  · rw [e1, e2]
    simp only [Option.bind_some, obind_eta]
    rw [if_neg (by decide), if_neg (by decide)]
    exact ref7 h hc
  · have h1 := h.1
    rw [e1, e2, isState_eq]
    obtain ⟨b1, b2, b3, b4⟩ := fresh_bd hf
    simp only [Option.bind_some, if_true, obind_eta, fX10_isState, fX6_below, fX2_lowest]
    cases hw : wit v0 0 35
    · simp only [Bool.false_eq_true, if_false]
      rw [if_neg (by decide)]
      exact ref1 h hc
    · simp only [if_true]
      have ha : fX6_aboveIn T.2.2.2.2.2.1 T.1.1 v0 = some (abIn T.2.2.2.2.2.1.2.2.1 T.2.2.2.2.2.1.2.2.2.1 T.1.1.1 T.1.1.2.1 T.1.1.2.2.1 T.1.1.2.2.2 v0 8) := if_pos ⟨hcs, h1.1.1⟩
      rw [ha, fore_eq (by omega) h1 hcs hf hw]
      simp only [Option.bind_some]
      rw [hf.2.2.2.1, part_lows hfu (bd_min (abIn_bd8 h1 b1 v0) (by decide)) b3 b4]
      exact rOk_same h _
theorem p_left {fu : Nat} (hfu : 80 ≤ fu) : St_left fu := by
  intro T S c h hc v0 v1
  unfold fX10_left fX11_left jX10_left_25
  rcases why_cases h fu with ⟨e1, e2⟩ | ⟨e1, e2⟩ | ⟨e1, e2, hcs, hf⟩
  · rw [e1, e2]
    simp only [Option.bind_some, obind_eta]
    rw [if_neg (by decide), if_neg (by decide)]
    exact ref2 h hc
  · rw [e1, e2]
    simp only [Option.bind_some, obind_eta]
    rw [if_neg (by decide), if_neg (by decide)]
    exact ref7 h hc
  · have h1 := h.1
    obtain ⟨-, ⟨r1, r2, r3⟩, -⟩ := id h1
    rw [e1, e2, isReading_eq h1, phas_eq (by omega)]
    obtain ⟨b1, b2, b3, b4⟩ := fresh_bd hf
    simp only [Option.bind_some, if_true, obind_eta, fX6_below, fX2_lowest]
    cases hp : pin v0 T.1.2.1.1
    · simp only [Bool.false_eq_true, if_false]
      rw [if_neg (by decide)]
      exact ref1 h hc
    · obtain ⟨k, hk, rfl⟩ := pin_ex hp (by omega)
      simp only [if_true]
      obtain ⟨q1, q2, q3, q4⟩ := r3 k hk
      have f1 : fX3_first 20 T.1.2.1 (nI k) = some (T.1.2.1.2.1 k) := by rw [fX3_first, if_pos ⟨r1, by decide⟩, pget_lt hk (by omega)]
      have f2 : fX3_second 20 T.1.2.1 (nI k) = some (T.1.2.1.2.2 k) := by rw [fX3_second, if_pos ⟨r1, by decide⟩, pget_lt hk (by omega)]
      have ha : fX6_aboveIn T.2.2.2.2.2.1 T.1.1 (T.1.2.1.2.1 k) = some (abIn T.2.2.2.2.2.1.2.2.1 T.2.2.2.2.2.1.2.2.2.1 T.1.1.1 T.1.1.2.1 T.1.1.2.2.1 T.1.1.2.2.2 (T.1.2.1.2.1 k) 8) := if_pos ⟨hcs, h1.1.1⟩
      rw [f1, f2]
      simp only [Option.bind_some]
      rw [ha, gIx_a (a := 52) 52 rfl (by omega) (by decide), gIx_a (a := 32) 32 rfl (by omega) (by decide)]
      simp only [Option.bind_some]
      rw [q1, q2, fore_eq (by omega) h1 hcs hf q3]
      simp only [Option.bind_some]
      have hr : bd (T.1.2.1.2.2 k).toInt64 300 := by
        simp only [wit, Bool.and_eq_true, decide_eq_true_eq, i32_le] at q4
        exact bd_32 q4.1 q4.2
      have hb := bd_sub (bd_mul hr b2 (by decide)) (abIn_bd8 h1 (cs := T.2.2.2.2.2.1.2.2.1) b1 (T.1.2.1.2.1 k)) (by decide)
      rw [hf.2.2.2.1, part_lows hfu (bd_min hb (by decide)) b3 b4]
      exact rOk_same h _
/-! papers -/
theorem noPaper_cases {T : sWB} {S : gS} {c fu : Nat} (h : rR T S c) (hfu : 40 ≤ fu) : (fX10_whyNoPaper fu T = some 2 ∧ fX11_noWorst fu S = some (-9000000000000000002)) ∨ (fX10_whyNoPaper fu T = some 7 ∧ fX11_noWorst fu S = some (-9000000000000000007)) ∨ (fX10_whyNoPaper fu T = some 6 ∧ fX11_noWorst fu S = some (-9000000000000000006)) ∨ (fX10_whyNoPaper fu T = some 0 ∧ fX11_noWorst fu S = some 0 ∧ T.2.2.2.2.2.1.2.2.1 < 256 ∧ fresh T.1 T.2.2.2.2.2.1 (iF S 14) (iF S 15) (iA S 16) (lA S 17) (lF S 18) (lF S 19) ∧ 0 < cnt T.1.2.2.2.1 36) := by
  unfold fX10_whyNoPaper fX11_noWorst
  rcases why_cases h fu with ⟨e1, e2⟩ | ⟨e1, e2⟩ | ⟨e1, e2, hcs, hf⟩
  · rw [e1, e2]
    exact Or.inl ⟨rfl, rfl⟩
  · rw [e1, e2]
    exact Or.inr (Or.inl ⟨rfl, rfl⟩)
  · rw [e1, e2, spans_eq h.1 hfu]
    simp only [Option.bind_some, if_true, fX7_howMany]
    have hle := cnt_le T.1.2.2.2.1 36
    by_cases q : cnt T.1.2.2.2.1 36 = 0
    · rw [q, if_pos nI_0, if_pos nI_0]
      exact Or.inr (Or.inr (Or.inl ⟨rfl, rfl⟩))
    · rw [if_neg (nI_ne0 (by omega) (by omega)), if_neg (nI_ne0 (by omega) (by omega))]
      exact Or.inr (Or.inr (Or.inr ⟨rfl, rfl, hcs, hf, by omega⟩))
theorem paper_loop {T : sWB} {S : gS} {c fu : Nat} (h : rR T S c) (hfu : 10 ≤ fu) (hcs : T.2.2.2.2.2.1.2.2.1 < 256) (hf : fresh T.1 T.2.2.2.2.2.1 (iF S 14) (iF S 15) (iA S 16) (lA S 17) (lF S 18) (lF S 19)) : ∀ (j k : Nat), k ≤ 36 → 36 - k < j → ∃ v : Int64, lX10_paper_17 fu j (nI k) T = some (v, T) ∧ lX11_paper_20 fu j (nI k) S = some (v, S) := by
  intro j
  induction j with
  | zero => intro k _ hj; exact absurd hj (Nat.not_lt_zero _)
  | succ j ih =>
    intro k hk hj
    have h1 := h.1
    rw [lX10_paper_17, lX11_paper_20]
    by_cases e : k = 36
    · subst e
      rw [if_pos (by decide), if_pos (by decide)]
      exact ⟨1, rfl, rfl⟩
    · have hn : ¬ (36 : Int32) ≤ nI k := nI_ge (b := 36) (by omega) (by decide)
      obtain ⟨-, -, -, d⟩ := id h1
      obtain ⟨d1, d2, d3, d4⟩ := d k (by omega)
      rw [if_neg hn, if_neg hn, hasSpan_eq h1 fu (by omega), nI_1]
      simp only [Option.bind_some, fX7_has]
      rw [spHas_lt (by omega)]
      cases hb : T.1.2.2.2.1 k
      · simp only [Bool.false_eq_true, if_false]
        exact ih (k + 1) (by omega) (by omega)
      · simp only [if_true]
        obtain ⟨q1, q2⟩ := d4 hb
        have hx : wit (nI k) 0 35 = true := st_ok (by omega)
        have ha : fX6_aboveIn T.2.2.2.2.2.1 T.1.1 (nI k) = some (abIn T.2.2.2.2.2.1.2.2.1 T.2.2.2.2.2.1.2.2.2.1 T.1.1.1 T.1.1.2.1 T.1.1.2.2.1 T.1.1.2.2.2 (nI k) 8) := if_pos ⟨hcs, h1.1.1⟩
        rw [ha, fore_eq hfu h1 hcs hf hx, gIx_a (a := 88) 88 rfl (by omega) (by decide), gIx_a (a := 124) 124 rfl (by omega) (by decide)]
        simp only [Option.bind_some, fX6_below]
        generalize abIn T.2.2.2.2.2.1.2.2.1 T.2.2.2.2.2.1.2.2.2.1 T.1.1.1 T.1.1.2.1 T.1.1.2.2.1 T.1.1.2.2.2 (nI k) 8 = A
        have hh : fX7_holds T.1.2.2.2 (nI k) A T.2.2.2.2.2.1.2.2.2.2.1 = some (decide ((T.1.2.2.2.2.1 k).toInt64 * T.2.2.2.2.2.1.2.2.2.2.1 ≤ A) && decide (A ≤ (T.1.2.2.2.2.2 k).toInt64 * T.2.2.2.2.2.1.2.2.2.2.1)) := by
          unfold fX7_holds
          rw [gIx_n (show k < 36 by omega) (by decide)]
          simp only [Option.bind_some]
          rw [hb, Bool.true_and]
        rw [hh, hf.2.2.2.1, q1, q2]
        simp only [Option.bind_some]
        have hs1 : (nI k - 1000).toInt64 = (nI k).toInt64 - 1000 := by
          rw [show nI k - 1000 = nI k - nI 1000 from rfl, i64_eq, Int32.toInt_toInt64, pk_sub_toInt (by omega) (by decide), Int64.toInt_sub, Int32.toInt_toInt64, nI_toInt (by omega), show (1000 : Int64).toInt = 1000 from rfl, bmod64 (by omega) (by omega)]
          rfl
        by_cases c1 : A < (T.1.2.2.2.2.1 k).toInt64 * T.2.2.2.2.2.1.2.2.2.2.1
        · rw [if_pos c1, leL_f c1, Bool.false_and, if_neg (by decide), hs1]
          exact ⟨_, rfl, rfl⟩
        · rw [if_neg c1, leL_t c1, Bool.true_and]
          by_cases c2 : A ≤ (T.1.2.2.2.2.2 k).toInt64 * T.2.2.2.2.2.1.2.2.2.2.1
          · rw [if_pos c2, decide_eq_true c2, if_pos rfl]
            exact ih (k + 1) (by omega) (by omega)
          · rw [if_neg c2, decide_eq_false c2, if_neg (by decide), hs1]
            exact ⟨_, rfl, rfl⟩
theorem p_paper {fu : Nat} (hfu : 80 ≤ fu) : St_paper fu := by
  intro T S c h hc
  unfold fX10_paper fX11_paper
  rcases noPaper_cases h (fu := fu) (by omega) with ⟨e1, e2⟩ | ⟨e1, e2⟩ | ⟨e1, e2⟩ | ⟨e1, e2, hcs, hf, hn⟩
  · rw [e1, e2]
    simp only [Option.bind_some, obind_eta]
    rw [if_neg (by decide), if_neg (by decide)]
    exact ref2 h hc
  · rw [e1, e2]
    simp only [Option.bind_some, obind_eta]
    rw [if_neg (by decide), if_neg (by decide)]
    exact ref7 h hc
  · rw [e1, e2]
    simp only [Option.bind_some, obind_eta]
    rw [if_neg (by decide), if_neg (by decide)]
    exact ref6 h hc
  · rw [e1, e2]
    simp only [Option.bind_some, if_true]
    obtain ⟨v, p1, p2⟩ := paper_loop h (fu := fu) (by omega) hcs hf fu 0 (by omega) (by omega)
    rw [nI_0] at p1 p2
    rw [p1, p2]
    exact rOk_same h _
