theorem ringC (a s l p q t : Int64) : a + (q * p * s + 0) * l = (a + s * (l * p * q)) + 0 * t := by grind
theorem ringC0 (a s l t : Int64) : a + (0 + 0) * l = (a + s * 0) + 0 * t := by simp
theorem tl0 : (0 : Int32).toInt64 = 0 := rfl
theorem mend_one {fu : Nat} (hfu : 10 ≤ fu) {s : sSt} {z : sSz} {S : gS} (hs : rSt s (iA S 0)) (hcs : z.2.2.1 < 256) (hf : fresh s z (iF S 14) (iF S 15) (iA S 16) (lA S 17) (lF S 18) (lF S 19)) {i : Nat} (hi : i < s.2.2.1.1) (t : Int32) {x : Int32} (hx : wit x 0 35 = true) (a y : Int64) : ∃ b c : Int64, fX11_mended fu S (nI i) t x = some b ∧ fX11_mended fu S (-1) 0 x = some c ∧ a + (b + c) * lF S 18 = (a + t.toInt64 * stIn z.2.2.1 z.2.2.2.2.1 s.1.1 s.1.2.1 s.1.2.2.1 s.1.2.2.2 s.2.2.1.1 s.2.2.1.2.1 s.2.2.1.2.2 x (nI i)) + (0 : Int32).toInt64 * y := by
  refine ⟨_, 0, mended_eq hfu hs hcs hf hi t hx, mended_no _ _ _ _, ?_⟩
  have h8 := hs.2.2.1.1
  rw [stIn_eq h8 hi, hf.2.2.2.1, tl0]
  by_cases p : szHas z.2.2.1 (s.2.2.1.2.1 i) = true
  · rw [if_pos p, if_pos p]
    exact ringC _ _ _ _ _ _
  · rw [if_neg p, if_neg p]
    exact ringC0 _ _ _ _
def xrF (X : Nat → Nat → Int64) (m : Int32) (k : Nat) : Int64 := if m = -1 then 0 else X m.toNatClampNeg k
def vF (A : Nat → Int64) (X : Nat → Nat → Int64) (m s n t : Int32) (k : Nat) : Int64 := (A k + s.toInt64 * xrF X m k) + t.toInt64 * xrF X n k
theorem nI_nm1 {i : Nat} (h : i < 2 ^ 31) : ¬ nI i = -1 := fun q => by
  rw [i32_eq, nI_toInt h] at q
  have : (-1 : Int32).toInt = -1 := rfl
  omega
theorem xr_n {X : Nat → Nat → Int64} {i k : Nat} (h : i < 2 ^ 31) : xrF X (nI i) k = X i k := by rw [xrF, if_neg (nI_nm1 h), nI_clamp h]
theorem xr_0 {X : Nat → Nat → Int64} {k : Nat} : xrF X (-1) k = 0 := if_pos rfl
theorem mul00 (a x y : Int64) : (a + 0 * x) + 0 * y = a := by simp
theorem bd_self {x : Int64} {B C : Int} (h : bd x B) (hc : B ≤ C) : bd x C := bd_le h hc
theorem p_best {fu : Nat} (hfu : 80 ≤ fu) : St_best fu := by
  intro T S c h hc
  unfold fX10_best fX11_best
  rcases noPaper_cases h (fu := fu) (by omega) with ⟨e1, e2⟩ | ⟨e1, e2⟩ | ⟨e1, e2⟩ | ⟨e1, e2, hcs, hf, hn⟩
  · rw [e1, e2]
    simp only [Option.bind_some, obind_eta]
    rw [if_neg (by decide), if_neg (by decide)]
    exact ref2 h hc
  · rw [e1, e2]
    simp only [Option.bind_some, obind_eta]
    rw [if_neg (by decide), if_neg (by decide)]
    exact ref7 h hc
  · rw [e1, e2]
    simp only [Option.bind_some, obind_eta]
    rw [if_neg (by decide), if_neg (by decide)]
    exact ref6 h hc
  · rw [e1, e2]
    simp only [Option.bind_some, if_true]
    have h1 := h.1
    obtain ⟨⟨a1, -⟩, -, ⟨m1, m2, m3⟩, -⟩ := id h1
    obtain ⟨b1, b2, b3, b4⟩ := fresh_bd hf
    generalize hA : (fun k => abIn T.2.2.2.2.2.1.2.2.1 T.2.2.2.2.2.1.2.2.2.1 T.1.1.1 T.1.1.2.1 T.1.1.2.2.1 T.1.1.2.2.2 (nI k) 8) = A
    generalize hX : (fun i k => stIn T.2.2.2.2.2.1.2.2.1 T.2.2.2.2.2.1.2.2.2.2.1 T.1.1.1 T.1.1.2.1 T.1.1.2.2.1 T.1.1.2.2.2 T.1.2.2.1.1 T.1.2.2.1.2.1 T.1.2.2.1.2.2 (nI k) (nI i)) = X
    have hA' : ∀ k, A k = abIn T.2.2.2.2.2.1.2.2.1 T.2.2.2.2.2.1.2.2.2.1 T.1.1.1 T.1.1.2.1 T.1.1.2.2.1 T.1.1.2.2.2 (nI k) 8 := fun k => by rw [← hA]
    have hX' : ∀ i k, X i k = stIn T.2.2.2.2.2.1.2.2.1 T.2.2.2.2.2.1.2.2.2.2.1 T.1.1.1 T.1.1.2.1 T.1.1.2.2.1 T.1.1.2.2.2 T.1.2.2.1.1 T.1.2.2.1.2.1 T.1.2.2.1.2.2 (nI k) (nI i) := fun i k => by rw [← hX]
    have hAb : ∀ k, bd (A k) (2 ^ 50) := fun k => by rw [hA']; exact abIn_bd8 h1 b1 (nI k)
    have hXb : ∀ i k, i < T.1.2.2.1.1 → bd (X i k) (2 ^ 45) := fun i k hi => by rw [hX', stIn_eq m1 hi]; exact stIn_bd h1 b2 hi (nI k)
    obtain ⟨M, q1, q2⟩ := pr_eq (fu := fu) (by omega) (st := T.1) (z := T.2.2.2.2.2.1) (A := A) (X := X) m1 (fun k _ => (if_pos ⟨hcs, a1⟩ : fX6_aboveIn T.2.2.2.2.2.1 T.1.1 (nI k) = _).trans (congrArg some (hA' k).symm)) (fun k i _ _ => (if_pos ⟨hcs, a1, m1⟩ : fX6_stepIn T.2.2.2.2.2.1 T.1 (nI k) (nI i) = _).trans (congrArg some (hX' i k).symm)) T.2.2.2.2.2.2.2.1
    have hxb : ∀ m k, (m = -1 ∨ ∃ i, i < T.1.2.2.1.1 ∧ m = nI i) → bd (xrF X m k) (2 ^ 45) := fun m k hm => by
      rcases hm with rfl | ⟨i, hi, rfl⟩
      · rw [xr_0]; exact bd_0 (by decide)
      · rw [xr_n (by omega)]; exact hXb i k hi
    have hVb : ∀ m s n t k, wit s (-3) 3 = true → wit t (-3) 3 = true → (m = -1 ∨ ∃ i, i < T.1.2.2.1.1 ∧ m = nI i) → (n = -1 ∨ ∃ i, i < T.1.2.2.1.1 ∧ n = nI i) → bd (vF A X m s n t k) (2 ^ 60) := fun m s n t k hs ht hm hn => bd_le (bd_add (bd_add (hAb k) (bd_mul (steps_bd hs) (hxb m k hm) (by decide)) (by decide)) (bd_mul (steps_bd ht) (hxb n k hn) (by decide)) (by decide)) (by decide)
    have hfo : ∀ k, k < 36 → fX11_foretoldAt fu S (nI k) = some (A k) := fun k hk => by rw [hA']; exact fore_eq (by omega) h1 hcs hf (st_ok hk)
    have w0 : wit (0 : Int32) (-3) 3 = true := by decide
    -- the three kinds of tries
    have t1 : tryOk fu M S (fun m s n t => wstF (vF A X m s n t) T.1.2.2.2.1 36) (fun m s n t => ((((10000 : Int64) * ((m + 1).toInt64)) + ((1000 : Int64) * ((s + 3).toInt64))) + ((10 : Int64) * ((n + 1).toInt64))) + ((t + 3).toInt64)) (-1) 0 (-1) 0 := by
      refine tryOk_of (by omega) h1 q2 hn _ _ (a := 0) (b := 0) (c := 0) (d := 0) (e := 3) (f := 3) (by decide) (by decide) (by decide) (by decide) (by decide) (by decide) (by decide) (by decide) (by decide) (by decide) (by decide) (by decide) (vF A X (-1) 0 (-1) 0) (fun k hk ht => ?_) (fun k _ _ => hVb _ _ _ _ k w0 w0 (Or.inl rfl) (Or.inl rfl)) (fun k hk ht => ⟨_, 0, 0, hfo k hk, mended_no _ _ _ _, mended_no _ _ _ _, ?_⟩) rfl rfl
      · show (A k + (0 : Int32).toInt64 * _) + (0 : Int32).toInt64 * _ = (A k + (0 : Int32).toInt64 * _) + (0 : Int32).toInt64 * _
        rw [tl0, mul00, mul00]
      · show _ = (A k + (0 : Int32).toInt64 * _) + (0 : Int32).toInt64 * _
        rw [tl0, mul00, add00]
    have t2 : ∀ i s, i < T.1.2.2.1.1 → wit s (-3) 3 = true → tryOk fu M S (fun m s n t => wstF (vF A X m s n t) T.1.2.2.2.1 36) (fun m s n t => ((((10000 : Int64) * ((m + 1).toInt64)) + ((1000 : Int64) * ((s + 3).toInt64))) + ((10 : Int64) * ((n + 1).toInt64))) + ((t + 3).toInt64)) (nI i) s (-1) 0 := fun i s hi hs => by
      obtain ⟨e, he, hse⟩ := wit_33 hs
      refine tryOk_of (by omega) h1 q2 hn _ _ (a := i) (b := 0) (c := i + 1) (d := 0) (e := e) (f := 3) (by omega) (by decide) (max0 (by omega)) (by decide) (nI_1 i) (by omega) (by decide) (by decide) hse he (by decide) (by decide) (vF A X (nI i) s (-1) 0) (fun k hk ht => ?_) (fun k _ _ => hVb _ _ _ _ k hs w0 (Or.inr ⟨i, hi, rfl⟩) (Or.inl rfl)) (fun k hk ht => ?_) rfl rfl
      · show (A k + s.toInt64 * xrF X (nI i) k) + (0 : Int32).toInt64 * _ = (A k + s.toInt64 * _) + (0 : Int32).toInt64 * _
        rw [xr_n (by omega), (q2.2.2 k hk ht).2 i hi, tl0]
        simp
      · obtain ⟨b, d, r1, r2, r3⟩ := mend_one (fu := fu) (by omega) h1 hcs hf hi s (st_ok hk) (A k) (xrF X (-1) k)
        refine ⟨A k, b, d, hfo k hk, r1, r2, ?_⟩
        rw [r3, ← hX']
        show _ = (A k + s.toInt64 * xrF X (nI i) k) + (0 : Int32).toInt64 * xrF X (-1) k
        rw [xr_n (by omega)]
    have t3 : ∀ i s n t, i < n → n < T.1.2.2.1.1 → wit s (-3) 3 = true → wit t (-3) 3 = true → tryOk fu M S (fun m s n t => wstF (vF A X m s n t) T.1.2.2.2.1 36) (fun m s n t => ((((10000 : Int64) * ((m + 1).toInt64)) + ((1000 : Int64) * ((s + 3).toInt64))) + ((10 : Int64) * ((n + 1).toInt64))) + ((t + 3).toInt64)) (nI i) s (nI n) t := fun i s n t hin hnn hs ht2 => by
      obtain ⟨e, he, hse⟩ := wit_33 hs
      obtain ⟨f, hf2, hte⟩ := wit_33 ht2
      refine tryOk_of (by omega) h1 q2 hn _ _ (a := i) (b := n) (c := i + 1) (d := n + 1) (e := e) (f := f) (by omega) (by omega) (max0 (by omega)) (max0 (by omega)) (nI_1 i) (by omega) (nI_1 n) (by omega) hse he hte hf2 (vF A X (nI i) s (nI n) t) (fun k hk ht => ?_) (fun k _ _ => hVb _ _ _ _ k hs ht2 (Or.inr ⟨i, by omega, rfl⟩) (Or.inr ⟨n, hnn, rfl⟩)) (fun k hk ht => ?_) rfl rfl
      · show (A k + s.toInt64 * xrF X (nI i) k) + t.toInt64 * xrF X (nI n) k = _
        rw [xr_n (by omega), xr_n (by omega), (q2.2.2 k hk ht).2 i (by omega), (q2.2.2 k hk ht).2 n hnn]
      · obtain ⟨b, d, r1, r2, r3⟩ := mend_sum (fu := fu) (by omega) h1 hcs hf (show i < T.1.2.2.1.1 by omega) hnn s t (st_ok hk) (A k)
        refine ⟨A k, b, d, hfo k hk, r1, r2, ?_⟩
        rw [r3, ← hX', ← hX']
        show _ = (A k + s.toInt64 * xrF X (nI i) k) + t.toInt64 * xrF X (nI n) k
        rw [xr_n (by omega), xr_n (by omega)]
    obtain ⟨l2, a2, g1, g2⟩ := bs_m1 (fu := fu) (by omega) (M := M) (S := S) m1 q2.2.1 t2 t3 T.1.2.2.1.1 fu (wstF (vF A X (-1) 0 (-1) 0) T.1.2.2.2.1 36) (((((10000 : Int64) * (((-1 : Int32) + 1).toInt64)) + ((1000 : Int64) * (((0 : Int32) + 3).toInt64))) + ((10 : Int64) * (((-1 : Int32) + 1).toInt64))) + (((0 : Int32) + 3).toInt64)) 0 (by omega) (by omega)
    have hwb : bd (wstF (vF A X (-1) 0 (-1) 0) T.1.2.2.2.1 36) (2 ^ 60) := wst_bd (by decide) (by decide) 36 (fun k _ _ => hVb _ _ _ _ k w0 w0 (Or.inl rfl) (Or.inl rfl))
    have hlt : wstF (vF A X (-1) 0 (-1) 0) T.1.2.2.2.1 36 < (9223372036854775807 : Int64) := by
      rw [i64_lt, show (9223372036854775807 : Int64).toInt = 9223372036854775807 from by decide +kernel]
      have := hwb.2
      omega
    have hrun : fX1_run fu M = some (a2, mkM M l2 a2) := by
      unfold fX1_run
      simp only [Option.bind_some]
      rw [show st_X1_4 M 9223372036854775807 = mkM M 9223372036854775807 M.2.2.2.2.2 from rfl, t1.1, if_pos hlt]
      simp only [Option.bind_some]
      rw [nI_0] at g1
      exact g1
    rw [q1]
    simp only [Option.bind_some]
    rw [show (st_X10_7 T M).2.2.2.2.2.2.2.1 = M from rfl, hrun, t1.2.1, t1.2.2, m2]
    simp only [Option.bind_some]
    rw [nI_0] at g2
    rw [g2]
    refine rOk_of rfl rfl rfl ?_
    exact rR_mono h
