/-! the reference's solving -/
def st2 (S : gS) (f g : Nat → Int64) : gS := sB (sB S 22 f) 23 g
theorem st2_22 (S : gS) (f g : Nat → Int64) : lA (st2 S f g) 22 = f := rfl
theorem st2_23 (S : gS) (f g : Nat → Int64) : lA (st2 S f g) 23 = g := rfl
theorem uG_sw {α : Type} (F : Nat → α) {a b : Nat} (h : a ≠ b) (f f' g : α) : uG (uG (uG F a f) b g) a f' = uG (uG F a f') b g := by
  funext j
  unfold uG
  by_cases e : j = a
  · rw [if_pos e, if_neg (by omega), if_pos e]
  · rw [if_neg e]
    by_cases e2 : j = b
    · rw [if_pos e2, if_pos e2]
    · rw [if_neg e2, if_neg e, if_neg e2, if_neg e]
theorem st2_b22 (S : gS) (f g : Nat → Int64) (k : Nat) (v : Int64) : sBu (st2 S f g) 22 k v = st2 S (vp_updL f k v) g := by
  unfold sBu
  rw [st2_22]
  unfold st2 sB
  simp only
  rw [uG_sw _ (by decide)]
theorem st2_b23 (S : gS) (f g : Nat → Int64) (k : Nat) (v : Int64) : sBu (st2 S f g) 23 k v = st2 S f (vp_updL g k v) := by
  unfold sBu
  rw [st2_23]
  unfold st2 sB
  simp only
  rw [uG_uG]
theorem st2_self (S : gS) : st2 S (lA S 22) (lA S 23) = S := by
  unfold st2
  rw [sB_self]
  exact sB_self S 23
theorem scr_st2 (S : gS) (f g : Nat → Int64) : scr S (st2 S f g) := scr_trans (scr_sB S (by decide) f) (scr_sB _ (by decide) g)
theorem ix4 {i b : Nat} (h : 4 * i + b < 16) : gIx ((4 : Int32) * nI i + nI b) 16 = some (4 * i + b) := by
  rw [show (4 : Int32) = nI 4 from rfl, pk_mul, nI_add, gIx_n h (by decide)]
theorem z19 {k2 : Int32 → gS → Option (Bool × gS)} {fu : Nat} {v1 : Int32} {S : gS} {n : Nat} (hn : n ≤ 4) (h20 : iF S 20 = nI n) {i : Nat} (hi : i < 4) {g : Nat → Int64} : ∀ (j b : Nat) (f : Nat → Int64), b ≤ n → n - b < j → ∃ f', lX11_solve_19 k2 fu v1 j (nI i) (nI b) (st2 S f g) = k2 (nI (i + 1)) (st2 S f' g) ∧ (∀ t, b ≤ t → t < n → f' (4 * i + t) = 0) ∧ (∀ x, (x < 4 * i + b ∨ 4 * i + n ≤ x) → f' x = f x) := by
  intro j
  induction j with
  | zero => intro b f _ hj; exact absurd hj (Nat.not_lt_zero _)
  | succ j ih =>
    intro b f hb hj
    rw [lX11_solve_19, show iF (st2 S f g) 20 = nI n from h20]
    by_cases e : b = n
    · subst e
      rw [if_pos (nI_le (Nat.le_refl _) (by omega)), nI_1]
      exact ⟨f, rfl, fun t h1 h2 => absurd h2 (by omega), fun x _ => rfl⟩
    · rw [if_neg (nI_ge (by omega) (by omega)), ix4 (by omega)]
      simp only [Option.bind_some, nI_1]
      rw [st2_b22]
      obtain ⟨f', g1, g2, g3⟩ := ih (b + 1) (vp_updL f (4 * i + b) 0) (by omega) (by omega)
      refine ⟨f', g1, fun t h1 h2 => ?_, fun x hx => ?_⟩
      · by_cases q : t = b
        · rw [q, g3 _ (by omega), upL_s]
        · exact g2 t (by omega) h2
      · rw [g3 x (by omega), upL_n (by omega)]
theorem z2 {fu : Nat} (hfu : 30 ≤ fu) {v1 : Int32} {S : gS} {n : Nat} (hn : n ≤ 4) (h20 : iF S 20 = nI n) : ∀ (j i : Nat) (f g : Nat → Int64), i ≤ n → n - i < j → (∀ a t, a < i → t < n → f (4 * a + t) = 0) → (∀ a, a < i → g a = 0) → ∃ f' g', lX11_solve_2 fu v1 j (nI i) (st2 S f g) = lX11_solve_52 fu v1 fu 0 (st2 S f' g') ∧ (∀ a t, a < n → t < n → f' (4 * a + t) = 0) ∧ (∀ a, a < n → g' a = 0) := by
  intro j
  induction j with
  | zero => intro i f g _ hj; exact absurd hj (Nat.not_lt_zero _)
  | succ j ih =>
    intro i f g hi hj hf hg
    rw [lX11_solve_2, show iF (st2 S f g) 20 = nI n from h20]
    by_cases e : i = n
    · subst e
      rw [if_pos (nI_le (Nat.le_refl _) (by omega))]
      exact ⟨f, g, rfl, hf, hg⟩
    · rw [if_neg (nI_ge (by omega) (by omega)), gIx_n (show i < 4 by omega) (by decide)]
      simp only [Option.bind_some]
      rw [st2_b23]
      obtain ⟨f', g1, g2, g3⟩ := z19 (k2 := lX11_solve_2 fu v1 j) (fu := fu) (v1 := v1) hn h20 (show i < 4 by omega) (g := vp_updL g i 0) fu 0 f (by omega) (by omega)
      rw [nI_0] at g1
      rw [g1]
      refine ih (i + 1) f' _ (by omega) (by omega) (fun a t ha ht => ?_) (fun a ha => ?_)
      · by_cases q : a = i
        · rw [q]
          exact g2 t (by omega) ht
        · rw [g3 _ (by omega)]
          exact hf a t (by omega) ht
      · by_cases q : a = i
        · rw [q, upL_s]
        · rw [upL_n q]
          exact hg a (by omega)
theorem a132 {k52 : Int32 → gS → Option (Bool × gS)} {k83 : Int32 → Int32 → Int32 → gS → Option (Bool × gS)} {fu : Nat} {v1 v2 st : Int32} {S : gS} {n : Nat} (hn : n ≤ 4) (h20 : iF S 20 = nI n) {i : Nat} (hi : i < 4) {g X : Nat → Int64} {x : Int64} (hX : ∀ f g t, t < n → fX11_shown fu (st2 S f g) (iA S 21 t) st = some (X t)) : ∀ (j b : Nat) (f : Nat → Int64), b ≤ n → n - b < j → ∃ f', lX11_solve_132 k52 k83 fu v1 j v2 st (nI i) x (nI b) (st2 S f g) = k83 v2 st (nI (i + 1)) (st2 S f' g) ∧ (∀ t, b ≤ t → t < n → f' (4 * i + t) = f (4 * i + t) + x * X t) ∧ (∀ y, (y < 4 * i + b ∨ 4 * i + n ≤ y) → f' y = f y) := by
  intro j
  induction j with
  | zero => intro b f _ hj; exact absurd hj (Nat.not_lt_zero _)
  | succ j ih =>
    intro b f hb hj
    rw [lX11_solve_132, show iF (st2 S f g) 20 = nI n from h20]
    by_cases e : b = n
    · subst e
      rw [if_pos (nI_le (Nat.le_refl _) (by omega)), nI_1]
      exact ⟨f, rfl, fun t h1 h2 => absurd h2 (by omega), fun x _ => rfl⟩
    · rw [if_neg (nI_ge (by omega) (by omega)), ix4 (by omega), gIx_n (show b < 4 by omega) (by decide)]
      simp only [Option.bind_some, nI_1]
      rw [show iA (st2 S f g) 21 b = iA S 21 b from rfl, hX f g b (by omega)]
      simp only [Option.bind_some]
      rw [st2_b22, st2_22]
      obtain ⟨f', g1, g2, g3⟩ := ih (b + 1) (vp_updL f (4 * i + b) (f (4 * i + b) + x * X b)) (by omega) (by omega)
      refine ⟨f', g1, fun t h1 h2 => ?_, fun y hy => ?_⟩
      · by_cases q : t = b
        · rw [q, g3 _ (by omega), upL_s]
        · rw [g2 t (by omega) h2, upL_n (by omega)]
      · rw [g3 y (by omega), upL_n (by omega)]
theorem a83 {k52 : Int32 → gS → Option (Bool × gS)} {fu : Nat} (hfu : 30 ≤ fu) {v1 st : Int32} {S : gS} {n r : Nat} (hr : r < 20) (hn : n ≤ 4) (h20 : iF S 20 = nI n) {X : Nat → Int64} {w : Int64} (hX : ∀ f g t, t < n → fX11_shown fu (st2 S f g) (iA S 21 t) st = some (X t)) (hw : (iA S 0 (52 + r)).toInt64 = w) : ∀ (j i : Nat) (f g : Nat → Int64), i ≤ n → n - i < j → ∃ f' g', lX11_solve_83 k52 fu v1 j (nI r) st (nI i) (st2 S f g) = k52 (nI (r + 1)) (st2 S f' g') ∧ (∀ a, i ≤ a → a < n → g' a = g a + X a * w ∧ ∀ t, t < n → f' (4 * a + t) = f (4 * a + t) + X a * X t) ∧ (∀ a, a < i → g' a = g a ∧ ∀ t, t < n → f' (4 * a + t) = f (4 * a + t)) := by
  intro j
  induction j with
  | zero => intro i f g _ hj; exact absurd hj (Nat.not_lt_zero _)
  | succ j ih =>
    intro i f g hi hj
    rw [lX11_solve_83, show iF (st2 S f g) 20 = nI n from h20]
    by_cases e : i = n
    · subst e
      rw [if_pos (nI_le (Nat.le_refl _) (by omega)), nI_1]
      exact ⟨f, g, rfl, fun t h1 h2 => absurd h2 (by omega), fun x _ => ⟨rfl, fun _ _ => rfl⟩⟩
    · rw [if_neg (nI_ge (by omega) (by omega)), gIx_n (show i < 4 by omega) (by decide)]
      simp only [Option.bind_some]
      rw [show iA (st2 S f g) 21 i = iA S 21 i from rfl, hX f g i (by omega)]
      simp only [Option.bind_some]
      rw [gIx_a (a := 52) 52 rfl (by omega) (by decide)]
      simp only [Option.bind_some]
      rw [st2_b23, st2_23, show (iA (st2 S f g) 0 (52 + r)).toInt64 = w from hw]
      obtain ⟨f1, g1, g2, g3⟩ := a132 (k52 := k52) (k83 := lX11_solve_83 k52 fu v1 j) (fu := fu) (v1 := v1) (v2 := nI r) (st := st) hn h20 (show i < 4 by omega) (g := vp_updL g i (g i + X i * w)) (x := X i) hX fu 0 f (by omega) (by omega)
      rw [nI_0] at g1
      rw [g1]
      obtain ⟨f', g', e1, e2, e3⟩ := ih (i + 1) f1 (vp_updL g i (g i + X i * w)) (by omega) (by omega)
      refine ⟨f', g', e1, fun a h1 h2 => ?_, fun a ha => ?_⟩
      · by_cases q : a = i
        · obtain ⟨d1, d2⟩ := e3 a (by omega)
          rw [d1, q, upL_s]
          refine ⟨rfl, fun t ht => ?_⟩
          rw [← q, d2 t ht, q, g2 t (by omega) ht]
        · obtain ⟨d1, d2⟩ := e2 a (by omega) h2
          rw [d1, upL_n q]
          refine ⟨rfl, fun t ht => ?_⟩
          rw [d2 t ht, g3 _ (by omega)]
      · obtain ⟨d1, d2⟩ := e3 a (by omega)
        rw [d1, upL_n (by omega)]
        refine ⟨rfl, fun t ht => ?_⟩
        rw [d2 t ht, g3 _ (by omega)]
def rfin (fu : Nat) (v1 : Int32) (S0 : gS) : Option (Bool × gS) := ((fX11_whole fu S0 (-1 : Int32)).bind fun r192 => ((some (sL S0 25 r192)).bind fun S0x195 => (if (lF S0x195 25) = (0 : Int64) then (some (false, S0x195)) else (lX11_solve_211  fu v1 fu (0 : Int32) S0x195))))
theorem cxm_lt {m i : Nat} (h : i < popc m) : cxm m i = nthB 8 m i := if_pos h
theorem cxm_n (m : Nat) : cxm m (popc m) = 8 := if_neg (Nat.lt_irrefl _)
theorem a52 {fu : Nat} (hfu : 30 ≤ fu) {v1 : Int32} {s : sSt} {S : gS} {m o : Nat} (hs : rSt s (iA S 0)) (hm : m < 256) (hm2 : m < 2 ^ s.1.2.1) (h4 : popc m ≤ 4) (hk : mtk S m) (hv : ∀ r, r < 20 → (nI r = v1 ↔ r = o)) : ∀ (j r : Nat) (f g : Nat → Int64), r ≤ s.2.1.1 → s.2.1.1 - r < j → (∀ a, a < popc m → g a = gsm r (fun q => xo s o q (cxm m a) * xo s o q (cxm m (popc m)))) → (∀ a t, a < popc m → t < popc m → f (4 * a + t) = gsm r (fun q => xo s o q (cxm m a) * xo s o q (cxm m t))) → ∃ f' g', lX11_solve_52 fu v1 j (nI r) (st2 S f g) = rfin fu v1 (st2 S f' g') ∧ (∀ a, a < popc m → g' a = As s o m a (popc m)) ∧ (∀ a t, a < popc m → t < popc m → f' (4 * a + t) = As s o m a t) := by
  obtain ⟨⟨a1, a2, a3⟩, ⟨b1, b2, b3⟩, -⟩ := id hs
  intro j
  induction j with
  | zero => intro r f g _ hj; exact absurd hj (Nat.not_lt_zero _)
  | succ j ih =>
    intro r f g hr hj hg hf
    rw [lX11_solve_52, show iA (st2 S f g) 0 1 = nI s.2.1.1 from b2]
    by_cases e : r = s.2.1.1
    · subst e
      rw [if_pos (nI_le (Nat.le_refl _) (by omega))]
      exact ⟨f, g, rfl, hg, hf⟩
    · rw [if_neg (nI_ge (by omega) (by omega))]
      by_cases q : r = o
      · rw [if_pos ((hv r (by omega)).mpr q), nI_1]
        refine ih (r + 1) f g (by omega) (by omega) (fun a ha => ?_) (fun a t ha ht => ?_)
        · rw [gsm, ← hg a ha, xo, if_pos q, Int64.zero_mul, Int64.add_zero]
        · rw [gsm, ← hf a t ha ht, xo, if_pos q, Int64.zero_mul, Int64.add_zero]
      · rw [if_neg (fun w => q ((hv r (by omega)).mp w)), gIx_a (a := 32) 32 rfl (by omega) (by decide)]
        simp only [Option.bind_some]
        obtain ⟨c1, c2, c3, c4⟩ := b3 r (by omega)
        have hX : ∀ f g t, t < popc m → fX11_shown fu (st2 S f g) (iA S 21 t) (iA S 0 (32 + r)) = some (xo s o r (cxm m t)) := fun f g t ht => by
          have p1 := plN_1 m hm t (by omega) ht
          rw [hk.2 t ht, c1, shown_eq (S := st2 S f g) hs fu (bit_lt hm2 p1.1) c3]
          unfold xo xr
          rw [if_neg q, cxm_lt ht, if_pos p1.2.1]
        have hw : (iA S 0 (52 + r)).toInt64 = xo s o r (cxm m (popc m)) := by
          unfold xo xr
          rw [c2, if_neg q, cxm_n, if_neg (by decide)]
        obtain ⟨f', g', e1, e2, -⟩ := a83 (k52 := lX11_solve_52 fu v1 j) hfu (v1 := v1) (S := S) (r := r) (by omega) h4 hk.1 hX hw fu 0 f g (by omega) (by omega)
        rw [nI_0] at e1
        rw [show iA (st2 S f g) 0 (32 + r) = iA S 0 (32 + r) from rfl, e1]
        refine ih (r + 1) f' g' (by omega) (by omega) (fun a ha => ?_) (fun a t ha ht => ?_)
        · rw [(e2 a (by omega) ha).1, gsm, hg a ha]
        · rw [(e2 a (by omega) ha).2 t ht, gsm, hf a t ha ht]
theorem a211 {fu : Nat} {v1 : Int32} {S : gS} {n : Nat} (h1 : 1 ≤ n) (h4 : n ≤ 4) (h20 : iF S 20 = nI n) : ∀ (j k : Nat) (h : Nat → Int64), k ≤ n → n - k < j → ∃ h', lX11_solve_211 fu v1 j (nI k) (sB S 24 h) = some (true, sB S 24 h') ∧ (∀ q, k ≤ q → q < n → h' q = qn (ent (lA S 22) (lA S 23) q) n) ∧ (∀ q, q < k → h' q = h q) := by
  intro j
  induction j with
  | zero => intro k h _ hj; exact absurd hj (Nat.not_lt_zero _)
  | succ j ih =>
    intro k h hk hj
    rw [lX11_solve_211, show iF (sB S 24 h) 20 = nI n from h20]
    by_cases e : k = n
    · subst e
      rw [if_pos (nI_le (Nat.le_refl _) (by omega))]
      exact ⟨h, rfl, fun t h1 h2 => absurd h2 (by omega), fun x _ => rfl⟩
    · rw [if_neg (nI_ge (by omega) (by omega)), whole_eq (S := sB S 24 h) (p := k) h1 h4 h20 (fun c hc => nI_eq (by omega) (by omega)), gIx_n (show k < 4 by omega) (by decide)]
      simp only [Option.bind_some, nI_1]
      rw [sBu_sB]
      obtain ⟨h', g1, g2, g3⟩ := ih (k + 1) (vp_updL h k (qn (ent (lA (sB S 24 h) 22) (lA (sB S 24 h) 23) k) n)) (by omega) (by omega)
      refine ⟨h', g1, fun q l1 l2 => ?_, fun q hq => ?_⟩
      · by_cases w : q = k
        · rw [w, g3 _ (by omega), upL_s]
          rfl
        · exact g2 q (by omega) l2
      · rw [g3 q (by omega), upL_n (by omega)]
theorem rsol_eq {fu : Nat} (hfu : 30 ≤ fu) {v1 : Int32} {s : sSt} {S : gS} {m o : Nat} (hs : rSt s (iA S 0)) (hm : m < 256) (hm2 : m < 2 ^ s.1.2.1) (h1 : 1 ≤ popc m) (h4 : popc m ≤ 4) (hk : mtk S m) (hv : ∀ r, r < 20 → (nI r = v1 ↔ r = o)) : ∃ S', fX11_solve fu S v1 = some (!decide (qn (As s o m) (popc m) = 0), S') ∧ scr S S' ∧ mtk S' m ∧ lF S' 25 = qn (As s o m) (popc m) ∧ (∀ a, a < popc m → lA S' 23 a = As s o m a (popc m)) ∧ (qn (As s o m) (popc m) ≠ 0 → ∀ q, q < popc m → lA S' 24 q = qA (As s o m) (popc m) q) := by
  unfold fX11_solve
  obtain ⟨f0, g0, e1, e2, e3⟩ := z2 (v1 := v1) hfu h4 hk.1 fu 0 (lA S 22) (lA S 23) (by omega) (by omega) (fun a t ha => absurd ha (Nat.not_lt_zero _)) (fun a ha => absurd ha (Nat.not_lt_zero _))
  rw [st2_self, nI_0] at e1
  obtain ⟨f, g, d1, d2, d3⟩ := a52 hfu hs hm hm2 h4 hk hv fu 0 f0 g0 (by omega) (by have := hs.2.1.1; omega) (fun a ha => e3 a ha) (fun a t ha ht => e2 a t ha ht)
  rw [nI_0] at d1
  rw [e1, d1, rfin, whole_eq (S := st2 S f g) (p := 9) h1 h4 hk.1 (fun c hc => ⟨fun q => absurd q (nI_nm1 (by omega)), fun q => absurd q (by omega)⟩)]
  simp only [Option.bind_some]
  have w1 : qn (ent (lA (st2 S f g) 22) (lA (st2 S f g) 23) 9) (popc m) = qn (As s o m) (popc m) := qn_cg h1 h4 (fun i j hi hj => by
    unfold ent
    rw [if_neg (by omega)]
    exact d3 i j hi hj)
  have w2 : ∀ q, qn (ent f g q) (popc m) = qA (As s o m) (popc m) q := fun q => qn_cg h1 h4 (fun i j hi hj => by
    show (if j = q then _ else _) = (if j = q then _ else _)
    by_cases w : j = q
    · rw [if_pos w, if_pos w, d2 i hi]
    · rw [if_neg w, if_neg w]
      exact d3 i j hi hj)
  rw [w1, lF_sL]
  have c1 : scr S (sL (st2 S f g) 25 (qn (As s o m) (popc m))) := scr_trans (scr_st2 S f g) (scr_sL _ _)
  by_cases z : qn (As s o m) (popc m) = 0
  · rw [if_pos z]
    refine ⟨_, ?_, c1, mtk_scr hk rfl rfl, lF_sL _ _ _, d2, fun q => absurd z q⟩
    simp only [z, decide_true, Bool.not_true]
  · rw [if_neg z]
    obtain ⟨h', g1, g2, -⟩ := a211 (fu := fu) (v1 := v1) (S := sL (st2 S f g) 25 (qn (As s o m) (popc m))) h1 h4 hk.1 fu 0 (lA (sL (st2 S f g) 25 (qn (As s o m) (popc m))) 24) (by omega) (by omega)
    rw [sB_self, nI_0] at g1
    rw [g1]
    refine ⟨sB (sL (st2 S f g) 25 (qn (As s o m) (popc m))) 24 h', ?_, scr_trans c1 (scr_sB _ (by decide) _), mtk_scr hk rfl rfl, lF_sL (st2 S f g) 25 _, d2, fun _ q hq => ?_⟩
    · simp only [z, decide_false, Bool.not_false]
    · rw [lA_sB, g2 q (by omega) hq]
      exact w2 q
/-- what is left, by the reference -/
theorem sl54 {fu : Nat} {S : gS} {n : Nat} {A : Nat → Nat → Int64} (h4 : n ≤ 4) (h20 : iF S 20 = nI n) (h23 : ∀ a, a < n → lA S 23 a = A a n) (h24 : ∀ q, q < n → lA S 24 q = qA A n q) : ∀ (j k : Nat), k ≤ n → n - k < j → lX11_sumLeft_54 fu S j (sLf A n k) (nI k) = some (sLf A n n) := by
  intro j
  induction j with
  | zero => intro k _ hj; exact absurd hj (Nat.not_lt_zero _)
  | succ j ih =>
    intro k hk hj
    rw [lX11_sumLeft_54, h20]
    by_cases e : k = n
    · subst e
      rw [if_pos (nI_le (Nat.le_refl _) (by omega))]
    · rw [if_neg (nI_ge (by omega) (by omega)), gIx_n (show k < 4 by omega) (by decide)]
      simp only [Option.bind_some, nI_1]
      rw [h23 k (by omega), h24 k (by omega)]
      exact ih (k + 1) (by omega) (by omega)
theorem sl4 {fu : Nat} {s : sSt} {S : gS} (hs : rSt s (iA S 0)) : ∀ (j r : Nat), r ≤ s.2.1.1 → s.2.1.1 - r < j → lX11_sumLeft_4 fu S j (gsm r (fun q => xr s q 8 * xr s q 8)) (nI r) = lX11_sumLeft_54 fu S fu (gsm s.2.1.1 (fun q => xr s q 8 * xr s q 8) * lF S 25) 0 := by
  obtain ⟨-, ⟨b1, b2, b3⟩, -⟩ := id hs
  intro j
  induction j with
  | zero => intro r _ hj; exact absurd hj (Nat.not_lt_zero _)
  | succ j ih =>
    intro r hr hj
    rw [lX11_sumLeft_4, b2]
    by_cases e : r = s.2.1.1
    · rw [e, if_pos (nI_le (Nat.le_refl _) (by omega))]
    · rw [if_neg (nI_ge (by omega) (by omega)), gIx_a (a := 52) 52 rfl (by omega) (by decide)]
      simp only [Option.bind_some, nI_1]
      obtain ⟨c1, c2, c3, c4⟩ := b3 r (by omega)
      have := ih (r + 1) (by omega) (by omega)
      rw [gsm] at this
      rw [c2]
      exact this
theorem sumL_eq {fu : Nat} (hfu : 30 ≤ fu) {s : sSt} {S : gS} {m o : Nat} (hs : rSt s (iA S 0)) (h1 : 1 ≤ popc m) (h4 : popc m ≤ 4) (ho : s.2.1.1 ≤ o) (h20 : iF S 20 = nI (popc m)) (h25 : lF S 25 = qn (As s o m) (popc m)) (h23 : ∀ a, a < popc m → lA S 23 a = As s o m a (popc m)) (h24 : ∀ q, q < popc m → lA S 24 q = qA (As s o m) (popc m) q) : fX11_sumLeft fu S = some (sLf (As s o m) (popc m) (popc m)) := by
  unfold fX11_sumLeft
  have := sl4 (fu := fu) hs fu 0 (by omega) (by have := hs.2.1.1; omega)
  rw [nI_0] at this
  rw [show (0 : Int64) = gsm 0 (fun q => xr s q 8 * xr s q 8) from rfl, this, h25]
  have e : gsm s.2.1.1 (fun q => xr s q 8 * xr s q 8) = As s o m (popc m) (popc m) := gsm_ext _ (fun r hr => by
    unfold xo
    rw [cxm_n, if_neg (by omega)])
  rw [e]
  have := sl54 (fu := fu) (A := As s o m) h4 h20 h23 h24 fu 0 (by omega) (by omega)
  rw [nI_0] at this
  exact this
