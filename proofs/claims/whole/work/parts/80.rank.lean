/-! the reference's rank -/
theorem ix80 {i b : Nat} (h : 4 * i + b < 80) : gIx ((4 : Int32) * nI i + nI b) 80 = some (4 * i + b) := by
  rw [show (4 : Int32) = nI 4 from rfl, pk_mul, nI_add, gIx_n h (by decide)]
theorem rk_23 {k4 : Int32 → Int32 → gS → Option (Int32 × gS)} {fu : Nat} {v1 : Int32} {s : sSt} {S : gS} {m a b : Nat} (hs : rSt s (iA S 0)) (hm : m < 256) (hm2 : m < 2 ^ s.1.2.1) (h4 : popc m ≤ 4) (hk : mtk S m) (ha : a < popc m) (hb : b < 4) : ∀ (j r : Nat) (f : Nat → Int64), r ≤ s.2.1.1 → s.2.1.1 - r < j → ∃ f', lX11_rank_23 k4 fu v1 j (nI b) (nI a) (nI r) (sB S 26 f) = k4 (nI (b + 1)) (nI (a + 1)) (sB S 26 f') ∧ (∀ r', r ≤ r' → r' < s.2.1.1 → f' (4 * r' + b) = xr s r' (nthB 8 m a)) ∧ (∀ r' t, t < 4 → (t ≠ b ∨ r' < r) → f' (4 * r' + t) = f (4 * r' + t)) := by
  obtain ⟨⟨a1, a2, a3⟩, ⟨b1, b2, b3⟩, -⟩ := id hs
  intro j
  induction j with
  | zero => intro r f _ hj; exact absurd hj (Nat.not_lt_zero _)
  | succ j ih =>
    intro r f hr hj
    rw [lX11_rank_23, show iA (sB S 26 f) 0 1 = nI s.2.1.1 from b2]
    by_cases e : r = s.2.1.1
    · rw [e, if_pos (nI_le (Nat.le_refl _) (by omega)), nI_1, nI_1]
      exact ⟨f, rfl, fun r' h1 h2 => absurd h2 (by omega), fun _ _ _ _ => rfl⟩
    · rw [if_neg (nI_ge (by omega) (by omega)), gIx_n (show a < 4 by omega) (by decide), gIx_a (a := 32) 32 rfl (by omega) (by decide)]
      simp only [Option.bind_some]
      obtain ⟨c1, c2, c3, c4⟩ := b3 r (by omega)
      have p1 := plN_1 m hm a (by omega) ha
      rw [show iA (sB S 26 f) 21 a = iA S 21 a from rfl, show iA (sB S 26 f) 0 (32 + r) = iA S 0 (32 + r) from rfl, hk.2 a ha, c1, shown_eq (S := sB S 26 f) hs fu (bit_lt hm2 p1.1) c3, ix80 (by omega)]
      simp only [Option.bind_some, nI_1]
      rw [sBu_sB]
      obtain ⟨f', g1, g2, g3⟩ := ih (r + 1) (vp_updL f (4 * r + b) (shw s.1.1 s.1.2.1 s.1.2.2.1 s.1.2.2.2 (nI (nthB 8 m a)) (s.2.1.2.1 r)).toInt64) (by omega) (by omega)
      refine ⟨f', g1, fun r' h1 h2 => ?_, fun r' t ht hh => ?_⟩
      · by_cases q : r' = r
        · rw [q, g3 r b hb (by omega), upL_s]
          unfold xr
          rw [if_pos p1.2.1]
        · exact g2 r' (by omega) h2
      · rw [g3 r' t ht (by omega), upL_n (by omega)]
def bOf (i a : Nat) : Nat := if i < a then a - 1 else a
theorem rk_4 {fu : Nat} (hfu : 30 ≤ fu) {v1 : Int32} {s : sSt} {S : gS} {m i : Nat} (hs : rSt s (iA S 0)) (hm : m < 256) (hm2 : m < 2 ^ s.1.2.1) (h4 : popc m ≤ 4) (hk : mtk S m) (hv : ∀ a, a < 4 → (nI a = v1 ↔ a = i)) : ∀ (j a : Nat) (f : Nat → Int64), a ≤ popc m → popc m - a < j → (∀ r t, r < s.2.1.1 → t < bOf i a → f (4 * r + t) = xr s r (nthB 8 m (skp i t))) → ∃ f', lX11_rank_4 fu v1 j (nI (bOf i a)) (nI a) (sB S 26 f) = lX11_rank_85 fu v1 fu (nI (bOf i (popc m))) 0 0 (sB S 26 f') ∧ (∀ r t, r < s.2.1.1 → t < bOf i (popc m) → f' (4 * r + t) = xr s r (nthB 8 m (skp i t))) := by
  intro j
  induction j with
  | zero => intro a f _ hj; exact absurd hj (Nat.not_lt_zero _)
  | succ j ih =>
    intro a f ha hj hf
    rw [lX11_rank_4, show iF (sB S 26 f) 20 = nI (popc m) from hk.1]
    by_cases e : a = popc m
    · rw [e, if_pos (nI_le (Nat.le_refl _) (by omega))]
      rw [e] at hf
      exact ⟨f, rfl, hf⟩
    · rw [if_neg (nI_ge (by omega) (by omega))]
      by_cases q : a = i
      · rw [if_pos ((hv a (by omega)).mpr q), nI_1]
        have eb : bOf i a = bOf i (a + 1) := by
          unfold bOf
          rw [if_neg (by omega), if_pos (by omega)]
          omega
        rw [eb]
        exact ih (a + 1) f (by omega) (by omega) (by rw [← eb]; exact hf)
      · rw [if_neg (fun w => q ((hv a (by omega)).mp w))]
        have eb : bOf i (a + 1) = bOf i a + 1 := by
          unfold bOf
          by_cases w : i < a
          · rw [if_pos w, if_pos (by omega)]
            omega
          · rw [if_neg w, if_neg (by omega)]
        have es : skp i (bOf i a) = a := by
          unfold bOf skp
          by_cases w : i < a
          · rw [if_pos w, if_neg (by omega)]
            omega
          · rw [if_neg w, if_pos (by omega)]
        have hb4 : bOf i a < 4 := by
          unfold bOf
          split <;> omega
        obtain ⟨f1, g1, g2, g3⟩ := rk_23 (k4 := lX11_rank_4 fu v1 j) (fu := fu) (v1 := v1) hs hm hm2 h4 hk (show a < popc m by omega) hb4 fu 0 f (by omega) (by have := hs.2.1.1; omega)
        rw [nI_0] at g1
        rw [g1, ← eb]
        refine ih (a + 1) f1 (by omega) (by omega) (fun r t hr ht => ?_)
        by_cases w : t = bOf i a
        · rw [w, g2 r (by omega) hr, es]
        · rw [g3 r t (by omega) (Or.inl w)]
          exact hf r t hr (by omega)
theorem rk_94 {k85 : Int32 → Int32 → Int32 → gS → Option (Int32 × gS)} {fu : Nat} {v1 : Int32} {s : sSt} {S : gS} {k rk c : Nat} (hs : rSt s (iA S 0)) (hc : c < 4) {f : Nat → Int64} : ∀ (j r : Nat), rk ≤ r → r ≤ s.2.1.1 → s.2.1.1 - r < j → (∀ r', rk ≤ r' → r' < r → f (4 * r' + c) = 0) → ∃ p, rk ≤ p ∧ p ≤ s.2.1.1 ∧ lX11_rank_94 k85 fu v1 j (nI k) (nI rk) (nI c) (nI r) (sB S 26 f) = jX11_rank_128 k85 fu v1 (nI k) (nI rk) (nI c) (nI p) (sB S 26 f) ∧ (∀ r', rk ≤ r' → r' < p → f (4 * r' + c) = 0) ∧ (p < s.2.1.1 → f (4 * p + c) ≠ 0) := by
  obtain ⟨-, ⟨b1, b2, b3⟩, -⟩ := id hs
  intro j
  induction j with
  | zero => intro r _ _ hj; exact absurd hj (Nat.not_lt_zero _)
  | succ j ih =>
    intro r hr1 hr2 hj hz
    rw [lX11_rank_94, show iA (sB S 26 f) 0 1 = nI s.2.1.1 from b2]
    by_cases e : r = s.2.1.1
    · rw [e, if_pos (nI_le (Nat.le_refl _) (by omega))]
      exact ⟨s.2.1.1, by omega, Nat.le_refl _, rfl, by rw [← e]; exact hz, fun q => absurd q (by omega)⟩
    · rw [if_neg (nI_ge (by omega) (by omega)), ix80 (by omega), lA_sB]
      simp only [Option.bind_some, nI_1]
      by_cases z : f (4 * r + c) = 0
      · rw [if_pos z]
        refine ih (r + 1) (by omega) (by omega) (by omega) (fun r' h1 h2 => ?_)
        by_cases q : r' = r
        · rw [q, z]
        · exact hz r' h1 (by omega)
      · rw [if_neg z]
        exact ⟨r, hr1, hr2, rfl, hz, fun _ => z⟩
theorem rk_145 {k85 : Int32 → Int32 → Int32 → gS → Option (Int32 × gS)} {fu : Nat} {v1 : Int32} {S : gS} {k rk c p : Nat} (hk : k ≤ 4) (hrk : rk < 20) (hp : p < 20) : ∀ (j b : Nat) (f : Nat → Int64), b ≤ k → k - b < j → ∃ f', lX11_rank_145 k85 fu v1 j (nI k) (nI rk) (nI c) (nI p) (nI b) (sB S 26 f) = lX11_rank_212 k85 fu v1 fu (nI k) (nI rk) (nI c) (nI (rk + 1)) (sB S 26 f') ∧ (∀ t, b ≤ t → t < k → f' (4 * p + t) = f (4 * rk + t) ∧ f' (4 * rk + t) = f (4 * p + t)) ∧ (∀ r t, t < 4 → ((r ≠ p ∧ r ≠ rk) ∨ t < b) → f' (4 * r + t) = f (4 * r + t)) := by
  intro j
  induction j with
  | zero => intro b f _ hj; exact absurd hj (Nat.not_lt_zero _)
  | succ j ih =>
    intro b f hb hj
    rw [lX11_rank_145]
    by_cases e : b = k
    · rw [e, if_pos (nI_le (Nat.le_refl _) (by omega)), nI_1]
      exact ⟨f, rfl, fun t h1 h2 => absurd h2 (by omega), fun _ _ _ _ => rfl⟩
    · rw [if_neg (nI_ge (by omega) (by omega)), ix80 (by omega), ix80 (by omega), lA_sB]
      simp only [Option.bind_some, nI_1]
      rw [sBu_sB, sBu_sB]
      obtain ⟨f', g1, g2, g3⟩ := ih (b + 1) (vp_updL (vp_updL f (4 * p + b) (f (4 * rk + b))) (4 * rk + b) (f (4 * p + b))) (by omega) (by omega)
      refine ⟨f', g1, fun t h1 h2 => ?_, fun r t ht hh => ?_⟩
      · by_cases q : t = b
        · rw [q, g3 p b (by omega) (Or.inr (by omega)), g3 rk b (by omega) (Or.inr (by omega)), upL_s]
          refine ⟨?_, rfl⟩
          by_cases w : p = rk
          · rw [w, upL_s]
          · rw [upL_n (by omega), upL_s]
        · obtain ⟨x1, x2⟩ := g2 t (by omega) h2
          rw [x1, x2, upL_n (by omega), upL_n (by omega), upL_n (by omega), upL_n (by omega)]
          exact ⟨rfl, rfl⟩
      · rw [g3 r t ht (by omega), upL_n (by omega), upL_n (by omega)]
theorem rk_240 {k85 : Int32 → Int32 → Int32 → gS → Option (Int32 × gS)} {k212 : Int32 → Int32 → Int32 → Int32 → gS → Option (Int32 × gS)} {fu : Nat} {v1 : Int32} {S : gS} {k rk c r : Nat} {by' : Int64} (hk : k ≤ 4) (hc : c < 4) (hrk : rk < 20) (hr : r < 20) (hne : rk < r) : ∀ (j b : Nat) (f : Nat → Int64), b ≤ k → k - b < j → ∃ f', lX11_rank_240 k85 k212 fu v1 j (nI k) (nI rk) (nI c) (nI r) by' (nI b) (sB S 26 f) = k212 (nI k) (nI rk) (nI c) (nI (r + 1)) (sB S 26 f') ∧ (∀ t, b ≤ t → t < k → f' (4 * r + t) = f (4 * r + t) * f (4 * rk + c) - f (4 * rk + t) * by') ∧ (∀ r' t, t < 4 → (r' ≠ r ∨ t < b) → f' (4 * r' + t) = f (4 * r' + t)) := by
  intro j
  induction j with
  | zero => intro b f _ hj; exact absurd hj (Nat.not_lt_zero _)
  | succ j ih =>
    intro b f hb hj
    rw [lX11_rank_240]
    by_cases e : b = k
    · rw [e, if_pos (nI_le (Nat.le_refl _) (by omega)), nI_1]
      exact ⟨f, rfl, fun t h1 h2 => absurd h2 (by omega), fun _ _ _ _ => rfl⟩
    · rw [if_neg (nI_ge (by omega) (by omega)), ix80 (by omega), ix80 (by omega), ix80 (by omega), lA_sB]
      simp only [Option.bind_some, nI_1]
      rw [sBu_sB]
      obtain ⟨f', g1, g2, g3⟩ := ih (b + 1) (vp_updL f (4 * r + b) (f (4 * r + b) * f (4 * rk + c) - f (4 * rk + b) * by')) (by omega) (by omega)
      refine ⟨f', g1, fun t h1 h2 => ?_, fun r' t ht hh => ?_⟩
      · by_cases q : t = b
        · rw [q, g3 r b (by omega) (Or.inr (by omega)), upL_s]
        · rw [g2 t (by omega) h2, upL_n (by omega), upL_n (by omega), upL_n (by omega)]
      · rw [g3 r' t ht (by omega), upL_n (by omega)]
theorem rk_212 {k85 : Int32 → Int32 → Int32 → gS → Option (Int32 × gS)} {fu : Nat} (hfu : 30 ≤ fu) {v1 : Int32} {s : sSt} {S : gS} {k rk c : Nat} (hs : rSt s (iA S 0)) (hk : k ≤ 4) (hc : c < k) (hrk : rk < 20) : ∀ (j r : Nat) (f : Nat → Int64), rk < r → r ≤ s.2.1.1 → s.2.1.1 - r < j → ∃ f', lX11_rank_212 k85 fu v1 j (nI k) (nI rk) (nI c) (nI r) (sB S 26 f) = k85 (nI k) (nI (rk + 1)) (nI (c + 1)) (sB S 26 f') ∧ (∀ r' t, r ≤ r' → r' < s.2.1.1 → t < k → f' (4 * r' + t) = f (4 * r' + t) * f (4 * rk + c) - f (4 * rk + t) * f (4 * r' + c)) ∧ (∀ r' t, t < 4 → r' < r → f' (4 * r' + t) = f (4 * r' + t)) := by
  obtain ⟨-, ⟨b1, b2, b3⟩, -⟩ := id hs
  intro j
  induction j with
  | zero => intro r f _ _ hj; exact absurd hj (Nat.not_lt_zero _)
  | succ j ih =>
    intro r f hr1 hr2 hj
    rw [lX11_rank_212, show iA (sB S 26 f) 0 1 = nI s.2.1.1 from b2]
    by_cases e : r = s.2.1.1
    · rw [e, if_pos (nI_le (Nat.le_refl _) (by omega)), nI_1, nI_1]
      exact ⟨f, rfl, fun r' t h1 h2 => absurd h2 (by omega), fun _ _ _ _ => rfl⟩
    · rw [if_neg (nI_ge (by omega) (by omega)), ix80 (by omega), lA_sB]
      simp only [Option.bind_some]
      obtain ⟨f1, g1, g2, g3⟩ := rk_240 (k85 := k85) (k212 := lX11_rank_212 k85 fu v1 j) (fu := fu) (v1 := v1) (S := S) (by' := f (4 * r + c)) hk (show c < 4 by omega) hrk (show r < 20 by omega) hr1 fu 0 f (by omega) (by omega)
      rw [nI_0] at g1
      rw [g1]
      obtain ⟨f', e1, e2, e3⟩ := ih (r + 1) f1 (by omega) (by omega) (by omega)
      refine ⟨f', e1, fun r' t h1 h2 h3 => ?_, fun r' t ht hh => ?_⟩
      · by_cases q : r' = r
        · rw [q, e3 r t (by omega) (by omega), g2 t (by omega) h3]
        · rw [e2 r' t (by omega) h2 h3, g3 r' t (by omega) (Or.inl q), g3 rk c (by omega) (Or.inl (by omega)), g3 rk t (by omega) (Or.inl (by omega)), g3 r' c (by omega) (Or.inl q)]
      · rw [e3 r' t ht (by omega), g3 r' t ht (Or.inl (by omega))]
def Bc : Nat → Int
  | 0 => 3
  | c + 1 => 2 * (Bc c * Bc c)
theorem Bc_1 : ∀ c, c < 4 → 1 ≤ Bc c ∧ Bc c ≤ Bc (c + 1) ∧ Bc (c + 1) < 2 ^ 63 := by decide +kernel
theorem rk_85 {fu : Nat} (hfu : 30 ≤ fu) {v1 : Int32} {s : sSt} {S : gS} {k : Nat} {X : Nat → Nat → Int} (hs : rSt s (iA S 0)) (hk : k ≤ 4) : ∀ (j c rk : Nat) (f : Nat → Int64), c ≤ k → k - c < j → Elm X s.2.1.1 k f c rk (Bc c) → ∃ rk' f', lX11_rank_85 fu v1 j (nI k) (nI rk) (nI c) (sB S 26 f) = some (nI rk', sB S 26 f') ∧ Elm X s.2.1.1 k f' k rk' (Bc k) := by
  obtain ⟨-, ⟨b1, b2, b3⟩, -⟩ := id hs
  intro j
  induction j with
  | zero => intro c rk f _ hj; exact absurd hj (Nat.not_lt_zero _)
  | succ j ih =>
    intro c rk f hc hj hE
    rw [lX11_rank_85]
    by_cases e : c = k
    · subst e
      rw [if_pos (nI_le (Nat.le_refl _) (by omega))]
      exact ⟨rk, f, rfl, hE⟩
    · rw [if_neg (nI_ge (by omega) (by omega))]
      obtain ⟨B1, B2, B3⟩ := Bc_1 c (by omega)
      have hrk : rk ≤ s.2.1.1 := hE.2.2.2.2.1
      have hrc : rk ≤ c := hE.2.2.2.2.2
      obtain ⟨p, p1, p2, p3, p4, p5⟩ := rk_94 (k85 := lX11_rank_85 fu v1 j) (fu := fu) (v1 := v1) (k := k) (rk := rk) hs (show c < 4 by omega) (f := f) fu rk (Nat.le_refl _) hrk (by omega) (fun r' h1 h2 => absurd h2 (by omega))
      rw [p3, jX11_rank_128, show iA (sB S 26 f) 0 1 = nI s.2.1.1 from b2, nI_1]
      by_cases w : p = s.2.1.1
      · rw [w, if_pos rfl]
        exact ih (c + 1) rk f (by omega) (by omega) (elm_n hE B2 (fun r h1 h2 => p4 r h1 (by omega)))
      · rw [if_neg (fun y => w ((nI_eq (by omega) (by omega)).mp y))]
        obtain ⟨f1, g1, g2, g3⟩ := rk_145 (k85 := lX11_rank_85 fu v1 j) (fu := fu) (v1 := v1) (S := S) (c := c) hk (show rk < 20 by omega) (show p < 20 by omega) fu 0 f (by omega) (by omega)
        rw [nI_0] at g1
        obtain ⟨f2, x1, x2, x3⟩ := rk_212 (k85 := lX11_rank_85 fu v1 j) hfu (v1 := v1) hs hk (show c < k by omega) (show rk < 20 by omega) fu (rk + 1) f1 (by omega) (by omega) (by omega)
        rw [g1, x1]
        refine ih (c + 1) (rk + 1) f2 (by omega) (by omega) ?_
        exact elm_s (T := f) (T1 := f1) (T2 := f2) (p := p) hE hk (show c < k by omega) B1 (Int.le_refl _) B3 p1 (by omega) (p5 (by omega)) (fun t ht => (g2 t (by omega) ht).2) (fun t ht => (g2 t (by omega) ht).1) (fun r t h1 h2 ht => g3 r t (by omega) (Or.inl ⟨h2, h1⟩)) (fun r t hr ht => x3 r t (by omega) (by omega)) (fun r t h1 h2 ht => x2 r t (by omega) h2 ht)
/-- the model that is left -/
def mWo (m i : Nat) : Nat := if i < popc m then m ^^^ 2 ^ nthB 8 m i else m
set_option maxRecDepth 100000 in
theorem mWo_d : ∀ m, m < 256 → ∀ i, i < 8 → i < popc m → m ^^^ 2 ^ nthB 8 m i < 256 ∧ popc (m ^^^ 2 ^ nthB 8 m i) = popc m - 1 := by decide +kernel
set_option maxRecDepth 100000 in
theorem mWo_n : ∀ m, m < 256 → ∀ i, i < 8 → i < popc m → ∀ t, t < 8 → t < popc m - 1 → nthB 8 (m ^^^ 2 ^ nthB 8 m i) t = nthB 8 m (skp i t) := by decide +kernel
theorem mWo_1 {m : Nat} (hm : m < 256) (i : Nat) : mWo m i < 256 ∧ popc (mWo m i) = bOf i (popc m) ∧ ∀ t, t < bOf i (popc m) → nthB 8 (mWo m i) t = nthB 8 m (skp i t) := by
  have := popc_8 m
  unfold mWo bOf
  by_cases w : i < popc m
  · rw [if_pos w, if_pos w]
    obtain ⟨d1, d2⟩ := mWo_d m hm i (by omega) w
    exact ⟨d1, d2, fun t ht => mWo_n m hm i (by omega) w t (by omega) ht⟩
  · rw [if_neg w, if_neg w]
    exact ⟨hm, rfl, fun t ht => by rw [skp, if_pos (by omega)]⟩
/-- what a cause shows in a reading, as a whole number -/
def Xc (s : sSt) (r c : Nat) : Int := (xr s r c).toInt
theorem Xc_bd {s : sSt} {f : Nat → Int32} (h : rSt s f) {c : Nat} (hc : c < 8) (r : Nat) : -3 ≤ Xc s r c ∧ Xc s r c ≤ 3 := by
  unfold Xc xr
  rw [if_pos hc]
  exact shw_bd h (nI c) (s.2.1.2.1 r)
theorem rank_eq {fu : Nat} (hfu : 30 ≤ fu) {v1 : Int32} {s : sSt} {S : gS} {m i : Nat} (hs : rSt s (iA S 0)) (hm : m < 256) (hm2 : m < 2 ^ s.1.2.1) (h4 : popc m ≤ 4) (hk : mtk S m) (hv : ∀ a, a < 4 → (nI a = v1 ↔ a = i)) : ∃ rk f B, fX11_rank fu S v1 = some (nI rk, sB S 26 f) ∧ rk ≤ 4 ∧ Elm (fun r j => Xc s r (nthB 8 (mWo m i) j)) s.2.1.1 (popc (mWo m i)) f (popc (mWo m i)) rk B := by
  obtain ⟨w1, w2, w3⟩ := mWo_1 hm i
  have hk4 : popc (mWo m i) ≤ 4 := by
    rw [w2]
    unfold bOf
    split <;> omega
  unfold fX11_rank
  obtain ⟨f0, g1, g2⟩ := rk_4 hfu hs hm hm2 h4 hk hv fu 0 (lA S 26) (by omega) (by omega) (fun r t _ ht => absurd ht (by unfold bOf; simp))
  rw [sB_self, show bOf i 0 = 0 from by unfold bOf; simp, nI_0] at g1
  rw [← w2] at g1 g2
  have hE : Elm (fun r j => Xc s r (nthB 8 (mWo m i) j)) s.2.1.1 (popc (mWo m i)) f0 0 0 (Bc 0) := elm_0 (fun r j hr hj => by
    rw [g2 r j hr hj, ← w3 j (by omega)]
    rfl) (fun r j hr hj => Xc_bd hs (plN_1 (mWo m i) w1 j (by omega) hj).2.1 r)
  obtain ⟨rk, f, e1, e2⟩ := rk_85 hfu (v1 := v1) hs hk4 fu 0 0 f0 (by omega) (by omega) hE
  rw [nI_0] at e1
  rw [g1, e1]
  exact ⟨rk, f, _, rfl, by have := e2.2.2.2.2.2; omega, e2⟩
