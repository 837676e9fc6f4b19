/-! span, keep, back -/
theorem up2_n {f : Nat → Int32} {a b j : Nat} {x y : Int32} (h1 : j ≠ a) (h2 : j ≠ b) : upd (upd f a x) b y j = f j := by rw [pk_un h2, pk_un h1]
theorem rSt_span {s : sSt} {f : Nat → Int32} (h : rSt s f) {k : Nat} (hk : k < 36) {x y u v : Int32} {b : Bool} (hb : b = decide (x ≤ y)) (hx : wit x (-1000) 1000 = true) (hy : wit y (-1000) 1000 = true) (hbt : b = true → x = u ∧ y = v) : rSt (s.1, s.2.1, s.2.2.1, (updB s.2.2.2.1 k b, upd s.2.2.2.2.1 k u, upd s.2.2.2.2.2 k v)) (upd (upd f (88 + k) x) (124 + k) y) := by
  obtain ⟨⟨a1, a2, a3⟩, ⟨b1, b2, b3⟩, ⟨c1, c2, c3⟩, d⟩ := h
  unfold rSt
  refine ⟨⟨a1, ?_, fun j hj => ?_⟩, ⟨b1, ?_, fun j hj => ?_⟩, ⟨c1, ?_, fun j hj => ?_⟩, fun j hj => ?_⟩
  · rw [up2_n (by omega) (by omega)]; exact a2
  · have hj' : j < s.1.2.1 := hj
    rw [up2_n (by omega) (by omega), up2_n (by omega) (by omega), up2_n (by omega) (by omega)]; exact a3 j hj
  · rw [up2_n (by omega) (by omega)]; exact b2
  · have hj' : j < s.2.1.1 := hj
    rw [up2_n (by omega) (by omega), up2_n (by omega) (by omega)]; exact b3 j hj
  · rw [up2_n (by omega) (by omega)]; exact c2
  · have hj' : j < s.2.2.1.1 := hj
    rw [up2_n (by omega) (by omega), up2_n (by omega) (by omega)]; exact c3 j hj
  · show updB _ _ _ j = _ ∧ _ ∧ _ ∧ (updB _ _ _ j = true → _ = upd _ _ _ j ∧ _ = upd _ _ _ j)
    by_cases e : j = k
    · have e1 : updB s.2.2.2.1 k b j = b := if_pos e
      rw [e1, e, pk_us, pk_us, pk_us, pk_un (by omega), pk_us]
      exact ⟨hb, hx, hy, hbt⟩
    · have e1 : updB s.2.2.2.1 k b j = s.2.2.2.1 j := if_neg e
      rw [e1, up2_n (by omega) (by omega), up2_n (by omega) (by omega), pk_un e, pk_un e]
      exact d j hj
theorem p_span (fu : Nat) : St_span fu := by
  intro T S c h hc v0 v1 v2
  obtain ⟨h1, h2, h3, h4, h5, h6, h7, h8, h9⟩ := id h
  unfold fX10_span fX11_span jX10_span_30 jX10_span_31
  rw [isState_eq, in_eq, in_eq]
  simp only [Option.bind_some, obind_eta, fX10_isState, fX2_within]
  cases hs : wit v0 0 35
  · simp only [Bool.false_eq_true, if_false, ite_self]
    exact ref1 h hc
  obtain ⟨k, hk, rfl⟩ := wit_st hs
  simp only [if_true]
  cases hx : wit v1 (-1000) 1000
  · simp only [Bool.false_eq_true, if_false, if_true]
    exact ref1 h hc
  simp only [if_true]
  cases hy : wit v2 (-1000) 1000
  · simp only [Bool.false_eq_true, if_false, if_true]
    exact ref1 h hc
  simp only [if_true]
  rw [if_neg (show ¬ (1 : Int32) = 0 by decide)]
  have hw : fX7_write T.1.2.2.2 (nI k) v1 v2 = some (updB T.1.2.2.2.1 k (decide (v1 ≤ v2)), upd T.1.2.2.2.2.1 k v1, upd T.1.2.2.2.2.2 k v2) := by
    unfold fX7_write
    rw [gIx_n hk (by decide)]
    rfl
  rw [hw]
  simp only [Option.bind_some]
  have hh : fX7_has (st_X10_0_3 T (updB T.1.2.2.2.1 k (decide (v1 ≤ v2)), upd T.1.2.2.2.2.1 k v1, upd T.1.2.2.2.2.2 k v2)).1.2.2.2 (nI k) = some (decide (v1 ≤ v2)) := by
    show some (spHas (updB T.1.2.2.2.1 k (decide (v1 ≤ v2))) (nI k)) = _
    rw [spHas_lt hk, show updB T.1.2.2.2.1 k (decide (v1 ≤ v2)) k = decide (v1 ≤ v2) from if_pos rfl]
  rw [hh]
  simp only [Option.bind_some]
  have hm := rR_mono h
  obtain ⟨h1, h2, h3, h4, h5, h6, h7, h8, h9⟩ := hm
  unfold jX11_span_59
  rw [gIx_a (a := 88) 88 rfl (by omega) (by decide), gIx_a (a := 124) 124 rfl (by omega) (by decide)]
  simp only [Option.bind_some]
  by_cases e : v2 < v1
  · simp only [if_pos e]
    rw [le_f e]
    simp only [Bool.false_eq_true, if_false]
    refine rOk_of rfl rfl rfl ?_
    unfold rR
    exact ⟨rSt_span h1 hk (x := 1) (y := 0) (b := false) (by decide) (by decide) (by decide) (fun q => by cases q), h2, h3, h4, h5, h6, h7, h8, h9⟩
  · simp only [if_neg e]
    rw [le_t e]
    simp only [if_true]
    refine rOk_of rfl rfl rfl ?_
    unfold rR
    exact ⟨rSt_span h1 hk (x := v1) (y := v2) (b := true) (le_t e).symm hx hy (fun _ => ⟨rfl, rfl⟩), h2, h3, h4, h5, h6, h7, h8, h9⟩
theorem uG_self {α : Type} (f : Nat → α) (k : Nat) : uG f k (f k) = f := by
  funext j
  unfold uG
  by_cases e : j = k
  · rw [if_pos e, e]
  · rw [if_neg e]
theorem uG_uG {α : Type} (f : Nat → α) (k : Nat) (x y : α) : uG (uG f k x) k y = uG f k y := by
  funext j
  unfold uG
  by_cases e : j = k
  · rw [if_pos e, if_pos e]
  · rw [if_neg e, if_neg e, if_neg e]
theorem sA_self (S : gS) (k : Nat) : sA S k (iA S k) = S := by
  show (S.1, S.2.1, uG S.2.2.1 k (S.2.2.1 k), S.2.2.2) = S
  rw [uG_self]
theorem sAu_sA (S : gS) (k i : Nat) (f : Nat → Int32) (v : Int32) : sAu (sA S k f) k i v = sA S k (upd f i v) := by
  have e : iA (sA S k f) k = f := if_pos rfl
  unfold sAu
  rw [e]
  show (S.1, S.2.1, uG (uG S.2.2.1 k f) k (upd f i v), S.2.2.2) = (S.1, S.2.1, uG S.2.2.1 k (upd f i v), S.2.2.2)
  rw [uG_uG]
theorem sAu_eq (S : gS) (k i : Nat) (v : Int32) : sAu S k i v = sA S k (upd (iA S k) i v) := rfl
theorem sBu_sB (S : gS) (k i : Nat) (f : Nat → Int64) (v : Int64) : sBu (sB S k f) k i v = sB S k (vp_updL f i v) := by
  have e : lA (sB S k f) k = f := if_pos rfl
  unfold sBu
  rw [e]
  show (S.1, S.2.1, S.2.2.1, uG (uG S.2.2.2 k f) k (vp_updL f i v)) = (S.1, S.2.1, S.2.2.1, uG S.2.2.2 k (vp_updL f i v))
  rw [uG_uG]
theorem sB_self (S : gS) (k : Nat) : sB S k (lA S k) = S := by
  show (S.1, S.2.1, S.2.2.1, uG S.2.2.2 k (S.2.2.2 k)) = S
  rw [uG_self]
/-- only the first places of a row count -/
theorem rSt_ext {s s2 : sSt} {f g : Nat → Int32} (h : rSt s f) (hf : ∀ j, j < 160 → g j = f j) (e1 : s2.1.2.1 = s.1.2.1) (e2 : ∀ j, j < s.1.2.1 → s2.1.1 j = s.1.1 j ∧ s2.1.2.2.1 j = s.1.2.2.1 j ∧ s2.1.2.2.2 j = s.1.2.2.2 j) (e3 : s2.2.1.1 = s.2.1.1) (e4 : ∀ j, j < s.2.1.1 → s2.2.1.2.1 j = s.2.1.2.1 j ∧ s2.2.1.2.2 j = s.2.1.2.2 j) (e5 : s2.2.2.1.1 = s.2.2.1.1) (e6 : ∀ j, j < s.2.2.1.1 → s2.2.2.1.2.1 j = s.2.2.1.2.1 j ∧ s2.2.2.1.2.2 j = s.2.2.1.2.2 j) (e7 : ∀ j, j < 36 → s2.2.2.2.1 j = s.2.2.2.1 j ∧ s2.2.2.2.2.1 j = s.2.2.2.2.1 j ∧ s2.2.2.2.2.2 j = s.2.2.2.2.2 j) : rSt s2 g := by
  obtain ⟨⟨a1, a2, a3⟩, ⟨b1, b2, b3⟩, ⟨c1, c2, c3⟩, d⟩ := h
  unfold rSt
  rw [e1, e3, e5]
  refine ⟨⟨a1, ?_, fun j hj => ?_⟩, ⟨b1, ?_, fun j hj => ?_⟩, ⟨c1, ?_, fun j hj => ?_⟩, fun j hj => ?_⟩
  · rw [hf _ (by omega)]; exact a2
  · obtain ⟨q1, q2, q3⟩ := e2 j hj
    rw [hf _ (by omega), hf _ (by omega), hf _ (by omega), q1, q2, q3]; exact a3 j hj
  · rw [hf _ (by omega)]; exact b2
  · obtain ⟨q1, q2⟩ := e4 j hj
    rw [hf _ (by omega), hf _ (by omega), q1, q2]; exact b3 j hj
  · rw [hf _ (by omega)]; exact c2
  · obtain ⟨q1, q2⟩ := e6 j hj
    rw [hf _ (by omega), hf _ (by omega), q1, q2]; exact c3 j hj
  · obtain ⟨q1, q2, q3⟩ := e7 j hj
    rw [hf _ (by omega), hf _ (by omega), q1, q2, q3]; exact d j hj
def cpSt (s k : sSt) : sSt := ((va_cpy s.1.1 k.1.1 0 0 8, s.1.2.1, cpy s.1.2.2.1 k.1.2.2.1 s.1.2.1, cpy s.1.2.2.2 k.1.2.2.2 s.1.2.1), (s.2.1.1, cpy s.2.1.2.1 k.2.1.2.1 s.2.1.1, cpy s.2.1.2.2 k.2.1.2.2 s.2.1.1), (s.2.2.1.1, cpy s.2.2.1.2.1 k.2.2.1.2.1 s.2.2.1.1, cpy s.2.2.1.2.2 k.2.2.1.2.2 s.2.2.1.1), (cpy s.2.2.2.1 k.2.2.2.1 36, cpy s.2.2.2.2.1 k.2.2.2.2.1 36, cpy s.2.2.2.2.2 k.2.2.2.2.2 36))
theorem cpSt_ok {s k : sSt} {f g : Nat → Int32} (h : rSt s f) : fX8_copyFrom k s = some (cpSt s k) ∧ rSt (cpSt s k) (cpy f g 160) := by
  have h' := h
  obtain ⟨⟨a1, a2, a3⟩, ⟨b1, b2, b3⟩, ⟨c1, c2, c3⟩, d⟩ := h'
  refine ⟨if_pos ⟨a1, b1, c1⟩, rSt_ext h (fun j hj => if_pos hj) rfl (fun j hj => ⟨?_, if_pos hj, if_pos hj⟩) rfl (fun j hj => ⟨if_pos hj, if_pos hj⟩) rfl (fun j hj => ⟨if_pos hj, if_pos hj⟩) (fun j hj => ⟨if_pos hj, if_pos hj, if_pos hj⟩)⟩
  show va_cpy s.1.1 k.1.1 0 0 8 j = _
  rw [pk_cpy_in (by omega) (by omega)]
  rw [show 0 + (j - 0) = j by omega]
theorem keep_loop {fu : Nat} (S : gS) : ∀ (j k : Nat), k ≤ 160 → 160 - k < j → lX11_keep_2 fu j (nI k) (sA S 1 (cpy (iA S 0) (iA S 1) k)) = some (1, sI (sA S 1 (cpy (iA S 0) (iA S 1) 160)) 2 1) := by
  intro j
  induction j with
  | zero => intro k _ hj; exact absurd hj (Nat.not_lt_zero _)
  | succ j ih =>
    intro k hk hj
    rw [lX11_keep_2]
    by_cases e : k = 160
    · subst e
      rw [if_pos (by decide)]
      rfl
    · rw [if_neg (show ¬ (160 : Int32) ≤ nI k from nI_ge (b := 160) (by omega) (by decide)), gIx_n (by omega) (by decide)]
      simp only [Option.bind_some]
      rw [sAu_sA, nI_1, show iA (sA S 1 (cpy (iA S 0) (iA S 1) k)) 0 k = iA S 0 k from rfl, cpy_s]
      exact ih (k + 1) (by omega) (by omega)
theorem p_keep {fu : Nat} (hfu : 200 ≤ fu) : St_keep fu := by
  intro T S c h hc
  obtain ⟨h1, h2, h3, h4, h5, h6, h7, h8, h9⟩ := rR_mono h
  unfold fX10_keep fX11_keep
  have hk := cpSt_ok (k := T.2.1) (g := iA S 1) h1
  rw [hk.1]
  have hl := keep_loop (fu := fu) S fu 0 (by omega) (by omega)
  rw [cpy_0, sA_self, nI_0] at hl
  rw [hl]
  refine rOk_of rfl rfl rfl ?_
  unfold rR
  exact ⟨h1, ⟨rfl, fun _ => hk.2⟩, h3, h4, h5, h6, h7, h8, h9⟩
theorem back_loop {fu : Nat} (S : gS) : ∀ (j k : Nat), k ≤ 160 → 160 - k < j → lX11_back_17 fu j (nI k) (sA S 0 (cpy (iA S 1) (iA S 0) k)) = some (1, sI (sA S 0 (cpy (iA S 1) (iA S 0) 160)) 12 0) := by
  intro j
  induction j with
  | zero => intro k _ hj; exact absurd hj (Nat.not_lt_zero _)
  | succ j ih =>
    intro k hk hj
    rw [lX11_back_17]
    by_cases e : k = 160
    · subst e
      rw [if_pos (by decide)]
      rfl
    · rw [if_neg (show ¬ (160 : Int32) ≤ nI k from nI_ge (b := 160) (by omega) (by decide)), gIx_n (by omega) (by decide)]
      simp only [Option.bind_some]
      rw [sAu_sA, nI_1, show iA (sA S 0 (cpy (iA S 1) (iA S 0) k)) 1 k = iA S 1 k from rfl, cpy_s]
      exact ih (k + 1) (by omega) (by omega)
theorem p_back {fu : Nat} (hfu : 200 ≤ fu) : St_back fu := by
  intro T S c h hc
  obtain ⟨h1, h2, h3, h4, h5, h6, h7, h8, h9⟩ := rR_mono h
  obtain ⟨k1, k2⟩ := id h2
  unfold fX10_back fX11_back
  rw [k1]
  cases hb : T.2.2.1
  · simp only [Bool.false_eq_true, if_false, obind_eta]
    rw [if_pos bI_ff]
    exact ref2 h hc
  · simp only [if_true]
    rw [if_neg (show ¬ bI true = 0 by decide)]
    have hk := cpSt_ok (k := T.1) (g := iA S 0) (k2 hb)
    rw [hk.1]
    have hl := back_loop (fu := fu) S fu 0 (by omega) (by omega)
    rw [cpy_0, sA_self, nI_0] at hl
    rw [hl]
    refine rOk_of rfl rfl rfl ?_
    unfold rR
    exact ⟨hk.2, h2, h3, h4, ⟨rfl, h5.2.1, h5.2.2.1, fun q => by cases q⟩, h6, h7, h8, h9⟩
