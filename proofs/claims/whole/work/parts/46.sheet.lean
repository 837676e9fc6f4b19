/-! drop, sheet, put -/
theorem gIx_a1 {a j n : Nat} (x : Int32) (hx : x = nI a) (h : a + j + 1 < n) (hn : n < 2 ^ 31) : gIx (x + nI j + 1) n = some (a + j + 1) := by
  subst hx
  rw [nI_add, nI_1]
  exact gIx_n h hn
def drF (f : Nat → Int32) (k t : Nat) : Nat → Int32 := fun j => if (32 + k ≤ j ∧ j < 32 + t) ∨ (52 + k ≤ j ∧ j < 52 + t) then f (j + 1) else f j
theorem drF_0 (f : Nat → Int32) (k : Nat) : drF f k k = f := by
  funext j
  exact if_neg (by omega)
theorem drF_n {f : Nat → Int32} {k t j : Nat} (h : j < 32 ∨ 72 ≤ j) (ht : t ≤ 20) : drF f k t j = f j := if_neg (by omega)
theorem drF_s (f : Nat → Int32) {k t : Nat} (h : k ≤ t) (ht : t < 19) : upd (upd (drF f k t) (32 + t) (drF f k t (32 + t + 1))) (52 + t) (upd (drF f k t) (32 + t) (drF f k t (32 + t + 1)) (52 + t + 1)) = drF f k (t + 1) := by
  have e1 : drF f k t (32 + t + 1) = f (32 + t + 1) := if_neg (by omega)
  have e2 : upd (drF f k t) (32 + t) (drF f k t (32 + t + 1)) (52 + t + 1) = f (52 + t + 1) := by
    rw [pk_un (by omega)]
    exact if_neg (by omega)
  rw [e2, e1]
  funext j
  by_cases j1 : j = 52 + t
  · rw [j1, pk_us]
    exact (if_pos (by omega)).symm
  · rw [pk_un j1]
    by_cases j2 : j = 32 + t
    · rw [j2, pk_us]
      exact (if_pos (by omega)).symm
    · rw [pk_un j2]
      unfold drF
      by_cases c : (32 + k ≤ j ∧ j < 32 + t) ∨ (52 + k ≤ j ∧ j < 52 + t)
      · rw [if_pos c, if_pos (by omega)]
      · rw [if_neg c, if_neg (by omega)]
theorem drop_loop {fu : Nat} (v : Int32) (S : gS) (g : Nat → Int32) {k n : Nat} (hn : n ≤ 19) (hg : g 1 = nI n) : ∀ (j t : Nat), k ≤ t → t ≤ n → n - t < j → lX11_drop_28 fu v j (nI t) (sA S 0 (drF g k t)) = some ((nI n).toInt64, sI (sA S 0 (drF g k n)) 13 1) := by
  intro j
  induction j with
  | zero => intro t _ _ hj; exact absurd hj (Nat.not_lt_zero _)
  | succ j ih =>
    intro t h1 h2 hj
    rw [lX11_drop_28]
    have e1 : iA (sA S 0 (drF g k t)) 0 1 = nI n := by
      show drF g k t 1 = nI n
      rw [drF_n (by omega) (by omega), hg]
    rw [e1]
    by_cases e : t = n
    · subst e
      rw [if_pos (nI_le (Nat.le_refl _) (by omega))]
      simp only [Option.bind_some]
      show some ((iA (sA S 0 (drF g k t)) 0 1).toInt64, _) = _
      rw [e1]
    · rw [if_neg (nI_ge (by omega) (by omega)), gIx_a1 (a := 32) 32 rfl (by omega) (by decide), gIx_a (a := 32) 32 rfl (by omega) (by decide), gIx_a1 (a := 52) 52 rfl (by omega) (by decide), gIx_a (a := 52) 52 rfl (by omega) (by decide)]
      simp only [Option.bind_some]
      rw [sAu_sA, sAu_sA, nI_1]
      show lX11_drop_28 fu v j (nI (t + 1)) (sA S 0 (upd (upd (drF g k t) (32 + t) (drF g k t (32 + t + 1))) (52 + t) (upd (drF g k t) (32 + t) (drF g k t (32 + t + 1)) (52 + t + 1)))) = _
      rw [drF_s g h1 (by omega)]
      exact ih (t + 1) (by omega) (by omega) (by omega)
theorem rSt_drop {s : sSt} {f : Nat → Int32} (h : rSt s f) {k : Nat} (hk : k < s.2.1.1) : rSt (s.1, (s.2.1.1 - 1, shl s.2.1.2.1 k (s.2.1.1 - 1), shl s.2.1.2.2 k (s.2.1.1 - 1)), s.2.2) (drF (upd f 1 (nI (s.2.1.1 - 1))) k (s.2.1.1 - 1)) := by
  obtain ⟨⟨a1, a2, a3⟩, ⟨b1, b2, b3⟩, ⟨c1, c2, c3⟩, d⟩ := h
  unfold rSt
  have e0 : ∀ j, j < 32 ∨ 72 ≤ j → j ≠ 1 → drF (upd f 1 (nI (s.2.1.1 - 1))) k (s.2.1.1 - 1) j = f j := fun j h1 h2 => by rw [drF_n h1 (by omega), pk_un h2]
  refine ⟨⟨a1, ?_, fun j hj => ?_⟩, ⟨?_, ?_, fun j hj => ?_⟩, ⟨c1, ?_, fun j hj => ?_⟩, fun j hj => ?_⟩
  · rw [e0 _ (by omega) (by omega)]; exact a2
  · have hj' : j < s.1.2.1 := hj
    rw [e0 _ (by omega) (by omega), e0 _ (by omega) (by omega), e0 _ (by omega) (by omega)]; exact a3 j hj
  · show s.2.1.1 - 1 ≤ 20
    omega
  · rw [drF_n (by omega) (by omega), pk_us]
  · have hj' : j < s.2.1.1 - 1 := hj
    show _ = shl _ _ _ j ∧ _ = shl _ _ _ j ∧ wit (shl _ _ _ j) _ _ = true ∧ wit (shl _ _ _ j) _ _ = true
    by_cases e : k ≤ j
    · have s1 : ∀ g : Nat → Int32, shl g k (s.2.1.1 - 1) j = g (j + 1) := fun g => if_pos ⟨e, hj'⟩
      have d1 : drF (upd f 1 (nI (s.2.1.1 - 1))) k (s.2.1.1 - 1) (32 + j) = f (32 + (j + 1)) := by
        unfold drF
        rw [if_pos (by omega), pk_un (by omega)]
        rfl
      have d2 : drF (upd f 1 (nI (s.2.1.1 - 1))) k (s.2.1.1 - 1) (52 + j) = f (52 + (j + 1)) := by
        unfold drF
        rw [if_pos (by omega), pk_un (by omega)]
        rfl
      rw [s1, s1, d1, d2]
      exact b3 (j + 1) (by omega)
    · have s1 : ∀ g : Nat → Int32, shl g k (s.2.1.1 - 1) j = g j := fun g => if_neg (by omega)
      have d1 : drF (upd f 1 (nI (s.2.1.1 - 1))) k (s.2.1.1 - 1) (32 + j) = f (32 + j) := by
        unfold drF
        rw [if_neg (by omega), pk_un (by omega)]
      have d2 : drF (upd f 1 (nI (s.2.1.1 - 1))) k (s.2.1.1 - 1) (52 + j) = f (52 + j) := by
        unfold drF
        rw [if_neg (by omega), pk_un (by omega)]
      rw [s1, s1, d1, d2]
      exact b3 j (by omega)
  · rw [e0 _ (by omega) (by omega)]; exact c2
  · have hj' : j < s.2.2.1.1 := hj
    rw [e0 _ (by omega) (by omega), e0 _ (by omega) (by omega)]; exact c3 j hj
  · rw [e0 _ (by omega) (by omega), e0 _ (by omega) (by omega)]; exact d j hj
theorem p_drop {fu : Nat} (hfu : 40 ≤ fu) : St_drop fu := by
  intro T S c h hc v0
  obtain ⟨h1, h2, h3, h4, h5, h6, h7, h8, h9⟩ := id h
  have h1' := h1
  obtain ⟨-, ⟨b1, b2, b3⟩, -⟩ := h1
  unfold fX10_drop fX11_drop
  rw [phas_eq (by omega), isReading_eq h1', b2]
  simp only [Option.bind_some, obind_eta, fX6_growStale]
  cases hp : pin v0 T.1.2.1.1
  · simp only [Bool.false_eq_true, if_false]
    exact ref1 h hc
  · obtain ⟨k, hk, rfl⟩ := pin_ex hp (by omega)
    simp only [if_true]
    have ha : fX3_removeAt 20 (st_X10_5 T (T.2.2.2.2.2.1.1, true, T.2.2.2.2.2.1.2.2)).1.2.1 (nI k) = some (T.1.2.1.1 - 1, shl T.1.2.1.2.1 k (T.1.2.1.1 - 1), shl T.1.2.1.2.2 k (T.1.2.1.1 - 1)) := by
      show (gIx (nI k) T.1.2.1.1).bind _ = _
      rw [gIx_n hk (by omega)]
      exact if_pos ⟨b1, by decide⟩
    rw [ha, nI_m1 (by omega)]
    simp only [Option.bind_some, fX3_length]
    have hl := drop_loop (fu := fu) (nI k) S (upd (iA S 0) 1 (nI (T.1.2.1.1 - 1))) (k := k) (n := T.1.2.1.1 - 1) (by omega) pk_us fu k (Nat.le_refl _) (by omega) (by omega)
    rw [drF_0] at hl
    rw [sAu_eq, hl]
    refine rOk_of rfl rfl rfl ?_
    obtain ⟨h1, h2, h3, h4, h5, h6, h7, h8, h9⟩ := rR_mono h
    unfold rR
    exact ⟨rSt_drop h1 hk, h2, h3, h4, rFo_stale h5, h6, h7, h8, h9⟩
theorem wit_m {v : Int32} {m : Nat} (M : Int32) (hM : M.toInt = m) (hm : m + 1 < 2 ^ 31) (h : wit v (-1) M = true) : v = -1 ∨ ∃ k, k ≤ m ∧ v = nI k := by
  simp only [wit, Bool.and_eq_true, decide_eq_true_eq, i32_le] at h
  have e1 : (-1 : Int32).toInt = -1 := rfl
  rw [e1, hM] at h
  by_cases q : v.toInt = -1
  · exact Or.inl (Int32.toInt_inj.mp q)
  · obtain ⟨k, k1, k2⟩ := vp_in_of (x := v) (n := m + 1) (vp_in_iff.mpr ⟨by omega, by omega⟩) (by omega)
    exact Or.inr ⟨k, by omega, k2⟩
/-- a sheet's first places, laid out anew -/
def lyF (f : Nat → Int32) (a t : Nat) : Nat → Int32 := fun j => if a ≤ j ∧ j < a + t then -32768 else f j
theorem lyF_0 (f : Nat → Int32) (a : Nat) : lyF f a 0 = f := by
  funext j
  exact if_neg (by omega)
theorem lyF_s (f : Nat → Int32) (a t : Nat) : upd (lyF f a t) (a + t) (-32768) = lyF f a (t + 1) := by
  funext j
  by_cases e : j = a + t
  · rw [e, pk_us]
    exact (if_pos (by omega)).symm
  · rw [pk_un e]
    unfold lyF
    by_cases c : a ≤ j ∧ j < a + t
    · rw [if_pos c, if_pos (by omega)]
    · rw [if_neg c, if_neg (by omega)]
theorem ix36 {k j : Nat} (hk : k < 3) (hj : j < 36) : gIx ((36 : Int32) * nI k + nI j) 108 = some (36 * k + j) := by
  rw [show (36 : Int32) = nI 36 from rfl, pk_mul, nI_add]
  exact gIx_n (by omega) (by decide)
theorem sheet_loop {fu : Nat} (S : gS) (g : Nat → Int32) {k m : Nat} (hk : k < 3) (hm : m ≤ 36) : ∀ (j t : Nat), t ≤ m → m - t < j → lX11_sheet_53 fu (nI k) (nI m) j (nI t) (sA S 3 (lyF g (36 * k) t)) = some ((nI m).toInt64, sA S 3 (lyF g (36 * k) m)) := by
  intro j
  induction j with
  | zero => intro t _ hj; exact absurd hj (Nat.not_lt_zero _)
  | succ j ih =>
    intro t h2 hj
    rw [lX11_sheet_53]
    by_cases e : t = m
    · subst e
      rw [if_pos (nI_le (Nat.le_refl _) (by omega))]
    · rw [if_neg (nI_ge (by omega) (by omega)), ix36 hk (by omega)]
      simp only [Option.bind_some]
      rw [sAu_sA, nI_1, lyF_s]
      exact ih (t + 1) (by omega) (by omega)
theorem p_sheet {fu : Nat} (hfu : 40 ≤ fu) : St_sheet fu := by
  intro T S c h hc v0 v1
  obtain ⟨h1, h2, h3, h4, h5, h6, h7, h8, h9⟩ := id h
  unfold fX10_sheet fX11_sheet
  rw [in_eq]
  simp only [Option.bind_some, obind_eta, fX5_isSheet]
  cases hw : wit v0 0 2
  · simp only [Bool.false_eq_true, if_false]
    exact ref1 h hc
  obtain ⟨k, hk, rfl⟩ := wit_shk hw
  simp only [if_true]
  by_cases e1 : (-1 : Int32) ≤ v1
  · rw [if_pos e1, if_pos e1]
    by_cases e2 : v1 ≤ 36
    · rw [if_pos e2, if_pos e2]
      have hwit : wit v1 (-1) 36 = true := by rw [wit, decide_eq_true e1, decide_eq_true e2]; rfl
      have ha : fX5_layOut T.2.2.2.1 (nI k) v1 = some (upd T.2.2.2.1.1 k v1, upd2 T.2.2.2.1.2 k (fillI (-32768) (T.2.2.2.1.2 k) 36)) := by
        unfold fX5_layOut
        rw [gIx_n hk (by decide)]
        exact if_pos hwit
      rw [ha, gIx_n hk (by decide)]
      simp only [Option.bind_some]
      obtain ⟨g1, g2, g3, g4, g5, g6, g7, g8, g9⟩ := rR_mono h
      -- the reference's sheet behind its loop
      have hl : ∃ F : Nat → Int32, lX11_sheet_53 fu (nI k) v1 fu 0 (sAu S 4 k v1) = some (v1.toInt64, sA (sAu S 4 k v1) 3 F) ∧ (∀ j : Nat, (j : Int) < v1.toInt → F (36 * k + j) = -32768) ∧ (∀ i j : Nat, i < 3 → i ≠ k → j < 36 → F (36 * i + j) = iA S 3 (36 * i + j)) := by
        rcases wit_m (m := 36) 36 rfl (by decide) hwit with rfl | ⟨m, hm, rfl⟩
        · refine ⟨iA S 3, ?_, fun j hj => ?_, fun i j _ _ _ => rfl⟩
          · obtain ⟨n, rfl⟩ : ∃ n, fu = n + 1 := ⟨fu - 1, by omega⟩
            rw [lX11_sheet_53, if_pos (by decide)]
            rw [show sA (sAu S 4 k (-1)) 3 (iA S 3) = sAu S 4 k (-1) from sA_self (sAu S 4 k (-1)) 3]
          · have e : (-1 : Int32).toInt = -1 := rfl
            rw [e] at hj
            omega
        · have hs := sheet_loop (fu := fu) (sAu S 4 k (nI m)) (iA S 3) hk hm fu 0 (by omega) (by omega)
          rw [lyF_0, nI_0] at hs
          rw [show sA (sAu S 4 k (nI m)) 3 (iA S 3) = sAu S 4 k (nI m) from sA_self (sAu S 4 k (nI m)) 3] at hs
          refine ⟨_, hs, fun j hj => ?_, fun i j hi hik hj => ?_⟩
          · rw [nI_toInt (by omega)] at hj
            exact if_pos (by omega)
          · exact if_neg (by omega)
      obtain ⟨F, f1, f2, f3⟩ := hl
      rw [f1]
      refine rOk_of rfl rfl rfl ?_
      unfold rR
      refine ⟨g1, g2, fun i hi => ?_, g4, g5, g6, g7, g8, g9⟩
      show upd (iA S 4) k v1 i = upd T.2.2.2.1.1 k v1 i ∧ wit (upd T.2.2.2.1.1 k v1 i) (-1) 36 = true ∧ ∀ j : Nat, (j : Int) < (upd T.2.2.2.1.1 k v1 i).toInt → F (36 * i + j) = upd2 T.2.2.2.1.2 k (fillI (-32768) (T.2.2.2.1.2 k) 36) i j
      obtain ⟨q1, q2, q3⟩ := g3 i hi
      by_cases e : i = k
      · rw [e, pk_us, pk_us]
        refine ⟨rfl, hwit, fun j hj => ?_⟩
        rw [f2 j hj]
        have h36 : v1.toInt ≤ 36 := by rw [i32_le] at e2; exact e2
        show -32768 = upd2 T.2.2.2.1.2 k (fillI (-32768) (T.2.2.2.1.2 k) 36) k j
        rw [show upd2 T.2.2.2.1.2 k (fillI (-32768) (T.2.2.2.1.2 k) 36) k = fillI (-32768) (T.2.2.2.1.2 k) 36 from if_pos rfl]
        exact (if_pos (by omega)).symm
      · rw [pk_un e, pk_un e]
        refine ⟨q1, q2, fun j hj => ?_⟩
        have h36 : (T.2.2.2.1.1 i).toInt ≤ 36 := by
          simp only [wit, Bool.and_eq_true, decide_eq_true_eq, i32_le] at q2
          exact q2.2
        rw [f3 i j hi e (by omega), q3 j hj, show upd2 T.2.2.2.1.2 k (fillI (-32768) (T.2.2.2.1.2 k) 36) i = T.2.2.2.1.2 i from if_neg e]
    · rw [if_neg e2, if_neg e2]
      exact ref1 h hc
  · rw [if_neg e1, if_neg e1]
    exact ref4 h hc
