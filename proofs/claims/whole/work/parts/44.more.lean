/-! cause, as, span -/
theorem bI_tt : bI true = 1 := rfl
theorem bI_ff : bI false = 0 := rfl
theorem cause_j (fu : Nat) (S : gS) (x a b : Int32) : fX11_cause fu S x a b = jX11_cause_107 fu x a b (bI (allw x a b)) S := by
  unfold fX11_cause
  have A1 : ∀ x : Int32, jX11_cause_46 fu x a b S = jX11_cause_107 fu x a b (bI (wit a 0 3 && wit b 1 3)) S := fun x => by
    unfold jX11_cause_46 jX11_cause_68 jX11_cause_69
    rw [in_eq, in_eq]
    cases wit a 0 3
    · rfl
    · cases wit b 1 3 <;> rfl
  have A2 : ∀ x : Int32, jX11_cause_74 fu x a b S = jX11_cause_107 fu x a b (bI (wit a (-2) 2 && wit b (-2) 2)) S := fun x => by
    unfold jX11_cause_74 jX11_cause_98 jX11_cause_99
    rw [in_eq, in_eq]
    cases wit a (-2) 2
    · rfl
    · cases wit b (-2) 2 <;> rfl
  by_cases e0 : x = 0
  · subst e0; rfl
  rw [if_neg e0]
  by_cases e1 : x = 1
  · subst e1; rw [if_pos rfl, A1]; rfl
  rw [if_neg e1]
  by_cases e2 : x = 2
  · subst e2; rw [if_pos rfl, A2]; rfl
  rw [if_neg e2]
  by_cases e3 : x = 3
  · subst e3; rw [if_pos rfl, A2]; rfl
  rw [if_neg e3]
  by_cases e4 : x = 4
  · subst e4; rw [if_pos rfl, A2]; rfl
  rw [if_neg e4]
  by_cases e5 : x = 5
  · subst e5; rw [if_pos rfl, A1]; rfl
  rw [if_neg e5]
  have t : ∀ (k : Int32) (n : Int), k.toInt = n → ¬ x = k → ¬ x.toInt = n := fun k n h1 h2 h3 => h2 (Int32.toInt_inj.mp (h3.trans h1.symm))
  have n0 := t 0 0 rfl e0
  have n1 := t 1 1 rfl e1
  have n2 := t 2 2 rfl e2
  have n3 := t 3 3 rfl e3
  have n4 := t 4 4 rfl e4
  have n5 := t 5 5 rfl e5
  rw [allw, if_neg n0, if_neg (by omega), if_neg (by omega)]
  rfl
theorem up4_n {f : Nat → Int32} {a b c d j : Nat} {x y z w : Int32} (h1 : j ≠ a) (h2 : j ≠ b) (h3 : j ≠ c) (h4 : j ≠ d) : upd (upd (upd (upd f a x) b y) c z) d w j = f j := by rw [pk_un h4, pk_un h3, pk_un h2, pk_un h1]
theorem pin_up {i : Int32} {n : Nat} (h : pin i n = true) : pin i (n + 1) = true := by
  simp only [pin, Bool.and_eq_true, decide_eq_true_eq] at h ⊢
  exact ⟨h.1, by omega⟩
theorem rSt_cause {s : sSt} {f : Nat → Int32} (h : rSt s f) (hn : s.1.2.1 < 8) {x a b w : Int32} (hx : allw x a b = true) (hw : w = nI (s.1.2.1 + 1)) : rSt ((upd s.1.1 s.1.2.1 x, s.1.2.1 + 1, upd s.1.2.2.1 s.1.2.1 a, upd s.1.2.2.2 s.1.2.1 b), s.2) (upd (upd (upd (upd f (8 + s.1.2.1) x) (16 + s.1.2.1) a) (24 + s.1.2.1) b) 0 w) := by
  obtain ⟨⟨a1, a2, a3⟩, ⟨b1, b2, b3⟩, ⟨c1, c2, c3⟩, d⟩ := h
  unfold rSt
  refine ⟨⟨hn, ?_, fun j hj => ?_⟩, ⟨b1, ?_, fun j hj => ?_⟩, ⟨c1, ?_, fun j hj => ?_⟩, fun j hj => ?_⟩
  · rw [pk_us]; exact hw
  · have hj' : j < s.1.2.1 + 1 := hj
    show _ = upd _ _ _ j ∧ _ = upd _ _ _ j ∧ _ = upd _ _ _ j ∧ allw (upd _ _ _ j) (upd _ _ _ j) (upd _ _ _ j) = true
    by_cases e : j = s.1.2.1
    · rw [e, pk_us, pk_us, pk_us]
      refine ⟨?_, ?_, ?_, hx⟩
      · rw [pk_un (by omega), pk_un (by omega), pk_un (by omega), pk_us]
      · rw [pk_un (by omega), pk_un (by omega), pk_us]
      · rw [pk_un (by omega), pk_us]
    · rw [up4_n (by omega) (by omega) (by omega) (by omega), up4_n (by omega) (by omega) (by omega) (by omega), up4_n (by omega) (by omega) (by omega) (by omega), upd_lt (by omega), upd_lt (by omega), upd_lt (by omega)]
      exact a3 j (by omega)
  · rw [up4_n (by omega) (by omega) (by omega) (by omega)]; exact b2
  · have hj' : j < s.2.1.1 := hj
    rw [up4_n (by omega) (by omega) (by omega) (by omega), up4_n (by omega) (by omega) (by omega) (by omega)]; exact b3 j hj
  · rw [up4_n (by omega) (by omega) (by omega) (by omega)]; exact c2
  · have hj' : j < s.2.2.1.1 := hj
    rw [up4_n (by omega) (by omega) (by omega) (by omega), up4_n (by omega) (by omega) (by omega) (by omega)]
    obtain ⟨g1, g2, g3, g4⟩ := c3 j hj
    exact ⟨g1, g2, pin_up g3, g4⟩
  · rw [up4_n (by omega) (by omega) (by omega) (by omega), up4_n (by omega) (by omega) (by omega) (by omega)]; exact d j hj
theorem allw_kind {x a b : Int32} (h : allw x a b = true) : wit x 0 5 = true := by
  rcases kd_cases h with rfl | ⟨rfl | rfl, -⟩ | ⟨rfl | rfl | rfl, -⟩ <;> decide
theorem allw_0 {x a b : Int32} (h : allw x a b = true) : allw x (if x = 0 then 0 else a) (if x = 0 then 0 else b) = true := by
  by_cases e : x = 0
  · subst e; rfl
  · rw [if_neg e, if_neg e]; exact h
theorem p_cause (fu : Nat) : St_cause fu := by
  intro T S c h hc v0 v1 v2
  obtain ⟨h1, h2, h3, h4, h5, h6, h7, h8, h9⟩ := id h
  have h1' := h1
  obtain ⟨⟨a1, a2, a3⟩, -⟩ := h1
  rw [cause_j]
  unfold fX10_cause jX11_cause_107
  have hfull : fX0_isFull T.1.1 = some (decide (8 ≤ T.1.1.2.1)) := if_pos a1
  rw [hfull, a2]
  simp only [Option.bind_some, obind_eta, fX0_allows, fX6_growStale]
  cases hp : allw v0 v1 v2
  · rw [if_pos bI_ff]
    simp only [Bool.false_eq_true, if_false]
    exact ref1 h hc
  · rw [if_neg (show ¬ bI true = 0 by decide)]
    simp only [if_true]
    by_cases hf : T.1.1.2.1 = 8
    · rw [if_pos (by rw [hf]; decide), if_pos ((nI_is 8 rfl (by omega) (by decide)).mpr hf)]
      exact ref5 h hc
    · rw [if_neg (by simp; omega), if_neg (fun q => hf ((nI_is 8 rfl (by omega) (by decide)).mp q))]
      have ha : fX0_append (st_X10_5 T (T.2.2.2.2.2.1.1, true, T.2.2.2.2.2.1.2.2)).1.1 v0 v1 v2 = some (nI T.1.1.2.1, (upd T.1.1.1 T.1.1.2.1 v0, T.1.1.2.1 + 1, upd T.1.1.2.2.1 T.1.1.2.1 (if v0 = 0 then 0 else v1), upd T.1.1.2.2.2 T.1.1.2.1 (if v0 = 0 then 0 else v2))) := by
        show (if T.1.1.2.1 < 8 ∧ wit v0 0 5 = true then _ else none) = _
        rw [if_pos ⟨by omega, allw_kind hp⟩]
        rfl
      rw [ha, gIx_a (a := 8) 8 rfl (by omega) (by decide)]
      simp only [Option.bind_some]
      have hj : ∀ (S1 : gS) (p q : Int32), jX11_cause_172 fu v0 v1 v2 (nI T.1.1.2.1) p (16 + nI T.1.1.2.1) S1 = some ((nI T.1.1.2.1).toInt64, sI (sAu (sAu (sAu S1 0 (16 + T.1.1.2.1) p) 0 (24 + T.1.1.2.1) (if v0 = 0 then 0 else v2)) 0 0 (iA (sAu (sAu S1 0 (16 + T.1.1.2.1) p) 0 (24 + T.1.1.2.1) (if v0 = 0 then 0 else v2)) 0 0 + 1)) 13 1) := fun S1 p q => by
        unfold jX11_cause_172 jX11_cause_191
        rw [gIx_a (a := 16) 16 rfl (by omega) (by decide), gIx_a (a := 24) 24 rfl (by omega) (by decide)]
        simp only [Option.bind_some]
        by_cases e : v0 = 0
        · rw [if_pos e, if_pos e]
        · rw [if_neg e, if_neg e]
      rw [hj _ _ 0, hj _ _ 0]
      have he : (if v0 = 0 then some ((nI T.1.1.2.1).toInt64, sI (sAu (sAu (sAu (sAu S 0 (8 + T.1.1.2.1) v0) 0 (16 + T.1.1.2.1) 0) 0 (24 + T.1.1.2.1) (if v0 = 0 then 0 else v2)) 0 0 (iA (sAu (sAu (sAu S 0 (8 + T.1.1.2.1) v0) 0 (16 + T.1.1.2.1) 0) 0 (24 + T.1.1.2.1) (if v0 = 0 then 0 else v2)) 0 0 + 1)) 13 1) else some ((nI T.1.1.2.1).toInt64, sI (sAu (sAu (sAu (sAu S 0 (8 + T.1.1.2.1) v0) 0 (16 + T.1.1.2.1) v1) 0 (24 + T.1.1.2.1) (if v0 = 0 then 0 else v2)) 0 0 (iA (sAu (sAu (sAu S 0 (8 + T.1.1.2.1) v0) 0 (16 + T.1.1.2.1) v1) 0 (24 + T.1.1.2.1) (if v0 = 0 then 0 else v2)) 0 0 + 1)) 13 1)) = some ((nI T.1.1.2.1).toInt64, sI (sAu (sAu (sAu (sAu S 0 (8 + T.1.1.2.1) v0) 0 (16 + T.1.1.2.1) (if v0 = 0 then 0 else v1)) 0 (24 + T.1.1.2.1) (if v0 = 0 then 0 else v2)) 0 0 (nI (T.1.1.2.1 + 1))) 13 1) := by
        have hz : ∀ p q : Int32, iA (sAu (sAu (sAu S 0 (8 + T.1.1.2.1) v0) 0 (16 + T.1.1.2.1) p) 0 (24 + T.1.1.2.1) q) 0 0 + 1 = nI (T.1.1.2.1 + 1) := fun p q => by
          show upd (upd (upd (iA S 0) (8 + T.1.1.2.1) v0) (16 + T.1.1.2.1) p) (24 + T.1.1.2.1) q 0 + 1 = _
          rw [up3_n (by omega) (by omega) (by omega), a2, nI_1]
        rw [hz, hz]
        by_cases e : v0 = 0
        · rw [if_pos e, if_pos e, if_pos e]
        · rw [if_neg e, if_neg e, if_neg e]
      rw [he]
      refine rOk_of rfl rfl rfl ?_
      have hm := rR_mono h
      obtain ⟨h1, h2, h3, h4, h5, h6, h7, h8, h9⟩ := hm
      unfold rR
      exact ⟨rSt_cause h1 (by omega) (allw_0 hp) rfl, h2, h3, h4, rFo_stale h5, h6, h7, h8, h9⟩
def asB (o k : Nat) : Bool := decide (k = 0) || (decide (o = k) || ((decide (o = 5) && decide (k = 1)) || (decide (o = 3) && decide (k = 2))))
set_option maxRecDepth 100000 in
theorem isOf_ok (fu n : Nat) (s : sCa) (v : Int32) {o k : Nat} (ho : o < 6) (hk : k < 6) : lX0_isOf_20 fu s v (nI k) (n + 7) (nI o) 0 = some (asB o k) := by
  rcases (show o = 0 ∨ o = 1 ∨ o = 2 ∨ o = 3 ∨ o = 4 ∨ o = 5 by omega) with rfl | rfl | rfl | rfl | rfl | rfl <;> rcases (show k = 0 ∨ k = 1 ∨ k = 2 ∨ k = 3 ∨ k = 4 ∨ k = 5 by omega) with rfl | rfl | rfl | rfl | rfl | rfl <;> rfl
theorem p_as {fu : Nat} (hfu : 10 ≤ fu) : St_as fu := by
  intro T S c h hc v0 v1
  obtain ⟨h1, h2, h3, h4, h5, h6, h7, h8, h9⟩ := id h
  have h1' := h1
  obtain ⟨⟨a1, a2, a3⟩, -⟩ := h1
  unfold fX10_as fX11_as fX0_isOf
  rw [has_eq a1, isCause_eq h1', in_eq]
  simp only [Option.bind_some, obind_eta, fX0_isKind]
  cases hp : pin v0 T.1.1.2.1
  · simp only [Bool.false_eq_true, if_false]
    exact ref1 h hc
  · obtain ⟨j, hj, rfl⟩ := pin_ex hp (by omega)
    simp only [if_true]
    cases hw : wit v1 0 5
    · simp only [Bool.false_eq_true, if_false]
      exact ref1 h hc
    · simp only [if_true]
      obtain ⟨k, hk, rfl⟩ := wit_nat (m := 5) 5 rfl (by decide) hw
      obtain ⟨e1, e2, e3, hal⟩ := a3 j hj
      obtain ⟨o, ho, eo⟩ := wit_nat (m := 5) 5 rfl (by decide) (allw_kind hal)
      obtain ⟨n, rfl⟩ : ∃ n, fu = n + 7 := ⟨fu - 7, by omega⟩
      rw [gIx_n (by omega) (by decide), gIx_a (a := 8) 8 rfl (by omega) (by decide)]
      simp only [Option.bind_some]
      rw [e1, eo, isOf_ok (n + 7) n T.1.1 (nI j) (by omega) (by omega)]
      simp only [Option.bind_some]
      have hA : fX0_numberA T.1.1 (nI j) = some (T.1.1.2.2.1 j) := by rw [fX0_numberA, if_pos a1, pget_lt hj (by omega)]
      rw [hA]
      have hy : ∀ S : gS, jX11_as_64 (n + 7) (nI j) (nI k) S = some ((iA S 0 (16 + j)).toInt64, S) := fun S => by
        unfold jX11_as_64 jX11_as_69
        rw [if_neg (by decide), gIx_a (a := 16) 16 rfl (by omega) (by decide)]
        rfl
      have hn : ∀ S : gS, jX11_as_68 (n + 7) (nI j) (nI k) S = fX11_tellFinding (n + 7) S (-9000000000000000003) := fun S => by
        unfold jX11_as_68 jX11_as_69
        rw [if_pos rfl, obind_eta]
      unfold jX11_as_54
      rw [hy, hn, e2]
      rcases (show o = 0 ∨ o = 1 ∨ o = 2 ∨ o = 3 ∨ o = 4 ∨ o = 5 by omega) with rfl | rfl | rfl | rfl | rfl | rfl <;> rcases (show k = 0 ∨ k = 1 ∨ k = 2 ∨ k = 3 ∨ k = 4 ∨ k = 5 by omega) with rfl | rfl | rfl | rfl | rfl | rfl <;> first | exact rOk_same h _ | exact ref3 (fu := n + 7) h hc
