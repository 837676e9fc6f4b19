/-! The stock grows: causes, readings, mends, spans. -/
theorem up3_n {f : Nat → Int32} {a b c j : Nat} {x y z : Int32} (h1 : j ≠ a) (h2 : j ≠ b) (h3 : j ≠ c) : upd (upd (upd f a x) b y) c z j = f j := by rw [pk_un h3, pk_un h2, pk_un h1]
theorem up3_a {f : Nat → Int32} {a b c : Nat} {x y z : Int32} (h2 : a ≠ b) (h3 : a ≠ c) : upd (upd (upd f a x) b y) c z a = x := by rw [pk_un h3, pk_un h2, pk_us]
theorem up3_b {f : Nat → Int32} {a b c : Nat} {x y z : Int32} (h3 : b ≠ c) : upd (upd (upd f a x) b y) c z b = y := by rw [pk_un h3, pk_us]
theorem up3_c {f : Nat → Int32} {a b c : Nat} {x y z : Int32} : upd (upd (upd f a x) b y) c z c = z := pk_us
theorem upd_lt {f : Nat → Int32} {n j : Nat} {x : Int32} (h : j < n) : upd f n x j = f j := pk_un (by omega)
theorem rSt_mend {s : sSt} {f : Nat → Int32} (h : rSt s f) (hn : s.2.2.1.1 < 8) {x y w : Int32} (hx : pin x s.1.2.1 = true) (hy : wit y (-200) 200 = true) (hw : w = nI (s.2.2.1.1 + 1)) : rSt (s.1, s.2.1, (s.2.2.1.1 + 1, upd s.2.2.1.2.1 s.2.2.1.1 x, upd s.2.2.1.2.2 s.2.2.1.1 y), s.2.2.2) (upd (upd (upd f (72 + s.2.2.1.1) x) (80 + s.2.2.1.1) y) 2 w) := by
  obtain ⟨⟨a1, a2, a3⟩, ⟨b1, b2, b3⟩, ⟨c1, c2, c3⟩, d⟩ := h
  unfold rSt
  refine ⟨⟨a1, ?_, fun j hj => ?_⟩, ⟨b1, ?_, fun j hj => ?_⟩, ⟨hn, ?_, fun j hj => ?_⟩, fun j hj => ?_⟩
  · rw [up3_n (by omega) (by omega) (by omega)]; exact a2
  · have hj' : j < s.1.2.1 := hj
    rw [up3_n (by omega) (by omega) (by omega), up3_n (by omega) (by omega) (by omega), up3_n (by omega) (by omega) (by omega)]; exact a3 j hj
  · rw [up3_n (by omega) (by omega) (by omega)]; exact b2
  · have hj' : j < s.2.1.1 := hj
    rw [up3_n (by omega) (by omega) (by omega), up3_n (by omega) (by omega) (by omega)]; exact b3 j hj
  · rw [up3_c]; exact hw
  · have hj' : j < s.2.2.1.1 + 1 := hj
    by_cases e : j = s.2.2.1.1
    · subst e
      rw [up3_a (by omega) (by omega), up3_b (by omega)]
      exact ⟨pk_us.symm, pk_us.symm, by show pin (upd _ _ _ _) _ = true; rw [pk_us]; exact hx, by show wit (upd _ _ _ _) _ _ = true; rw [pk_us]; exact hy⟩
    · rw [up3_n (by omega) (by omega) (by omega), up3_n (by omega) (by omega) (by omega)]
      show f (72 + j) = upd _ _ _ j ∧ f (80 + j) = upd _ _ _ j ∧ pin (upd _ _ _ j) _ = true ∧ wit (upd _ _ _ j) _ _ = true
      rw [upd_lt (by omega), upd_lt (by omega)]
      exact c3 j (by omega)
  · rw [up3_n (by omega) (by omega) (by omega), up3_n (by omega) (by omega) (by omega)]; exact d j hj
theorem rSt_read {s : sSt} {f : Nat → Int32} (h : rSt s f) (hn : s.2.1.1 < 20) {x y w : Int32} (hx : wit x 0 35 = true) (hy : wit y (-300) 300 = true) (hw : w = nI (s.2.1.1 + 1)) : rSt (s.1, (s.2.1.1 + 1, upd s.2.1.2.1 s.2.1.1 x, upd s.2.1.2.2 s.2.1.1 y), s.2.2) (upd (upd (upd f (32 + s.2.1.1) x) (52 + s.2.1.1) y) 1 w) := by
  obtain ⟨⟨a1, a2, a3⟩, ⟨b1, b2, b3⟩, ⟨c1, c2, c3⟩, d⟩ := h
  unfold rSt
  refine ⟨⟨a1, ?_, fun j hj => ?_⟩, ⟨hn, ?_, fun j hj => ?_⟩, ⟨c1, ?_, fun j hj => ?_⟩, fun j hj => ?_⟩
  · rw [up3_n (by omega) (by omega) (by omega)]; exact a2
  · have hj' : j < s.1.2.1 := hj
    rw [up3_n (by omega) (by omega) (by omega), up3_n (by omega) (by omega) (by omega), up3_n (by omega) (by omega) (by omega)]; exact a3 j hj
  · rw [up3_c]; exact hw
  · have hj' : j < s.2.1.1 + 1 := hj
    by_cases e : j = s.2.1.1
    · subst e
      rw [up3_a (by omega) (by omega), up3_b (by omega)]
      exact ⟨pk_us.symm, pk_us.symm, by show wit (upd _ _ _ _) _ _ = true; rw [pk_us]; exact hx, by show wit (upd _ _ _ _) _ _ = true; rw [pk_us]; exact hy⟩
    · rw [up3_n (by omega) (by omega) (by omega), up3_n (by omega) (by omega) (by omega)]
      show f (32 + j) = upd _ _ _ j ∧ f (52 + j) = upd _ _ _ j ∧ wit (upd _ _ _ j) _ _ = true ∧ wit (upd _ _ _ j) _ _ = true
      rw [upd_lt (by omega), upd_lt (by omega)]
      exact b3 j (by omega)
  · rw [up3_n (by omega) (by omega) (by omega)]; exact c2
  · have hj' : j < s.2.2.1.1 := hj
    rw [up3_n (by omega) (by omega) (by omega), up3_n (by omega) (by omega) (by omega)]; exact c3 j hj
  · rw [up3_n (by omega) (by omega) (by omega), up3_n (by omega) (by omega) (by omega)]; exact d j hj
theorem full_eq {cap : Nat} {s : sPr} (h : s.1 < 2 ^ 31) (h2 : cap < 2 ^ 31) : fX3_isFull cap s = some (decide (cap ≤ s.1)) := if_pos ⟨h, h2⟩
theorem app_eq {cap : Nat} {s : sPr} (h : s.1 < cap) (h2 : cap < 2 ^ 31) (x y : Int32) : fX3_append cap s x y = some (nI s.1, (s.1 + 1, upd s.2.1 s.1 x, upd s.2.2 s.1 y)) := if_pos ⟨h, h2⟩
theorem nI_is {n k : Nat} (x : Int32) (hx : x = nI k) (h1 : n < 2 ^ 31) (h2 : k < 2 ^ 31) : nI n = x ↔ n = k := by subst hx; exact nI_eq h1 h2
theorem p_mend (fu : Nat) : St_mend fu := by
  intro T S c h hc v0 v1
  obtain ⟨h1, h2, h3, h4, h5, h6, h7, h8, h9⟩ := id h
  have h1' := h1
  obtain ⟨⟨a1, a2, a3⟩, -, ⟨c1, c2, c3⟩, -⟩ := h1
  unfold fX10_mend fX11_mend
  rw [has_eq a1, isCause_eq h1', in_eq, full_eq (by omega) (by decide), c2]
  simp only [Option.bind_some, obind_eta, fX2_within]
  cases hp : pin v0 T.1.1.2.1
  · simp only [Bool.false_eq_true, if_false]
    exact ref1 h hc
  simp only [if_true]
  cases hw : wit v1 (-200) 200
  · simp only [Bool.false_eq_true, if_false]
    exact ref1 h hc
  simp only [if_true]
  by_cases hf : T.1.2.2.1.1 = 8
  · rw [if_pos (by rw [hf]; decide), if_pos ((nI_is 8 rfl (by omega) (by decide)).mpr hf)]
    exact ref5 h hc
  · rw [if_neg (by simp; omega), if_neg (fun q => hf ((nI_is 8 rfl (by omega) (by decide)).mp q)), app_eq (by omega) (by decide), gIx_a (a := 72) 72 rfl (by omega) (by decide), gIx_a (a := 80) 80 rfl (by omega) (by decide)]
    refine ⟨_, _, _, rfl, rfl, ?_⟩
    have hm := rR_mono h
    obtain ⟨h1, h2, h3, h4, h5, h6, h7, h8, h9⟩ := hm
    unfold rR
    refine ⟨rSt_mend h1 (by omega) hp hw ?_, h2, h3, h4, h5, h6, h7, h8, h9⟩
    show upd (upd (iA S 0) (72 + T.1.2.2.1.1) v0) (80 + T.1.2.2.1.1) v1 2 + 1 = _
    rw [pk_un (by omega), pk_un (by omega), c2, nI_1]
theorem rFo_stale {s s2 : sSt} {z : sSz} {i12 i13 i14 i15 : Int32} {f16 : Nat → Int32} {f17 : Nat → Int64} {l18 l19 : Int64} (h : rFo s z i12 i13 i14 i15 f16 f17 l18 l19) : rFo s2 (z.1, true, z.2.2) i12 1 i14 i15 f16 f17 l18 l19 := ⟨h.1, rfl, h.2.2.1, fun _ q => by cases q⟩
theorem p_read (fu : Nat) : St_read fu := by
  intro T S c h hc v0 v1
  obtain ⟨h1, h2, h3, h4, h5, h6, h7, h8, h9⟩ := id h
  have h1' := h1
  obtain ⟨-, ⟨b1, b2, b3⟩, -⟩ := h1
  unfold fX10_read fX11_read
  rw [isState_eq, in_eq, full_eq (by omega) (by decide), b2]
  simp only [Option.bind_some, obind_eta, fX10_isState, fX10_isRate, fX6_growStale]
  cases hp : wit v0 0 35
  · simp only [Bool.false_eq_true, if_false]
    exact ref1 h hc
  simp only [if_true]
  cases hw : wit v1 (-300) 300
  · simp only [Bool.false_eq_true, if_false]
    exact ref1 h hc
  simp only [if_true]
  by_cases hf : T.1.2.1.1 = 20
  · rw [if_pos (by rw [hf]; decide), if_pos ((nI_is 20 rfl (by omega) (by decide)).mpr hf)]
    exact ref5 h hc
  · rw [if_neg (by simp; omega), if_neg (fun q => hf ((nI_is 20 rfl (by omega) (by decide)).mp q))]
    have ha : fX3_append 20 (st_X10_5 T (T.2.2.2.2.2.1.1, true, T.2.2.2.2.2.1.2.2)).1.2.1 v0 v1 = some (nI T.1.2.1.1, (T.1.2.1.1 + 1, upd T.1.2.1.2.1 T.1.2.1.1 v0, upd T.1.2.1.2.2 T.1.2.1.1 v1)) := app_eq (s := T.1.2.1) (by omega) (by decide) v0 v1
    have hb : fX11_addReading fu S v0 v1 = some (sAu (sAu (sAu S 0 (32 + T.1.2.1.1) v0) 0 (52 + T.1.2.1.1) v1) 0 1 (nI (T.1.2.1.1 + 1))) := by
      unfold fX11_addReading
      rw [b2, gIx_a (a := 32) 32 rfl (by omega) (by decide), gIx_a (a := 52) 52 rfl (by omega) (by decide)]
      simp only [Option.bind_some]
      have e : iA (sAu (sAu S 0 (32 + T.1.2.1.1) v0) 0 (52 + T.1.2.1.1) v1) 0 1 = nI T.1.2.1.1 := by
        show upd (upd (iA S 0) (32 + T.1.2.1.1) v0) (52 + T.1.2.1.1) v1 1 = _
        rw [pk_un (by omega), pk_un (by omega), b2]
      rw [e, nI_1]
    rw [ha, hb]
    refine rOk_of rfl rfl ?_ ?_
    · show (nI T.1.2.1.1).toInt64 = (nI (T.1.2.1.1 + 1) - 1).toInt64
      rw [nI_pred]
    · have hm := rR_mono h
      obtain ⟨h1, h2, h3, h4, h5, h6, h7, h8, h9⟩ := hm
      unfold rR
      exact ⟨rSt_read h1 (by omega) hp hw rfl, h2, h3, h4, rFo_stale h5, h6, h7, h8, h9⟩
theorem p_anew (fu : Nat) : St_anew fu := by
  intro T S c h hc
  obtain ⟨h1, h2, h3, h4, h5, h6, h7, h8, h9⟩ := rR_mono h
  obtain ⟨t1, t2, t3⟩ := h7
  refine rOk_of rfl rfl ?_ ?_
  · show (nI T.2.2.2.2.2.2.2.2.1.1).toInt64 = (iF S 5).toInt64
    rw [t2]
  · unfold rR
    exact ⟨h1, h2, h3, h4, h5, h6, ⟨Nat.zero_le _, rfl, fun j hj => absurd hj (Nat.not_lt_zero _)⟩, h8, h9⟩
theorem p_day (fu : Nat) : St_day fu := by
  intro T S c h hc v0 v1
  obtain ⟨h1, h2, h3, h4, h5, h6, h7, h8, h9⟩ := id h
  obtain ⟨t1, t2, t3⟩ := id h7
  unfold fX10_day fX11_day
  rw [isState_eq, in_eq, t2]
  have hfull : fX3_isFull 60 T.2.2.2.2.2.2.2.2.1 = some (decide (60 ≤ T.2.2.2.2.2.2.2.2.1.1)) := full_eq (by omega) (by decide)
  rw [hfull]
  simp only [Option.bind_some, obind_eta, fX10_isState, fX2_within]
  cases hp : wit v0 0 35
  · simp only [Bool.false_eq_true, if_false]
    exact ref1 h hc
  simp only [if_true]
  cases hw : wit v1 (-1000) 1000
  · simp only [Bool.false_eq_true, if_false]
    exact ref1 h hc
  simp only [if_true]
  by_cases hf : T.2.2.2.2.2.2.2.2.1.1 = 60
  · rw [if_pos (by rw [hf]; decide), if_pos ((nI_is 60 rfl (by omega) (by decide)).mpr hf)]
    exact ref5 h hc
  · rw [if_neg (by simp; omega), if_neg (fun q => hf ((nI_is 60 rfl (by omega) (by decide)).mp q))]
    have ha : fX3_append 60 T.2.2.2.2.2.2.2.2.1 v0 v1 = some (nI T.2.2.2.2.2.2.2.2.1.1, (T.2.2.2.2.2.2.2.2.1.1 + 1, upd T.2.2.2.2.2.2.2.2.1.2.1 T.2.2.2.2.2.2.2.2.1.1 v0, upd T.2.2.2.2.2.2.2.2.1.2.2 T.2.2.2.2.2.2.2.2.1.1 v1)) := app_eq (by omega) (by decide) v0 v1
    have hi : gIx (nI T.2.2.2.2.2.2.2.2.1.1) 60 = some T.2.2.2.2.2.2.2.2.1.1 := gIx_n (by omega) (by decide)
    have e5 : iF (sAu S 6 T.2.2.2.2.2.2.2.2.1.1 v0) 5 = nI T.2.2.2.2.2.2.2.2.1.1 := t2
    have e6 : iF (sAu (sAu S 6 T.2.2.2.2.2.2.2.2.1.1 v0) 7 T.2.2.2.2.2.2.2.2.1.1 v1) 5 = nI T.2.2.2.2.2.2.2.2.1.1 := t2
    rw [ha, hi]
    simp only [Option.bind_some]
    rw [e5, hi]
    simp only [Option.bind_some]
    rw [e6]
    refine rOk_of rfl rfl ?_ ?_
    · rfl
    · have hm := rR_mono h
      obtain ⟨h1, h2, h3, h4, h5, h6, -, h8, h9⟩ := hm
      unfold rR
      refine ⟨h1, h2, h3, h4, h5, h6, ⟨?_, ?_, fun j hj => ?_⟩, h8, h9⟩
      · show T.2.2.2.2.2.2.2.2.1.1 + 1 ≤ 60
        omega
      · show nI T.2.2.2.2.2.2.2.2.1.1 + 1 = nI (T.2.2.2.2.2.2.2.2.1.1 + 1)
        rw [nI_1]
      · have hj' : j < T.2.2.2.2.2.2.2.2.1.1 + 1 := hj
        show upd (iA S 6) _ v0 j = upd _ _ v0 j ∧ upd (iA S 7) _ v1 j = upd _ _ v1 j ∧ wit (upd _ _ v0 j) _ _ = true ∧ wit (upd _ _ v1 j) _ _ = true
        by_cases e : j = T.2.2.2.2.2.2.2.2.1.1
        · rw [← e, pk_us, pk_us, pk_us, pk_us]
          exact ⟨rfl, rfl, hp, hw⟩
        · rw [upd_lt (by omega), upd_lt (by omega), upd_lt (by omega), upd_lt (by omega)]
          exact t3 j (by omega)
