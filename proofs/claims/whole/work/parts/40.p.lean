/-! The calls, one by one: class and reference answer alike. First what is small. -/
theorem obind_eta {α β : Type} (o : Option (α × β)) : (o.bind fun r => some (r.1, r.2)) = o := by cases o <;> rfl
theorem obind_id {α : Type} (o : Option α) : (o.bind fun r => some r) = o := by cases o <;> rfl
theorem wit_pin (c : Int32) {n : Nat} (h : n < 2 ^ 30) : wit c 0 (nI n - 1) = pin c n := by
  have e := pk_sub_toInt (a := n) (b := 1) h (by decide)
  have e1 : (nI n - 1) = nI n - nI 1 := rfl
  have z : (0 : Int32).toInt = 0 := rfl
  unfold wit pin
  congr 1
  · exact decide_eq_decide.mpr (by rw [i32_le, z])
  · exact decide_eq_decide.mpr (by rw [i32_le, e1, e]; omega)
theorem in_eq (fu : Nat) (v a b : Int32) : fX11_in fu v a b = some (wit v a b) := by
  unfold fX11_in
  by_cases h1 : v < a
  · rw [if_pos h1, wit_f1 h1]
  · rw [if_neg h1]
    by_cases h2 : b < v
    · rw [if_pos h2, wit_f2 h2]
    · rw [if_neg h2, wit_t h1 h2]
theorem isState_eq (fu : Nat) (v : Int32) : fX11_isState fu v = some (wit v 0 35) := by
  unfold fX11_isState
  rw [in_eq, obind_id]
theorem isCause_eq {s : sSt} {S : gS} (h : rSt s (iA S 0)) (fu : Nat) (c : Int32) : fX11_isCause fu S c = some (pin c s.1.2.1) := by
  obtain ⟨⟨a1, a2, -⟩, -⟩ := h
  unfold fX11_isCause
  rw [in_eq, obind_id, a2, wit_pin _ (by omega)]
theorem isReading_eq {s : sSt} {S : gS} (h : rSt s (iA S 0)) (fu : Nat) (c : Int32) : fX11_isReading fu S c = some (pin c s.2.1.1) := by
  obtain ⟨-, ⟨a1, a2, -⟩, -⟩ := h
  unfold fX11_isReading
  rw [in_eq, obind_id, a2, wit_pin _ (by omega)]
theorem isMend_eq {s : sSt} {S : gS} (h : rSt s (iA S 0)) (fu : Nat) (c : Int32) : fX11_isMend fu S c = some (pin c s.2.2.1.1) := by
  obtain ⟨-, -, ⟨a1, a2, -⟩, -⟩ := h
  unfold fX11_isMend
  rw [in_eq, obind_id, a2, wit_pin _ (by omega)]
theorem has_eq {s : sCa} (h : s.2.1 ≤ 8) (c : Int32) : fX0_has s c = some (pin c s.2.1) := if_pos h
theorem phas_eq {cap : Nat} {s : sPr} (h : s.1 < 2 ^ 31) (c : Int32) : fX3_has cap s c = some (pin c s.1) := if_pos h
theorem gIx_a {a j n : Nat} (x : Int32) (hx : x = nI a) (h : a + j < n) (hn : n < 2 ^ 31) : gIx (x + nI j) n = some (a + j) := by
  subst hx
  rw [nI_add]
  exact gIx_n h hn
theorem lN_s (m : Nat) : lN m + 1 = lN (m + 1) := (Int64.ofNat_add m 1).symm
theorem tf1 (fu : Nat) (S : gS) : fX11_tellFinding fu S (-9000000000000000001 : Int64) = some ((-9000000000000000001 : Int64), sBu S 10 1 (lA S 10 1 + 1)) := by
  unfold fX11_tellFinding
  rw [show gIx (((-9000000000000000000 : Int64) - (-9000000000000000001 : Int64)).toInt32) 8 = some 1 from by decide +kernel]
  rfl
theorem rf1 (fu : Nat) (T : sWB) : fX10_refuse fu T 1 = some ((-9000000000000000001 : Int64), st_X10_11 T (upd T.2.2.2.2.2.2.2.2.2.2.2 1 (T.2.2.2.2.2.2.2.2.2.2.2 1 + 1))) := by
  unfold fX10_refuse
  rw [show fX2_within (1 : Int32) 1 7 = some true from by decide +kernel, show gIx (1 : Int32) 8 = some 1 from by decide +kernel, show (-9000000000000000000 : Int64) - (1 : Int32).toInt64 = (-9000000000000000001 : Int64) from by decide +kernel]
  rfl
theorem tf2 (fu : Nat) (S : gS) : fX11_tellFinding fu S (-9000000000000000002 : Int64) = some ((-9000000000000000002 : Int64), sBu S 10 2 (lA S 10 2 + 1)) := by
  unfold fX11_tellFinding
  rw [show gIx (((-9000000000000000000 : Int64) - (-9000000000000000002 : Int64)).toInt32) 8 = some 2 from by decide +kernel]
  rfl
theorem rf2 (fu : Nat) (T : sWB) : fX10_refuse fu T 2 = some ((-9000000000000000002 : Int64), st_X10_11 T (upd T.2.2.2.2.2.2.2.2.2.2.2 2 (T.2.2.2.2.2.2.2.2.2.2.2 2 + 1))) := by
  unfold fX10_refuse
  rw [show fX2_within (2 : Int32) 1 7 = some true from by decide +kernel, show gIx (2 : Int32) 8 = some 2 from by decide +kernel, show (-9000000000000000000 : Int64) - (2 : Int32).toInt64 = (-9000000000000000002 : Int64) from by decide +kernel]
  rfl
theorem tf3 (fu : Nat) (S : gS) : fX11_tellFinding fu S (-9000000000000000003 : Int64) = some ((-9000000000000000003 : Int64), sBu S 10 3 (lA S 10 3 + 1)) := by
  unfold fX11_tellFinding
  rw [show gIx (((-9000000000000000000 : Int64) - (-9000000000000000003 : Int64)).toInt32) 8 = some 3 from by decide +kernel]
  rfl
theorem rf3 (fu : Nat) (T : sWB) : fX10_refuse fu T 3 = some ((-9000000000000000003 : Int64), st_X10_11 T (upd T.2.2.2.2.2.2.2.2.2.2.2 3 (T.2.2.2.2.2.2.2.2.2.2.2 3 + 1))) := by
  unfold fX10_refuse
  rw [show fX2_within (3 : Int32) 1 7 = some true from by decide +kernel, show gIx (3 : Int32) 8 = some 3 from by decide +kernel, show (-9000000000000000000 : Int64) - (3 : Int32).toInt64 = (-9000000000000000003 : Int64) from by decide +kernel]
  rfl
theorem tf4 (fu : Nat) (S : gS) : fX11_tellFinding fu S (-9000000000000000004 : Int64) = some ((-9000000000000000004 : Int64), sBu S 10 4 (lA S 10 4 + 1)) := by
  unfold fX11_tellFinding
  rw [show gIx (((-9000000000000000000 : Int64) - (-9000000000000000004 : Int64)).toInt32) 8 = some 4 from by decide +kernel]
  rfl
theorem rf4 (fu : Nat) (T : sWB) : fX10_refuse fu T 4 = some ((-9000000000000000004 : Int64), st_X10_11 T (upd T.2.2.2.2.2.2.2.2.2.2.2 4 (T.2.2.2.2.2.2.2.2.2.2.2 4 + 1))) := by
  unfold fX10_refuse
  rw [show fX2_within (4 : Int32) 1 7 = some true from by decide +kernel, show gIx (4 : Int32) 8 = some 4 from by decide +kernel, show (-9000000000000000000 : Int64) - (4 : Int32).toInt64 = (-9000000000000000004 : Int64) from by decide +kernel]
  rfl
theorem tf5 (fu : Nat) (S : gS) : fX11_tellFinding fu S (-9000000000000000005 : Int64) = some ((-9000000000000000005 : Int64), sBu S 10 5 (lA S 10 5 + 1)) := by
  unfold fX11_tellFinding
  rw [show gIx (((-9000000000000000000 : Int64) - (-9000000000000000005 : Int64)).toInt32) 8 = some 5 from by decide +kernel]
  rfl
theorem rf5 (fu : Nat) (T : sWB) : fX10_refuse fu T 5 = some ((-9000000000000000005 : Int64), st_X10_11 T (upd T.2.2.2.2.2.2.2.2.2.2.2 5 (T.2.2.2.2.2.2.2.2.2.2.2 5 + 1))) := by
  unfold fX10_refuse
  rw [show fX2_within (5 : Int32) 1 7 = some true from by decide +kernel, show gIx (5 : Int32) 8 = some 5 from by decide +kernel, show (-9000000000000000000 : Int64) - (5 : Int32).toInt64 = (-9000000000000000005 : Int64) from by decide +kernel]
  rfl
theorem tf6 (fu : Nat) (S : gS) : fX11_tellFinding fu S (-9000000000000000006 : Int64) = some ((-9000000000000000006 : Int64), sBu S 10 6 (lA S 10 6 + 1)) := by
  unfold fX11_tellFinding
  rw [show gIx (((-9000000000000000000 : Int64) - (-9000000000000000006 : Int64)).toInt32) 8 = some 6 from by decide +kernel]
  rfl
theorem rf6 (fu : Nat) (T : sWB) : fX10_refuse fu T 6 = some ((-9000000000000000006 : Int64), st_X10_11 T (upd T.2.2.2.2.2.2.2.2.2.2.2 6 (T.2.2.2.2.2.2.2.2.2.2.2 6 + 1))) := by
  unfold fX10_refuse
  rw [show fX2_within (6 : Int32) 1 7 = some true from by decide +kernel, show gIx (6 : Int32) 8 = some 6 from by decide +kernel, show (-9000000000000000000 : Int64) - (6 : Int32).toInt64 = (-9000000000000000006 : Int64) from by decide +kernel]
  rfl
theorem tf7 (fu : Nat) (S : gS) : fX11_tellFinding fu S (-9000000000000000007 : Int64) = some ((-9000000000000000007 : Int64), sBu S 10 7 (lA S 10 7 + 1)) := by
  unfold fX11_tellFinding
  rw [show gIx (((-9000000000000000000 : Int64) - (-9000000000000000007 : Int64)).toInt32) 8 = some 7 from by decide +kernel]
  rfl
theorem rf7 (fu : Nat) (T : sWB) : fX10_refuse fu T 7 = some ((-9000000000000000007 : Int64), st_X10_11 T (upd T.2.2.2.2.2.2.2.2.2.2.2 7 (T.2.2.2.2.2.2.2.2.2.2.2 7 + 1))) := by
  unfold fX10_refuse
  rw [show fX2_within (7 : Int32) 1 7 = some true from by decide +kernel, show gIx (7 : Int32) 8 = some 7 from by decide +kernel, show (-9000000000000000000 : Int64) - (7 : Int32).toInt64 = (-9000000000000000007 : Int64) from by decide +kernel]
  rfl
theorem rR_ref {T : sWB} {S : gS} {c : Nat} (h : rR T S c) (k : Nat) (k1 : 1 ≤ k) (k7 : k ≤ 7) : rR (st_X10_11 T (upd T.2.2.2.2.2.2.2.2.2.2.2 k (T.2.2.2.2.2.2.2.2.2.2.2 k + 1))) (sBu S 10 k (lA S 10 k + 1)) (c + 1) := by
  obtain ⟨h1, h2, h3, h4, h5, h6, h7, h8, h9⟩ := h
  unfold rR
  refine ⟨h1, h2, h3, h4, h5, h6, h7, h8, fun j j1 j7 => ?_⟩
  show ∃ m, m ≤ c + 1 ∧ upd T.2.2.2.2.2.2.2.2.2.2.2 k (T.2.2.2.2.2.2.2.2.2.2.2 k + 1) j = nI m ∧ vp_updL (lA S 10) k (lA S 10 k + 1) j = lN m
  by_cases hj : j = k
  · subst hj
    obtain ⟨m, m1, m2, m3⟩ := h9 j j1 j7
    refine ⟨m + 1, by omega, ?_, ?_⟩
    · rw [pk_us, m2, nI_1]
    · rw [pk_uLs, m3, lN_s]
  · obtain ⟨m, m1, m2, m3⟩ := h9 j j1 j7
    refine ⟨m, by omega, ?_, ?_⟩
    · rw [pk_un hj, m2]
    · rw [pk_uLn hj, m3]
theorem ref1 {T : sWB} {S : gS} {c fu : Nat} (h : rR T S c) (hc : c < 512) : rOk c (fX10_refuse fu T 1) (fX11_tellFinding fu S (-9000000000000000001 : Int64)) := ⟨_, _, _, rf1 fu T, tf1 fu S, rR_ref h 1 (by decide) (by decide)⟩
theorem ref2 {T : sWB} {S : gS} {c fu : Nat} (h : rR T S c) (hc : c < 512) : rOk c (fX10_refuse fu T 2) (fX11_tellFinding fu S (-9000000000000000002 : Int64)) := ⟨_, _, _, rf2 fu T, tf2 fu S, rR_ref h 2 (by decide) (by decide)⟩
theorem ref3 {T : sWB} {S : gS} {c fu : Nat} (h : rR T S c) (hc : c < 512) : rOk c (fX10_refuse fu T 3) (fX11_tellFinding fu S (-9000000000000000003 : Int64)) := ⟨_, _, _, rf3 fu T, tf3 fu S, rR_ref h 3 (by decide) (by decide)⟩
theorem ref4 {T : sWB} {S : gS} {c fu : Nat} (h : rR T S c) (hc : c < 512) : rOk c (fX10_refuse fu T 4) (fX11_tellFinding fu S (-9000000000000000004 : Int64)) := ⟨_, _, _, rf4 fu T, tf4 fu S, rR_ref h 4 (by decide) (by decide)⟩
theorem ref5 {T : sWB} {S : gS} {c fu : Nat} (h : rR T S c) (hc : c < 512) : rOk c (fX10_refuse fu T 5) (fX11_tellFinding fu S (-9000000000000000005 : Int64)) := ⟨_, _, _, rf5 fu T, tf5 fu S, rR_ref h 5 (by decide) (by decide)⟩
theorem ref6 {T : sWB} {S : gS} {c fu : Nat} (h : rR T S c) (hc : c < 512) : rOk c (fX10_refuse fu T 6) (fX11_tellFinding fu S (-9000000000000000006 : Int64)) := ⟨_, _, _, rf6 fu T, tf6 fu S, rR_ref h 6 (by decide) (by decide)⟩
theorem ref7 {T : sWB} {S : gS} {c fu : Nat} (h : rR T S c) (hc : c < 512) : rOk c (fX10_refuse fu T 7) (fX11_tellFinding fu S (-9000000000000000007 : Int64)) := ⟨_, _, _, rf7 fu T, tf7 fu S, rR_ref h 7 (by decide) (by decide)⟩
theorem rOk_same {T : sWB} {S : gS} {c : Nat} (h : rR T S c) (v : Int64) : rOk c (some (v, T)) (some (v, S)) := ⟨v, T, S, rfl, rfl, rR_mono h⟩
theorem rOk_of {c : Nat} {x : Option (Int64 × sWB)} {y : Option (Int64 × gS)} {v w : Int64} {T : sWB} {S : gS} (hx : x = some (v, T)) (hy : y = some (w, S)) (hv : v = w) (hR : rR T S (c + 1)) : rOk c x y := ⟨v, T, S, hx, by rw [hv]; exact hy, hR⟩
/-! loose, reading, tell, found -/
theorem p_loose (fu : Nat) : St_loose fu := by
  intro T S c h
  obtain ⟨h1, h2, h3, h4, h5, h6, h7, h8, h9⟩ := h
  exact ⟨_, rfl, congrArg some h6.symm⟩
theorem p_reading (fu : Nat) : St_reading fu := by
  intro T S c h hc v0 v1
  obtain ⟨h1, h2, h3, h4, h5, h6, h7, h8, h9⟩ := id h
  have h1' := h1
  obtain ⟨-, ⟨b1, b2, b3⟩, -⟩ := h1
  unfold fX10_reading fX11_reading
  rw [phas_eq (by omega), isReading_eq h1', in_eq]
  simp only [Option.bind_some, obind_eta, fX2_within]
  cases hp : pin v0 T.1.2.1.1
  · simp only [Bool.false_eq_true, if_false]
    exact ref1 h hc
  · obtain ⟨k, hk, rfl⟩ := pin_ex hp (by omega)
    simp only [if_true]
    cases hw : wit v1 0 1
    · simp only [Bool.false_eq_true, if_false]
      exact ref1 h hc
    · simp only [if_true]
      rw [gIx_a (a := 32) 32 rfl (by omega) (by decide), gIx_a (a := 52) 52 rfl (by omega) (by decide)]
      obtain ⟨e1, e2, -⟩ := b3 k hk
      have f1 : fX3_first 20 T.1.2.1 (nI k) = some (T.1.2.1.2.1 k) := by rw [fX3_first, if_pos ⟨b1, by decide⟩, pget_lt hk (by omega)]
      have f2 : fX3_second 20 T.1.2.1 (nI k) = some (T.1.2.1.2.2 k) := by rw [fX3_second, if_pos ⟨b1, by decide⟩, pget_lt hk (by omega)]
      rw [f1, f2]
      simp only [Option.bind_some, e1, e2]
      by_cases hv : v1 = 0
      · rw [if_pos hv, if_pos hv]
        exact rOk_same h _
      · rw [if_neg hv, if_neg hv]
        exact rOk_same h _
theorem p_tell (fu : Nat) : St_tell fu := by
  intro T S c h hc v0
  obtain ⟨h1, h2, h3, h4, h5, h6, h7, h8, h9⟩ := id h
  obtain ⟨g1, k, k1, k2, k3⟩ := h8
  unfold fX10_tell fX11_tell
  rw [g1, k2]
  simp only [Option.bind_some, obind_eta]
  by_cases hk : k = 16
  · subst hk
    rw [if_neg (by decide), if_pos (show nI 16 = 16 from rfl)]
    exact ref5 h hc
  · rw [if_pos (show nI k < 16 from nI_lt (a := k) (b := 16) (by omega) (by decide)), if_neg (show ¬ nI k = 16 from fun q => hk ((nI_eq (a := k) (b := 16) (by omega) (by decide)).mp q)), gIx_n (by omega) (by decide)]
    refine rOk_of rfl rfl ?_ ?_
    · show (T.2.2.2.2.2.2.2.2.2.2.1 + 1).toInt64 = (iF S 8 + 1).toInt64
      rw [g1]
    · have h' := rR_mono h
      obtain ⟨h1, h2, h3, h4, h5, h6, h7, h8, h9⟩ := h'
      unfold rR
      refine ⟨h1, h2, h3, h4, h5, h6, h7, ⟨?_, k + 1, by omega, ?_, fun j hj => ?_⟩, h9⟩
      · show iF S 8 + 1 = T.2.2.2.2.2.2.2.2.2.2.1 + 1
        rw [g1]
      · show T.2.2.2.2.2.2.2.2.2.2.1 + 1 = nI (k + 1)
        rw [k2, nI_1]
      · show upd (iA S 9) k v0 j = upd T.2.2.2.2.2.2.2.2.2.1 k v0 j
        by_cases e : j = k
        · subst e; rw [pk_us, pk_us]
        · rw [pk_un e, pk_un e]; exact k3 j (by omega)
theorem p_found (fu : Nat) : St_found fu := by
  intro T S c h hc v0
  obtain ⟨h1, h2, h3, h4, h5, h6, h7, h8, h9⟩ := id h
  unfold fX10_found fX11_found
  rw [in_eq]
  simp only [Option.bind_some, obind_eta, fX2_within]
  cases hw : wit v0 1 7
  · simp only [Bool.false_eq_true, if_false]
    exact ref1 h hc
  · simp only [if_true]
    have hk : ∃ k, 1 ≤ k ∧ k ≤ 7 ∧ v0 = nI k := by
      simp only [wit, Bool.and_eq_true, decide_eq_true_eq, i32_le] at hw
      have e1 : (1 : Int32).toInt = 1 := rfl
      have e7 : (7 : Int32).toInt = 7 := rfl
      rw [e1, e7] at hw
      obtain ⟨k, hk, e⟩ := vp_in_of (x := v0) (n := 8) (vp_in_iff.mpr ⟨by omega, by omega⟩) (by decide)
      subst e
      rw [nI_toInt (by omega)] at hw
      exact ⟨k, by omega, by omega, rfl⟩
    obtain ⟨k, k1, k7, rfl⟩ := hk
    obtain ⟨m, m1, m2, m3⟩ := h9 k k1 k7
    rw [gIx_n (by omega) (by decide)]
    simp only [Option.bind_some, m2, m3]
    rw [nI_l (by omega)]
    exact rOk_same h _
