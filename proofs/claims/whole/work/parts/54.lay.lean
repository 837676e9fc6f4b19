/-! lay -/
theorem rate_lt {len : Nat → Int32} {rw0 : Nat → Nat → Int32} {k m j : Nat} (hk : k < 3) (hm : m ≤ 36) (hl : len k = nI m) (hj : j < m) : rateA len rw0 (nI k) (nI j) = rw0 k j := rateA_lt (by rw [hasPl_pin hk hm hl]; exact pin_lt hj (by omega)) hk (by omega)
theorem was_lt {len : Nat → Int32} {rw0 : Nat → Nat → Int32} {k m j : Nat} (hk : k < 3) (hm : m ≤ 36) (hl : len k = nI m) (hj : j < m) : wasR len rw0 (nI k) (nI j) = !decide (rw0 k j = -32768) := by rw [wasR, rate_lt hk hm hl hj]
theorem cnt_mono (p : Nat → Bool) {a : Nat} : ∀ b, a ≤ b → cnt p a ≤ cnt p b
  | 0, h => by rw [show a = 0 by omega]; exact Nat.le_refl _
  | b + 1, h => by
    by_cases e : a = b + 1
    · rw [e]; exact Nat.le_refl _
    · have := cnt_mono p (a := a) b (by omega)
      rw [cnt]
      omega
theorem hrate_all {len : Nat → Int32} {rw0 : Nat → Nat → Int32} {s : Int32} : ∀ n, hrate len rw0 s n = true → ∀ j, j < n → wasR len rw0 s (nI j) = true → wit (rateA len rw0 s (nI j)) (-300) 300 = true
  | 0, _, j, hj, _ => absurd hj (Nat.not_lt_zero _)
  | n + 1, h, j, hj, hw => by
    rw [hrate, Bool.and_eq_true] at h
    by_cases e : j = n
    · subst e
      have h2 := h.2
      rw [hw] at h2
      exact h2
    · exact hrate_all n h.1 j (by omega) hw
theorem lay_count {fu : Nat} {S : gS} {len : Nat → Int32} {rw0 : Nat → Nat → Int32} {k m p : Nat} (hk : k < 3) (hm : m ≤ 36) (hl : len k = nI m) (hp : p ≤ m) (hS : ∀ j, j < m → iA S 3 (36 * k + j) = rw0 k j) : ∀ (j t : Nat), t ≤ p → p - t < j → lX11_lay_72 fu (nI k) (nI p) j (nI (cnt (fun j => wasR len rw0 (nI k) (nI j)) t)) (bI (hrate len rw0 (nI k) t)) (nI t) S = if hrate len rw0 (nI k) p = true then (if iA S 0 1 + nI (cnt (fun j => wasR len rw0 (nI k) (nI j)) p) ≤ 20 then lX11_lay_185 fu (nI k) (nI p) fu 0 S else fX11_tellFinding fu S (-9000000000000000005)) else fX11_tellFinding fu S (-9000000000000000001) := by
  intro j
  induction j with
  | zero => intro t _ hj; exact absurd hj (Nat.not_lt_zero _)
  | succ j ih =>
    intro t ht hj
    rw [lX11_lay_72]
    by_cases e : t = p
    · subst e
      rw [if_pos (nI_le (Nat.le_refl _) (by omega)), obind_eta, obind_eta]
      cases hrate len rw0 (nI k) t
      · rw [if_pos bI_ff, if_neg (by decide)]
      · rw [if_neg (show ¬ bI true = 0 by decide), if_pos rfl]
    · have ih2 := ih (t + 1) (by omega) (by omega)
      have hw := was_lt (rw0 := rw0) hk hm hl (show t < m by omega)
      have hr := rate_lt (rw0 := rw0) hk hm hl (show t < m by omega)
      have eh : hrate len rw0 (nI k) (t + 1) = (hrate len rw0 (nI k) t && (!wasR len rw0 (nI k) (nI t) || wit (rateA len rw0 (nI k) (nI t)) (-300) 300)) := rfl
      rw [hr, hw] at eh
      rw [eh] at ih2
      rw [if_neg (nI_ge (by omega) (by omega)), ix36 hk (by omega)]
      simp only [Option.bind_some]
      unfold jX11_lay_106
      rw [hS t (by omega), in_eq, nI_1]
      simp only [Option.bind_some]
      by_cases q : rw0 k t = -32768
      · have hwf : (fun j => wasR len rw0 (nI k) (nI j)) t = false := by
          show wasR len rw0 (nI k) (nI t) = false
          rw [hw, decide_eq_true q]
          rfl
        rw [← cnt_f hwf, decide_eq_true q, Bool.not_true, Bool.not_false, Bool.true_or, Bool.and_true] at ih2
        rw [if_pos q, show ∀ x : Int32, x + 0 = x from fun x => by simp]
        cases hh : hrate len rw0 (nI k) t
        · rw [hh] at ih2
          rw [if_pos bI_ff]
          exact ih2
        · rw [hh] at ih2
          rw [if_neg (show ¬ bI true = 0 by decide), if_pos q]
          exact ih2
      · have hwf : (fun j => wasR len rw0 (nI k) (nI j)) t = true := by
          show wasR len rw0 (nI k) (nI t) = true
          rw [hw, decide_eq_false q]
          rfl
        rw [← cnt_t hwf, decide_eq_false q, Bool.not_false, Bool.not_true, Bool.false_or] at ih2
        rw [if_neg q, nI_1]
        cases hh : hrate len rw0 (nI k) t
        · rw [hh, Bool.false_and] at ih2
          rw [if_pos bI_ff]
          exact ih2
        · rw [hh, Bool.true_and] at ih2
          rw [if_neg (show ¬ bI true = 0 by decide), if_neg q]
          cases hx : wit (rw0 k t) (-300) 300
          · rw [hx] at ih2
            simp only [Bool.false_eq_true, if_false]
            exact ih2
          · rw [hx] at ih2
            simp only [if_true]
            exact ih2
theorem addR {fu n : Nat} (S : gS) {f : Nat → Int32} (hf : f 1 = nI n) (hn : n < 20) (a b : Int32) : fX11_addReading fu (sA S 0 f) a b = some (sA S 0 (upd (upd (upd f (32 + n) a) (52 + n) b) 1 (nI (n + 1)))) := by
  unfold fX11_addReading
  have e : iA (sA S 0 f) 0 1 = nI n := hf
  rw [e, gIx_a (a := 32) 32 rfl (by omega) (by decide), gIx_a (a := 52) 52 rfl (by omega) (by decide)]
  simp only [Option.bind_some]
  rw [sAu_sA, sAu_sA, sAu_sA]
  have e2 : iA (sA S 0 (upd (upd f (32 + n) a) (52 + n) b)) 0 1 = nI n := by
    show upd (upd f (32 + n) a) (52 + n) b 1 = nI n
    rw [up2_n (by omega) (by omega)]
    exact hf
  rw [e2, nI_1]
theorem lay_join {fu : Nat} {T : sWB} {S : gS} {k m p : Nat} (hk : k < 3) (hm : m ≤ 36) (hl : T.2.2.2.1.1 k = nI m) (hp : p ≤ m) (hS : ∀ j, j < m → iA S 3 (36 * k + j) = T.2.2.2.1.2 k j) (hh : hrate T.2.2.2.1.1 T.2.2.2.1.2 (nI k) p = true) : ∀ (j t : Nat) (x : sPr) (f : Nat → Int32), t ≤ p → p - t < j → rSt (T.1.1, x, T.1.2.2) f → x.1 + (cnt (fun j => wasR T.2.2.2.1.1 T.2.2.2.1.2 (nI k) (nI j)) p - cnt (fun j => wasR T.2.2.2.1.1 T.2.2.2.1.2 (nI k) (nI j)) t) ≤ 20 → ∃ (y : sPr) (g : Nat → Int32), lX10_lay_27 fu (nI k) (nI p) j (nI t) (st_X10_0_1 T x) = some ((nI y.1).toInt64, st_X10_0_1 T y) ∧ lX11_lay_185 fu (nI k) (nI p) j (nI t) (sA S 0 f) = some ((nI y.1).toInt64, sI (sA S 0 g) 13 1) ∧ rSt (T.1.1, y, T.1.2.2) g := by
  intro j
  induction j with
  | zero => intro t x f _ hj; exact absurd hj (Nat.not_lt_zero _)
  | succ j ih =>
    intro t x f ht hj hr hc
    have hb2 := hr.2.1.2.1
    rw [lX10_lay_27, lX11_lay_185]
    by_cases e : t = p
    · subst e
      rw [if_pos (nI_le (Nat.le_refl _) (by omega)), if_pos (nI_le (Nat.le_refl _) (by omega))]
      refine ⟨x, f, rfl, ?_, hr⟩
      simp only [Option.bind_some]
      have e2 : iA (sI (sA S 0 f) 13 1) 0 1 = nI x.1 := hb2
      rw [e2]
    · have hn : ¬ nI p ≤ nI t := nI_ge (by omega) (by omega)
      have hw := was_lt (rw0 := T.2.2.2.1.2) hk hm hl (show t < m by omega)
      have hra := rate_lt (rw0 := T.2.2.2.1.2) hk hm hl (show t < m by omega)
      have e1 : fX5_wasRead (st_X10_0_1 T x).2.2.2.1 (nI k) (nI t) = some (!decide (T.2.2.2.1.2 k t = -32768)) := by
        show some (wasR T.2.2.2.1.1 T.2.2.2.1.2 (nI k) (nI t)) = _
        rw [hw]
      have e2 : fX5_rateAt (st_X10_0_1 T x).2.2.2.1 (nI k) (nI t) = some (T.2.2.2.1.2 k t) := by
        show some (rateA T.2.2.2.1.1 T.2.2.2.1.2 (nI k) (nI t)) = _
        rw [hra]
      have e3 : iA (sA S 0 f) 3 (36 * k + t) = T.2.2.2.1.2 k t := hS t (by omega)
      rw [if_neg hn, if_neg hn, ix36 hk (by omega), e1]
      simp only [Option.bind_some]
      rw [e2, e3, nI_1]
      simp only [Option.bind_some]
      by_cases q : T.2.2.2.1.2 k t = -32768
      · have hwf : (fun j => wasR T.2.2.2.1.1 T.2.2.2.1.2 (nI k) (nI j)) t = false := by
          show wasR T.2.2.2.1.1 T.2.2.2.1.2 (nI k) (nI t) = false
          rw [hw, decide_eq_true q]
          rfl
        rw [decide_eq_true q, if_pos q]
        simp only [Bool.not_true, Bool.false_eq_true, if_false]
        exact ih (t + 1) x f (by omega) (by omega) hr (by rw [← cnt_f hwf]; exact hc)
      · have hwf : (fun j => wasR T.2.2.2.1.1 T.2.2.2.1.2 (nI k) (nI j)) t = true := by
          show wasR T.2.2.2.1.1 T.2.2.2.1.2 (nI k) (nI t) = true
          rw [hw, decide_eq_false q]
          rfl
        have ect := cnt_t (p := fun j => wasR T.2.2.2.1.1 T.2.2.2.1.2 (nI k) (nI j)) (k := t) hwf
        have emo := cnt_mono (fun j => wasR T.2.2.2.1.1 T.2.2.2.1.2 (nI k) (nI j)) (a := t + 1) p (by omega)
        have hlt : x.1 < 20 := by omega
        have hrt : wit (T.2.2.2.1.2 k t) (-300) 300 = true := by
          rw [← hra]
          exact hrate_all p hh t (by omega) hwf
        have e4 : fX3_append 20 (st_X10_0_1 T x).1.2.1 (nI t) (T.2.2.2.1.2 k t) = some (nI x.1, (x.1 + 1, upd x.2.1 x.1 (nI t), upd x.2.2 x.1 (T.2.2.2.1.2 k t))) := app_eq (s := x) hlt (by decide) _ _
        rw [decide_eq_false q, if_neg q, e4, addR S hb2 hlt]
        simp only [Bool.not_false, if_true, Option.bind_some]
        have hr2 := rSt_read hr (x := nI t) (y := T.2.2.2.1.2 k t) (w := nI (x.1 + 1)) hlt (st_ok (by omega)) hrt rfl
        exact ih (t + 1) (x.1 + 1, upd x.2.1 x.1 (nI t), upd x.2.2 x.1 (T.2.2.2.1.2 k t)) _ (by omega) (by omega) hr2 (by
          show x.1 + 1 + _ ≤ 20
          omega)
theorem p_lay {fu : Nat} (hfu : 80 ≤ fu) : St_lay fu := by
  intro T S c h hc v0 v1
  obtain ⟨h1, h2, h3, h4, h5, h6, h7, h8, h9⟩ := id h
  obtain ⟨-, ⟨r1, r2, -⟩, -⟩ := id h1
  unfold fX10_lay fX11_lay fX10_whyNoLaying
  rw [in_eq]
  simp only [Option.bind_some, obind_eta, fX5_isSheet, fX5_isMissing, fX5_placesOf, fX3_length, fX6_growStale]
  cases hw : wit v0 0 2
  · simp only [Bool.false_eq_true, if_false, Option.bind_some]
    rw [if_neg (by decide)]
    exact ref1 h hc
  obtain ⟨k, hk, rfl⟩ := wit_shk hw
  simp only [if_true]
  obtain ⟨q1, q2, q3⟩ := h3 k hk
  rw [gIx_n hk (by decide), plc_lt hk]
  simp only [Option.bind_some, q1]
  rcases wit_m (m := 36) 36 rfl (by decide) q2 with e | ⟨m, hm, e⟩
  · rw [e, decide_eq_true rfl, if_pos rfl, if_neg (show ¬ (0 : Int32) ≤ -1 by decide)]
    simp only [Option.bind_some]
    rw [if_neg (by decide)]
    exact ref2 h hc
  · have ne : ¬ nI m = -1 := fun q => by
      rw [i32_eq, nI_toInt (by omega)] at q
      have : (-1 : Int32).toInt = -1 := rfl
      omega
    rw [e, decide_eq_false ne, if_neg (show ¬ false = true by decide), if_pos (nI_pos' (by omega))]
    by_cases n0 : (0 : Int32) ≤ v1
    · rw [if_pos n0, if_pos n0]
      obtain ⟨p, hp, rfl⟩ := nI_of (x := v1) (fun q => by rw [i32_lt] at q; rw [i32_le] at n0; omega)
      by_cases l : p ≤ m
      · rw [if_neg (nI_nlt l (by omega)), if_pos (nI_le l (by omega))]
        have hS : ∀ j, j < m → iA S 3 (36 * k + j) = T.2.2.2.1.2 k j := fun j hj => q3 j (by rw [e, nI_toInt (by omega)]; omega)
        have hcn := lay_count (fu := fu) hk hm e l hS fu 0 (by omega) (by omega)
        have hcn2 : lX11_lay_72 fu (nI k) (nI p) fu 0 1 0 S = _ := hcn
        have f1 : fX5_holdsRates T.2.2.2.1 (nI k) (nI p) = some (hrate T.2.2.2.1.1 T.2.2.2.1.2 (nI k) p) := by
          unfold fX5_holdsRates
          rw [gIx_n (show p < 37 by omega) (by decide)]
          rfl
        have f2 : fX5_howManyRead T.2.2.2.1 (nI k) (nI p) = some (nI (cnt (fun j => wasR T.2.2.2.1.1 T.2.2.2.1.2 (nI k) (nI j)) p)) := by
          unfold fX5_howManyRead
          rw [gIx_n (show p < 37 by omega) (by decide)]
          rfl
        rw [hcn2, f1, f2, r2]
        simp only [Option.bind_some]
        cases hh : hrate T.2.2.2.1.1 T.2.2.2.1.2 (nI k) p
        · simp only [Bool.false_eq_true, if_false, Option.bind_some]
          rw [if_neg (by decide)]
          exact ref1 h hc
        · simp only [if_true]
          have hcl := cnt_le (fun j => wasR T.2.2.2.1.1 T.2.2.2.1.2 (nI k) (nI j)) p
          rw [nI_add]
          by_cases g : T.1.2.1.1 + cnt (fun j => wasR T.2.2.2.1.1 T.2.2.2.1.2 (nI k) (nI j)) p ≤ 20
          · have g' : nI (T.1.2.1.1 + cnt (fun j => wasR T.2.2.2.1.1 T.2.2.2.1.2 (nI k) (nI j)) p) ≤ 20 := nI_le (b := 20) g (by decide)
            rw [if_pos g', if_pos g']
            simp only [Option.bind_some, if_true]
            obtain ⟨y, f, j1, j2, j3⟩ := lay_join (fu := fu) (T := st_X10_5 T (T.2.2.2.2.2.1.1, true, T.2.2.2.2.2.1.2.2)) (S := S) hk hm e l hS hh fu 0 T.1.2.1 (iA S 0) (by omega) (by omega) h1 (by
              show T.1.2.1.1 + (cnt (fun j => wasR T.2.2.2.1.1 T.2.2.2.1.2 (nI k) (nI j)) p - 0) ≤ 20
              omega)
            rw [nI_0, sA_self] at j2
            have j1' : lX10_lay_27 fu (nI k) (nI p) fu 0 (st_X10_5 T (T.2.2.2.2.2.1.1, true, T.2.2.2.2.2.1.2.2)) = _ := j1
            rw [j1', j2]
            refine rOk_of rfl rfl rfl ?_
            obtain ⟨h1, h2, h3, h4, h5, h6, h7, h8, h9⟩ := rR_mono h
            unfold rR
            exact ⟨j3, h2, h3, h4, rFo_stale h5, h6, h7, h8, h9⟩
          · have g' : ¬ nI (T.1.2.1.1 + cnt (fun j => wasR T.2.2.2.1.1 T.2.2.2.1.2 (nI k) (nI j)) p) ≤ 20 := nI_ge (a := 20) (by omega) (by omega)
            rw [if_neg g', if_neg g']
            simp only [Option.bind_some]
            rw [if_neg (by decide)]
            exact ref5 h hc
      · rw [if_pos (nI_lt (by omega) (by omega)), if_neg (nI_ge (by omega) (by omega))]
        simp only [Option.bind_some]
        rw [if_neg (by decide)]
        exact ref1 h hc
    · rw [if_neg n0, if_neg n0]
      simp only [Option.bind_some]
      rw [if_neg (by decide)]
      exact ref4 h hc
