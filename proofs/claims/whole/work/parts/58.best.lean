/-! what the search is prepared with -/
theorem cnt_slt {th : Nat → Bool} {s k : Nat} (h : s < k) (hs : th s = true) : cnt th s < cnt th k := by
  have h1 := cnt_t hs
  have h2 := cnt_mono th (a := s + 1) k (by omega)
  omega
theorem cnt_surj {th : Nat → Bool} : ∀ n i, i < cnt th n → ∃ k, k < n ∧ th k = true ∧ cnt th k = i
  | 0, i, h => absurd h (Nat.not_lt_zero _)
  | n + 1, i, h => by
    by_cases q : th n = true
    · rw [← cnt_t q] at h
      by_cases e : i = cnt th n
      · exact ⟨n, by omega, q, e.symm⟩
      · obtain ⟨k, k1, k2⟩ := cnt_surj (th := th) n i (by omega)
        exact ⟨k, by omega, k2⟩
    · have q' : th n = false := by cases hh : th n with | true => exact absurd hh q | false => rfl
      rw [← cnt_f q'] at h
      obtain ⟨k, k1, k2⟩ := cnt_surj (th := th) n i h
      exact ⟨k, by omega, k2⟩
def prI (th : Nat → Bool) (A : Nat → Int64) (X : Nat → Nat → Int64) (nm k : Nat) (M : sMs) : Prop := M.2.2.1 = nI (cnt th k) ∧ M.2.2.2.1 = nI nm ∧ ∀ s, s < k → th s = true → M.1 (cnt th s) = A s ∧ ∀ i, i < nm → M.2.1 (i * 36 + cnt th s) = X i s
theorem pr_in {fu : Nat} {st : sSt} {z : sSz} {th : Nat → Bool} {A : Nat → Int64} {X : Nat → Nat → Int64} {nm k : Nat} (hnm : nm ≤ 8) (hk : k < 36) (hth : th k = true) (hX : ∀ i, i < nm → fX6_stepIn z st (nI k) (nI i) = some (X i k)) : ∀ (j i : Nat) (M : sMs), i ≤ nm → nm - i < j → prI th A X nm k M → M.1 (cnt th k) = A k → (∀ q, q < i → M.2.1 (q * 36 + cnt th k) = X q k) → ∃ M2, (∀ k23, lX1_prepare_61 k23 fu st z j (nI k) (nI i) M = k23 (nI (k + 1)) M2) ∧ prI th A X nm (k + 1) M2 := by
  intro j
  induction j with
  | zero => intro i M _ hj; exact absurd hj (Nat.not_lt_zero _)
  | succ j ih =>
    intro i M hi hj hI hA hx
    obtain ⟨p1, p2, p3⟩ := hI
    have hcl := cnt_le th k
    by_cases e : i = nm
    · refine ⟨st_X1_2 M (M.2.2.1 + 1), fun k23 => ?_, ?_, p2, fun s hs ht => ?_⟩
      · rw [lX1_prepare_61, p2, if_pos (nI_le (by omega) (by omega)), nI_1]
        rfl
      · show M.2.2.1 + 1 = nI (cnt th (k + 1))
        rw [p1, nI_1, cnt_t hth]
      · show M.1 (cnt th s) = A s ∧ ∀ i, i < nm → M.2.1 (i * 36 + cnt th s) = X i s
        by_cases es : s = k
        · rw [es]
          exact ⟨hA, fun q hq => hx q (by omega)⟩
        · exact p3 s (by omega) ht
    · have hlt : i < nm := by omega
      have hstep : ∀ k23, lX1_prepare_61 k23 fu st z (j + 1) (nI k) (nI i) M = lX1_prepare_61 k23 fu st z j (nI k) (nI (i + 1)) (st_X1_1 M (vp_updL M.2.1 (i * 36 + cnt th k) (X i k))) := fun k23 => by
        rw [lX1_prepare_61, p2, if_neg (nI_ge hlt (by omega)), hX i hlt, p1, nI_1]
        simp only [Option.bind_some]
        rw [show nI i * (36 : Int32) + nI (cnt th k) = nI (i * 36 + cnt th k) from by rw [show (36 : Int32) = nI 36 from rfl, pk_mul, nI_add], gIx_n (by omega) (by decide)]
        rfl
      obtain ⟨M2, g1, g2⟩ := ih (i + 1) (st_X1_1 M (vp_updL M.2.1 (i * 36 + cnt th k) (X i k))) (by omega) (by omega) ⟨p1, p2, fun s hs ht => ⟨(p3 s hs ht).1, fun q hq => by
          show vp_updL M.2.1 (i * 36 + cnt th k) (X i k) (q * 36 + cnt th s) = X q s
          have h1 := cnt_slt hs ht
          rw [pk_uLn (by omega)]
          exact (p3 s hs ht).2 q hq⟩⟩ hA (fun q hq => by
          show vp_updL M.2.1 (i * 36 + cnt th k) (X i k) (q * 36 + cnt th k) = X q k
          by_cases eq : q = i
          · rw [eq, pk_uLs]
          · rw [pk_uLn (by omega)]
            exact hx q (by omega))
      exact ⟨M2, fun k23 => by rw [hstep]; exact g1 k23, g2⟩
theorem pr_out {fu : Nat} (hfu : 20 ≤ fu) {st : sSt} {z : sSz} {A : Nat → Int64} {X : Nat → Nat → Int64} {nm : Nat} (hnm : nm ≤ 8) (hA : ∀ k, k < 36 → fX6_aboveIn z st.1 (nI k) = some (A k)) (hX : ∀ k i, k < 36 → i < nm → fX6_stepIn z st (nI k) (nI i) = some (X i k)) : ∀ (j k : Nat) (M : sMs), k ≤ 36 → 36 - k < j → prI st.2.2.2.1 A X nm k M → ∃ M2, lX1_prepare_23 fu st z j (nI k) M = some M2 ∧ prI st.2.2.2.1 A X nm 36 M2 := by
  intro j
  induction j with
  | zero => intro k M _ hj; exact absurd hj (Nat.not_lt_zero _)
  | succ j ih =>
    intro k M hk hj hI
    by_cases e : k = 36
    · subst e
      refine ⟨M, ?_, hI⟩
      rw [lX1_prepare_23, if_pos (by decide)]
    · have hn : ¬ (36 : Int32) ≤ nI k := nI_ge (b := 36) (by omega) (by decide)
      have eh : fX7_has st.2.2.2 (nI k) = some (st.2.2.2.1 k) := congrArg some (spHas_lt (by omega))
      obtain ⟨p1, p2, p3⟩ := id hI
      have hcl := cnt_le st.2.2.2.1 k
      cases hb : st.2.2.2.1 k
      · obtain ⟨M2, g1, g2⟩ := ih (k + 1) M (by omega) (by omega) ⟨by rw [p1, cnt_f hb], p2, fun s hs ht => by
          by_cases es : s = k
          · rw [es, hb] at ht; cases ht
          · exact p3 s (by omega) ht⟩
        refine ⟨M2, ?_, g2⟩
        rw [lX1_prepare_23, if_neg hn, eh, hb]
        simp only [Option.bind_some, Bool.false_eq_true, if_false]
        rw [nI_1]
        exact g1
      · have hI2 : prI st.2.2.2.1 A X nm k (st_X1_0 M (vp_updL M.1 (cnt st.2.2.2.1 k) (A k))) := ⟨p1, p2, fun s hs ht => ⟨by
          show vp_updL M.1 (cnt st.2.2.2.1 k) (A k) (cnt st.2.2.2.1 s) = A s
          have h1 := cnt_slt hs ht
          rw [pk_uLn (by omega)]
          exact (p3 s hs ht).1, (p3 s hs ht).2⟩⟩
        obtain ⟨M1, i1, i2⟩ := pr_in (fu := fu) (th := st.2.2.2.1) hnm (show k < 36 by omega) hb (fun i hi => hX k i (by omega) hi) fu 0 _ (by omega) (by omega) hI2 pk_uLs (fun q hq => absurd hq (Nat.not_lt_zero _))
        obtain ⟨M2, g1, g2⟩ := ih (k + 1) M1 (by omega) (by omega) i2
        refine ⟨M2, ?_, g2⟩
        rw [nI_0] at i1
        rw [lX1_prepare_23, if_neg hn, eh, hb]
        simp only [Option.bind_some, if_true]
        rw [hA k (by omega), p1]
        simp only [Option.bind_some]
        rw [gIx_n (by omega) (by decide)]
        simp only [Option.bind_some]
        rw [i1]
        exact g1
theorem nI_n8 {n : Nat} (h : n ≤ 8) : ¬ (8 : Int32) < nI n := fun q => by
  rw [i32_lt, nI_toInt (by omega)] at q
  have e : (8 : Int32).toInt = 8 := rfl
  omega
theorem pr_eq {fu : Nat} (hfu : 50 ≤ fu) {st : sSt} {z : sSz} {A : Nat → Int64} {X : Nat → Nat → Int64} (hnm : st.2.2.1.1 ≤ 8) (hA : ∀ k, k < 36 → fX6_aboveIn z st.1 (nI k) = some (A k)) (hX : ∀ k i, k < 36 → i < st.2.2.1.1 → fX6_stepIn z st (nI k) (nI i) = some (X i k)) (M : sMs) : ∃ M2, fX1_prepare fu M st z = some M2 ∧ prI st.2.2.2.1 A X st.2.2.1.1 36 M2 := by
  unfold fX1_prepare
  simp only [Option.bind_some, fX3_length, fJ9_min_7cf53]
  rw [if_neg (nI_n8 hnm)]
  have := pr_out (fu := fu) (by omega) hnm hA hX fu 0 (st_X1_3 (st_X1_2 M 0) (nI st.2.2.1.1)) (by omega) (by omega) ⟨rfl, rfl, fun s hs => absurd hs (Nat.not_lt_zero _)⟩
  rw [nI_0] at this
  exact this
