/-! best, put together -/
theorem abV_pos {x : Int64} {B : Int} (h : bd x B) (hB : B < 2 ^ 63) : 0 ≤ (abV x).toInt := by
  obtain ⟨h1, h2⟩ := h
  have e0 : (0 : Int64).toInt = 0 := rfl
  unfold abV
  by_cases q : (0 : Int64) ≤ x
  · rw [if_pos q]
    rw [i64_le] at q
    omega
  · rw [if_neg q, Int64.toInt_neg, bmod64 (by omega) (by omega)]
    rw [i64_le] at q
    omega
theorem cd_eq {a b c d : Nat} (ha : a ≤ 8) (hb : b ≤ 6) (hc : c ≤ 8) (hd : d ≤ 6) : (((((10000 : Int32) * nI a) + ((1000 : Int32) * nI b)) + ((10 : Int32) * nI c)) + nI d).toInt64 = ((((10000 : Int64) * (nI a).toInt64) + ((1000 : Int64) * (nI b).toInt64)) + ((10 : Int64) * (nI c).toInt64)) + (nI d).toInt64 := by
  rw [show (10000 : Int32) = nI 10000 from rfl, show (1000 : Int32) = nI 1000 from rfl, show (10 : Int32) = nI 10 from rfl, pk_mul, pk_mul, pk_mul, nI_add, nI_add, nI_add, nI_l (by omega), nI_l (by omega), nI_l (by omega), nI_l (by omega), nI_l (by omega)]
  rw [show (10000 : Int64) = lN 10000 from rfl, show (1000 : Int64) = lN 1000 from rfl, show (10 : Int64) = lN 10 from rfl]
  show Int64.ofNat _ = Int64.ofNat 10000 * Int64.ofNat a + Int64.ofNat 1000 * Int64.ofNat b + Int64.ofNat 10 * Int64.ofNat c + Int64.ofNat d
  rw [← Int64.ofNat_mul, ← Int64.ofNat_mul, ← Int64.ofNat_mul, ← Int64.ofNat_add, ← Int64.ofNat_add, ← Int64.ofNat_add]
theorem wit_33 {s : Int32} (h : wit s (-3) 3 = true) : ∃ b, b ≤ 6 ∧ s + 3 = nI b := by
  simp only [wit, Bool.and_eq_true, decide_eq_true_eq, i32_le] at h
  have e1 : (-3 : Int32).toInt = -3 := rfl
  have e2 : (3 : Int32).toInt = 3 := rfl
  refine ⟨(s.toInt + 3).toNat, by omega, ?_⟩
  rw [i32_eq, Int32.toInt_add, nI_toInt (by omega), e2, Int.bmod_def]
  split <;> omega
/-- what a mend's number is good for in the class's search: its row of steps -/
theorem tryOk_of {fu : Nat} (hfu : 50 ≤ fu) {M : sMs} {S : gS} {s : sSt} (hs : rSt s (iA S 0)) {A : Nat → Int64} {X : Nat → Nat → Int64} {nm : Nat} (hM : prI s.2.2.2.1 A X nm 36 M) (hpos : 0 < cnt s.2.2.2.1 36) (w : Int32 → Int32 → Int32 → Int32 → Int64) (cd : Int32 → Int32 → Int32 → Int32 → Int64) {m st n t : Int32} {a b c d e f : Nat} (ha : a ≤ 7) (hb : b ≤ 7) (hma : (if (0 : Int32) < m then m else 0) = nI a) (hnb : (if (0 : Int32) < n then n else 0) = nI b) (hm1 : m + 1 = nI c) (hc : c ≤ 8) (hn1 : n + 1 = nI d) (hd : d ≤ 8) (hs3 : st + 3 = nI e) (he : e ≤ 6) (ht3 : t + 3 = nI f) (hf : f ≤ 6)
    (V : Nat → Int64) (hV : ∀ k, k < 36 → s.2.2.2.1 k = true → V k = (A k + st.toInt64 * M.2.1 (a * 36 + cnt s.2.2.2.1 k)) + t.toInt64 * M.2.1 (b * 36 + cnt s.2.2.2.1 k)) (hbd : ∀ k, k < 36 → s.2.2.2.1 k = true → bd (V k) (2 ^ 60)) (href : ∀ k, k < 36 → s.2.2.2.1 k = true → ∃ x y u : Int64, fX11_foretoldAt fu S (nI k) = some x ∧ fX11_mended fu S m st (nI k) = some y ∧ fX11_mended fu S n t (nI k) = some u ∧ x + (y + u) * lF S 18 = V k) (hw : w m st n t = wstF V s.2.2.2.1 36) (hcd : fX11_code fu m st n t = some (cd m st n t)) : tryOk fu M S w cd m st n t := by
  obtain ⟨p1, p2, p3⟩ := hM
  have hcl := cnt_le s.2.2.2.1 36
  -- the class's row
  have hRV : ∀ k, k < 36 → s.2.2.2.1 k = true → (fun i => (M.1 i + st.toInt64 * M.2.1 (a * 36 + i)) + t.toInt64 * M.2.1 (b * 36 + i)) (cnt s.2.2.2.1 k) = V k := fun k hk ht => by
    rw [hV k hk ht]
    show (M.1 (cnt s.2.2.2.1 k) + _) + _ = _
    rw [(p3 k hk ht).1]
  have hwg : w m st n t = gmF (fun i => (M.1 i + st.toInt64 * M.2.1 (a * 36 + i)) + t.toInt64 * M.2.1 (b * 36 + i)) (cnt s.2.2.2.1 36) := by rw [hw, wst_gm (R := fun i => (M.1 i + st.toInt64 * M.2.1 (a * 36 + i)) + t.toInt64 * M.2.1 (b * 36 + i)) 36 (fun k hk ht => hRV k hk ht)]
  have hnn : ∀ i, i < cnt s.2.2.2.1 36 → 0 ≤ (abV ((fun i => (M.1 i + st.toInt64 * M.2.1 (a * 36 + i)) + t.toInt64 * M.2.1 (b * 36 + i)) i)).toInt := fun i hi => by
    obtain ⟨k, k1, k2, k3⟩ := cnt_surj (th := s.2.2.2.1) 36 i hi
    rw [← k3, hRV k k1 k2]
    exact abV_pos (hbd k k1 k2) (by decide)
  refine ⟨fun l ans => ?_, ?_, hcd⟩
  · have hl := try_loop (fu := fu) (M := M) hcl p1 ha hb m st n t (fun i => (M.1 i + st.toInt64 * M.2.1 (a * 36 + i)) + t.toInt64 * M.2.1 (b * 36 + i)) (fun i _ => rfl) l ans fu 0 (by omega) (by omega) (fun k hk => absurd hk (Nat.not_lt_zero _))
    have hcode : (((((10000 : Int32) * (m + 1)) + ((1000 : Int32) * (st + 3))) + ((10 : Int32) * (n + 1))) + (t + 3)).toInt64 = cd m st n t := by
      have h1 : some (cd m st n t) = some _ := hcd.symm
      rw [hm1, hn1, hs3, ht3, cd_eq hc he hd hf]
      have h2 := Option.some.inj (hcd : fX11_code fu m st n t = some (cd m st n t))
      rw [← h2, hm1, hn1, hs3, ht3]
    rw [hcode, nI_0] at hl
    have hmul : ∀ q : Nat, nI q * (36 : Int32) = nI (q * 36) := fun q => by rw [show (36 : Int32) = nI 36 from rfl, pk_mul]
    unfold fX1_tryOut
    simp only [fJ9_max_7cf53, Option.bind_some]
    rw [hma, hnb, hmul, hmul]
    rw [hwg]
    by_cases q : ∀ k, k < cnt s.2.2.2.1 36 → abV ((fun i => (M.1 i + st.toInt64 * M.2.1 (a * 36 + i)) + t.toInt64 * M.2.1 (b * 36 + i)) k) < l
    · rw [if_pos ((gm_iff _ hpos hnn).mpr q)]
      exact hl.1 q
    · rw [if_neg (fun z => q ((gm_iff _ hpos hnn).mp z))]
      exact hl.2 q
  · rw [hw]
    exact ww_eq hs (by omega) m st n t V href
