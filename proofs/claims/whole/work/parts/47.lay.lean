/-! put, lay -/
theorem put_val (v : Int32) : (if (32768 : Int32) ≤ v &&& 65535 then (v &&& 65535) - 65536 else v &&& 65535) = v.toInt16.toInt32 := by
  have e := pk_and v (m := 65535) 16 (by decide)
  have hN : v.toBitVec.toNat < 2 ^ 32 := v.toBitVec.isLt
  generalize hn : v.toBitVec.toNat = N at *
  have h1 : v.toInt16.toInt32.toInt = v.toInt.bmod 65536 := by
    rw [Int16.toInt_toInt32, Int32.toInt_toInt16]
  have h2 : v.toInt = if 2 * N < 2 ^ 32 then (N : Int) else (N : Int) - (2 ^ 32 : Nat) := by
    rw [← hn]
    exact BitVec.toInt_eq_toNat_cond v.toBitVec
  have hm : N % 65536 < 2 ^ 16 := Nat.mod_lt _ (by decide)
  rw [e]
  have c1 : (32768 : Int32) ≤ nI (N % 2 ^ 16) ↔ 32768 ≤ N % 2 ^ 16 := nI_leI (a := 32768) (by decide) (by omega)
  by_cases h : 32768 ≤ N % 2 ^ 16
  · rw [if_pos (c1.mpr h), i32_eq, h1]
    have e2 : nI (N % 2 ^ 16) - 65536 = nI (N % 2 ^ 16) - nI 65536 := rfl
    rw [e2, pk_sub_toInt (by omega) (by decide), Int.bmod_def, h2]
    split <;> split <;> omega
  · rw [if_neg (fun q => h (c1.mp q)), i32_eq, h1, nI_toInt (by omega), Int.bmod_def, h2]
    split <;> split <;> omega
theorem hasPl_pin {len : Nat → Int32} {k m : Nat} (hk : k < 3) (hm : m ≤ 36) (hl : len k = nI m) (v : Int32) : hasPl len (nI k) v = pin v m := by
  unfold hasPl
  rw [plc_lt hk, hl]
  by_cases h1 : v < 0
  · rw [if_pos h1, pin_f1 h1]
  · rw [if_neg h1]
    by_cases h2 : nI m ≤ v
    · rw [if_pos h2, pin_f2 (by omega) h2]
    · rw [if_neg h2, pin_t (by omega) h1 h2, if_neg]
      intro q
      rw [i32_le, nI_toInt (by omega)] at h2
      rw [i32_le] at q
      have e : (36 : Int32).toInt = 36 := rfl
      omega
theorem p_put (fu : Nat) : St_put fu := by
  intro T S c h hc v0 v1 v2
  obtain ⟨h1, h2, h3, h4, h5, h6, h7, h8, h9⟩ := id h
  unfold fX10_put fX11_put
  rw [in_eq]
  simp only [Option.bind_some, obind_eta, fX5_isSheet, fX5_isMissing, fX5_hasPlace]
  cases hw : wit v0 0 2
  · simp only [Bool.false_eq_true, if_false]
    exact ref1 h hc
  obtain ⟨k, hk, rfl⟩ := wit_shk hw
  simp only [if_true]
  obtain ⟨q1, q2, q3⟩ := h3 k hk
  rw [gIx_n hk (by decide), plc_lt hk]
  simp only [Option.bind_some, q1, in_eq]
  rcases wit_m (m := 36) 36 rfl (by decide) q2 with e | ⟨m, hm, e⟩
  · rw [e, decide_eq_true rfl, if_pos rfl, if_neg (by decide)]
    exact ref2 h hc
  · have ne : ¬ nI m = -1 := fun q => by
      rw [i32_eq, nI_toInt (by omega)] at q
      have : (-1 : Int32).toInt = -1 := rfl
      omega
    rw [hasPl_pin hk hm e, e, decide_eq_false ne, if_neg (by decide), if_pos (nI_pos' (by omega)), wit_pin _ (by omega)]
    cases hp : pin v1 m
    · simp only [Bool.false_eq_true, if_false]
      exact ref1 h hc
    · obtain ⟨j, hj, rfl⟩ := pin_ex hp (by omega)
      simp only [if_true]
      have hpl : hasPl T.2.2.2.1.1 (nI k) (nI j) = true := by rw [hasPl_pin hk hm e]; exact hp
      have ha : fX5_write T.2.2.2.1 (nI k) (nI j) v2 = some (v2.toInt16.toInt32, (T.2.2.2.1.1, upd2 T.2.2.2.1.2 k (upd (T.2.2.2.1.2 k) j v2.toInt16.toInt32))) := by
        unfold fX5_write
        rw [gIx_n hk (by decide), gIx_n (show j < 36 by omega) (by decide)]
        exact if_pos hpl
      have hj2 : ∀ p : Int32, jX11_put_91 fu (nI k) (nI j) v2 p ((36 : Int32) * nI k + nI j) S = some (p.toInt64, sAu S 3 (36 * k + j) p) := fun p => by
        unfold jX11_put_91
        rw [ix36 hk (by omega)]
        simp only [Option.bind_some]
        show some ((upd (iA S 3) (36 * k + j) p (36 * k + j)).toInt64, _) = _
        rw [pk_us]
      rw [ha, hj2, hj2]
      have hv : (if (32768 : Int32) ≤ v2 &&& 65535 then some (((v2 &&& 65535) - 65536).toInt64, sAu S 3 (36 * k + j) ((v2 &&& 65535) - 65536)) else some ((v2 &&& 65535).toInt64, sAu S 3 (36 * k + j) (v2 &&& 65535))) = some (v2.toInt16.toInt32.toInt64, sAu S 3 (36 * k + j) v2.toInt16.toInt32) := by
        rw [← put_val v2]
        split <;> rfl
      rw [hv]
      refine rOk_of rfl rfl rfl ?_
      obtain ⟨g1, g2, g3, g4, g5, g6, g7, g8, g9⟩ := rR_mono h
      unfold rR
      refine ⟨g1, g2, fun i hi => ?_, g4, g5, g6, g7, g8, g9⟩
      obtain ⟨r1, r2, r3⟩ := g3 i hi
      refine ⟨r1, r2, fun t ht => ?_⟩
      have ht' : (t : Int) < (T.2.2.2.1.1 i).toInt := ht
      have t36 : t < 36 := by
        simp only [wit, Bool.and_eq_true, decide_eq_true_eq, i32_le] at r2
        have e36 : (36 : Int32).toInt = 36 := rfl
        omega
      show upd (iA S 3) (36 * k + j) v2.toInt16.toInt32 (36 * i + t) = upd2 T.2.2.2.1.2 k (upd (T.2.2.2.1.2 k) j v2.toInt16.toInt32) i t
      by_cases ei : i = k
      · subst ei
        rw [show upd2 T.2.2.2.1.2 i (upd (T.2.2.2.1.2 i) j v2.toInt16.toInt32) i = upd (T.2.2.2.1.2 i) j v2.toInt16.toInt32 from if_pos rfl]
        by_cases et : t = j
        · rw [et, pk_us, pk_us]
        · rw [pk_un (by omega), pk_un et]
          exact r3 t ht
      · rw [show upd2 T.2.2.2.1.2 k (upd (T.2.2.2.1.2 k) j v2.toInt16.toInt32) i = T.2.2.2.1.2 i from if_neg ei, pk_un (by omega)]
        exact r3 t ht
