set_option maxHeartbeats 4000000 in
set_option maxRecDepth 100000 in
theorem kX4_below {l : Launch} {E : gE} {h0 h1 h2 h3 h4 ci : Nat} {sh tb mn : Nat → Int64} {co : Nat → Nat} (hci : ci ≤ 4) : CtrF l yX4_below cX4_below 1 (some .long) (gR 0 0) E [.ref h0] (wPd E h0 h1 h2 h3 h4 sh tb co ci mn) (some (.long (mn (2 ^ ci - 1)))) (wPd E h0 h1 h2 h3 h4 sh tb co ci mn) := by
  refine ctr_of false (plainFor_of_name (by decide)) (Nat.le_of_ble_eq_true rfl) (fun q => by cases q) (fun Γ h => ?_)
  refine g_lv [some _] rfl ?_
  refine g_aload_n h dX4_below_0 rfl ?_
  refine g_get h flX4_22 dX4_below_1 0 rfl rfl ?_
  refine g_iconst (v := 1) h dX4_below_4 (by decide) ?_
  refine g_aload_n h dX4_below_5 rfl ?_
  refine g_get h flX4_68 dX4_below_6 0 rfl rfl ?_
  refine g_ishl h dX4_below_9 ?_
  refine g_topi (nI (2 ^ ci)) (shl1 ci (by omega)) ?_
  refine g_iconst (v := 1) h dX4_below_10 (by decide) ?_
  refine g_isub h dX4_below_11 ?_
  refine g_topi (nI (2 ^ ci - 1)) (nI_m1 (Nat.two_pow_pos _)) ?_
  refine g_lald h dX4_below_12 4 _ rfl rfl (p2lt (by omega)) (by omega) ?_
  refine g_lreturn h dX4_below_13 rfl ⟨Nat.zero_le _, Nat.zero_le _, rfl, ?_, ?_⟩
  · rfl
  · rfl
set_option maxHeartbeats 4000000 in
set_option maxRecDepth 100000 in
theorem kX4_squares {l : Launch} {E : gE} {h0 h1 h2 h3 h4 ci : Nat} {sh tb mn : Nat → Int64} {co : Nat → Nat} (hci : ci ≤ 4) : CtrF l yX4_squares cX4_squares 1 (some .long) (gR 0 0) E [.ref h0] (wPd E h0 h1 h2 h3 h4 sh tb co ci mn) (some (.long (mn (2 ^ (ci + 1) - 1)))) (wPd E h0 h1 h2 h3 h4 sh tb co ci mn) := by
  refine ctr_of false (plainFor_of_name (by decide)) (Nat.le_of_ble_eq_true rfl) (fun q => by cases q) (fun Γ h => ?_)
  refine g_lv [some _] rfl ?_
  refine g_aload_n h dX4_squares_0 rfl ?_
  refine g_get h flX4_22 dX4_squares_1 0 rfl rfl ?_
  refine g_iconst (v := 1) h dX4_squares_4 (by decide) ?_
  refine g_aload_n h dX4_squares_5 rfl ?_
  refine g_get h flX4_68 dX4_squares_6 0 rfl rfl ?_
  refine g_iconst (v := 1) h dX4_squares_9 (by decide) ?_
  refine g_iadd h dX4_squares_10 ?_
  refine g_topi _ (nI_add _ 1) ?_
  refine g_ishl h dX4_squares_11 ?_
  refine g_topi (nI (2 ^ (ci + 1))) (shl1 (ci + 1) (by omega)) ?_
  refine g_iconst (v := 1) h dX4_squares_12 (by decide) ?_
  refine g_isub h dX4_squares_13 ?_
  refine g_topi (nI (2 ^ (ci + 1) - 1)) (nI_m1 (Nat.two_pow_pos _)) ?_
  refine g_lald h dX4_squares_14 4 _ rfl rfl (p2lt (by omega)) (by omega) ?_
  refine g_lreturn h dX4_squares_15 rfl ⟨Nat.zero_le _, Nat.zero_le _, rfl, ?_, ?_⟩
  · rfl
  · rfl
set_option maxHeartbeats 4000000 in
set_option maxRecDepth 100000 in
theorem kX4_above {l : Launch} {E : gE} {h0 h1 h2 h3 h4 ci : Nat} {sh tb mn : Nat → Int64} {co : Nat → Nat} {p : Nat} (hci : ci ≤ 4) (hp : p < ci) : CtrF l yX4_above cX4_above 4 (some .long) (gR 0 0) E [.ref h0, .int (nI p)] (wPd E h0 h1 h2 h3 h4 sh tb co ci mn) (some (.long (pAb ci mn p))) (wPd E h0 h1 h2 h3 h4 sh tb co ci mn) := by
  refine ctr_of false (plainFor_of_name (by decide)) (Nat.le_of_ble_eq_true rfl) (fun q => by cases q) (fun Γ h => ?_)
  refine g_lv [some _, some _, _, _] rfl ?_
  refine g_iload_n h dX4_above_0 rfl ?_
  refine g_if_lt h dX4_above_1 rfl (fun c1 => ?_) (fun c1 => ?_)
  · replace c1 := (nI_ltI (b := 0) (by omega) (by omega)).mp c1
    exact absurd c1 (by omega)
  · replace c1 := (not_congr (nI_ltI (b := 0) (by omega) (by omega))).mp c1
    refine g_iload_n h dX4_above_4 rfl ?_
    refine g_aload_n h dX4_above_5 rfl ?_
    refine g_get h flX4_68 dX4_above_6 0 rfl rfl ?_
    refine g_ic_lt h dX4_above_9 rfl (fun c9 => ?_) (fun c9 => ?_)
    · replace c9 := (nI_ltI (by omega) (by omega)).mp c9
      refine g_aload_n h dX4_above_14 rfl ?_
      refine g_get h flX4_22 dX4_above_15 0 rfl rfl ?_
      refine g_iconst (v := 1) h dX4_above_18 (by decide) ?_
      refine g_aload_n h dX4_above_19 rfl ?_
      refine g_get h flX4_68 dX4_above_20 0 rfl rfl ?_
      refine g_iconst (v := 1) h dX4_above_23 (by decide) ?_
      refine g_iadd h dX4_above_24 ?_
      refine g_topi _ (nI_add _ 1) ?_
      refine g_ishl h dX4_above_25 ?_
      refine g_topi (nI (2 ^ (ci + 1))) (shl1 (ci + 1) (by omega)) ?_
      refine g_iconst (v := 1) h dX4_above_26 (by decide) ?_
      refine g_isub h dX4_above_27 ?_
      refine g_topi (nI (2 ^ (ci + 1) - 1)) (nI_m1 (Nat.two_pow_pos _)) ?_
      refine g_iconst (v := 1) h dX4_above_28 (by decide) ?_
      refine g_iload_n h dX4_above_29 rfl ?_
      refine g_ishl h dX4_above_30 ?_
      refine g_topi (nI (2 ^ p)) (shl1 p (by omega)) ?_
      refine g_ixor h dX4_above_31 ?_
      refine g_topi (nI ((2 ^ (ci + 1) - 1) ^^^ 2 ^ p)) (x5 _ (p2lt (by omega)) _ (p2l p (by omega))) ?_
      refine g_lald h dX4_above_32 4 _ rfl rfl (p2x ci (by omega) p hp) (by omega) ?_
      refine g_lstore_n (lv' := [some _, some _, some _, none]) h dX4_above_33 (by decide) rfl ?_
      refine g_aload_n h dX4_above_34 rfl ?_
      refine g_get h flX4_68 dX4_above_35 0 rfl rfl ?_
      refine g_iconst (v := 1) h dX4_above_38 (by decide) ?_
      refine g_isub h dX4_above_39 ?_
      refine g_topi (nI (ci - 1)) (nI_m1 (by omega)) ?_
      refine g_iload_n h dX4_above_40 rfl ?_
      refine g_isub h dX4_above_41 ?_
      refine g_topi (nI (ci - 1 - p)) (pk_sub (by omega)) ?_
      refine g_iconst (v := 2) h dX4_above_42 (by decide) ?_
      refine g_irem h dX4_above_43 (by decide) ?_
      refine g_topi (nI ((ci - 1 - p) % 2)) (pk_rem (d := 2) (by omega) (by decide) (by decide)) ?_
      refine g_if_ne h dX4_above_44 rfl (fun c44 => ?_) (fun c44 => ?_)
      · replace c44 := (not_congr (nI_eq (b := 0) (by omega) (by omega))).mp c44
        refine g_lload_n h dX4_above_51 rfl ?_
        refine g_lneg h dX4_above_52 ?_
        refine g_lreturn h dX4_above_53 rfl ⟨Nat.zero_le _, Nat.zero_le _, rfl, ?_, ?_⟩
        · first | (rw [pAb, if_pos c44]; done) | (rw [pAb, if_neg c44]; done)
        · rfl
      · replace c44 := (nI_eq (b := 0) (by omega) (by omega)).mp c44
        refine g_lload_n h dX4_above_47 rfl ?_
        refine g_goto h dX4_above_48 rfl ?_
        refine g_lreturn h dX4_above_53 rfl ⟨Nat.zero_le _, Nat.zero_le _, rfl, ?_, ?_⟩
        · first | (rw [pAb, if_pos c44]; done) | (rw [pAb, if_neg c44]; done)
        · rfl
    · replace c9 := (not_congr (nI_ltI (by omega) (by omega))).mp c9
      exact absurd hp c9
set_option maxHeartbeats 4000000 in
set_option maxRecDepth 100000 in
theorem kX4_pickColumns {l : Launch} {E : gE} {h0 h1 h2 h3 h4 ci : Nat} {sh tb mn : Nat → Int64} {co : Nat → Nat} {m : Nat} (hm : m < 256) : CtrF l yX4_pickColumns cX4_pickColumns 3 none (gR 0 0) E [.ref h0, .int (nI m)] (wPd E h0 h1 h2 h3 h4 sh tb co ci mn) none (wPd E h0 h1 h2 h3 h4 sh tb (cols m co) (colN m co) mn) := by
  refine ctr_of false (plainFor_of_name (by decide)) (Nat.le_of_ble_eq_true rfl) (fun q => by cases q) (fun Γ h => ?_)
  refine g_lv [some _, some _, _] rfl ?_
  refine g_aload_n h dX4_pickColumns_0 rfl ?_
  refine g_iconst (v := 0) h dX4_pickColumns_1 (by decide) ?_
  refine g_put (ws' := [_, _, _, _, _]) (ty := .int) h flX4_68 gftX4 rfl (by decide +kernel) dX4_pickColumns_2 0 rfl rfl rfl (Nat.le_of_ble_eq_true rfl) rfl ?_
  refine g_iconst (v := 0) h dX4_pickColumns_5 (by decide) ?_
  refine g_istore_n (lv' := [some _, some _, some _]) h dX4_pickColumns_6 (by decide) rfl ?_
  have loop7 : ∀ (j : Nat) (k : Nat) (_ : k ≤ 8), 8 - k < j → Γ 0 0 7 [some (.ref h0), some (.int (nI m)), some (.int (nI k))] [] (wPd E h0 h1 h2 h3 h4 sh tb (pkS m co k).2 (pkS m co k).1 mn) := by
    intro j
    induction j with
    | zero => intro k hk hj; exact absurd hj (Nat.not_lt_zero _)
    | succ j ih =>
      intro k hk hj
      have l4 := pkS_le m co k
      refine g_iload_n h dX4_pickColumns_7 rfl ?_
      refine g_bipush (v := 8) h dX4_pickColumns_8 (by decide) ?_
      refine g_ic_ge h dX4_pickColumns_10 rfl (fun c10 => ?_) (fun c10 => ?_)
      · replace c10 := (nI_leI (a := 8) (by omega) (by omega)).mp c10
        have e8 : pkS m co 8 = pkS m co k := by first | exact pkS_stop (by omega) 8 (by omega) | rw [show k = 8 by omega]
        have l4 := pkS_le m co k
        refine g_aload_n h dX4_pickColumns_55 rfl ?_
        refine g_get h flX4_18 dX4_pickColumns_56 0 rfl rfl ?_
        refine g_aload_n h dX4_pickColumns_59 rfl ?_
        refine g_get h flX4_68 dX4_pickColumns_60 0 rfl rfl ?_
        refine g_bipush (v := 8) h dX4_pickColumns_63 (by decide) ?_
        refine g_iast (ws' := [_, _, _, _, _]) h dX4_pickColumns_65 3 _ rfl rfl (by omega) (by omega) rfl ?_
        refine g_return h dX4_pickColumns_66 rfl ⟨Nat.zero_le _, Nat.zero_le _, rfl, ?_, ?_⟩
        · rfl
        · rw [cols, colN, e8]; exact wPd_as (updN_eq _ _ 8)
      · replace c10 := (not_congr (nI_leI (a := 8) (by omega) (by omega))).mp c10
        refine g_aload_n h dX4_pickColumns_13 rfl ?_
        refine g_get h flX4_68 dX4_pickColumns_14 0 rfl rfl ?_
        refine g_iconst (v := 4) h dX4_pickColumns_17 (by decide) ?_
        refine g_ic_ge h dX4_pickColumns_18 rfl (fun c18 => ?_) (fun c18 => ?_)
        · replace c18 := (nI_leI (a := 4) (by omega) (by omega)).mp c18
          have e8 : pkS m co 8 = pkS m co k := by first | exact pkS_stop (by omega) 8 (by omega) | rw [show k = 8 by omega]
          have l4 := pkS_le m co k
          refine g_aload_n h dX4_pickColumns_55 rfl ?_
          refine g_get h flX4_18 dX4_pickColumns_56 0 rfl rfl ?_
          refine g_aload_n h dX4_pickColumns_59 rfl ?_
          refine g_get h flX4_68 dX4_pickColumns_60 0 rfl rfl ?_
          refine g_bipush (v := 8) h dX4_pickColumns_63 (by decide) ?_
          refine g_iast (ws' := [_, _, _, _, _]) h dX4_pickColumns_65 3 _ rfl rfl (by omega) (by omega) rfl ?_
          refine g_return h dX4_pickColumns_66 rfl ⟨Nat.zero_le _, Nat.zero_le _, rfl, ?_, ?_⟩
          · rfl
          · rw [cols, colN, e8]; exact wPd_as (updN_eq _ _ 8)
        · replace c18 := (not_congr (nI_leI (a := 4) (by omega) (by omega))).mp c18
          refine g_iload_n h dX4_pickColumns_21 rfl ?_
          refine g_iload_n h dX4_pickColumns_22 rfl ?_
          refine g_ishr h dX4_pickColumns_23 ?_
          refine g_iconst (v := 1) h dX4_pickColumns_24 (by decide) ?_
          refine g_iand h dX4_pickColumns_25 ?_
          refine g_topi (bI (m.testBit k)) (szbit m hm k (by omega)) ?_
          refine g_ifb_eq h dX4_pickColumns_26 rfl (fun c26 => ?_) (fun c26 => ?_)
          · refine g_iinc (lv' := [some _, some _, some _]) h dX4_pickColumns_49 rfl (nI_inc1 _) (by decide) rfl ?_
            refine g_goto h dX4_pickColumns_52 rfl ?_
            have e : pkS m co (k + 1) = if (pkS m co k).1 < 4 ∧ m.testBit k = true then ((pkS m co k).1 + 1, updN (pkS m co k).2 (pkS m co k).1 k) else pkS m co k := rfl
            first
            | (rw [if_pos ⟨by omega, c26⟩] at e; exact g_as rfl rfl rfl (show _ = (wPd E h0 h1 h2 h3 h4 sh tb (pkS m co (k + 1)).2 (pkS m co (k + 1)).1 mn) from (by rw [e]; exact wPd_as (updN_eq _ _ _))) (ih (k + 1) (by omega) (by omega)))
            | (rw [if_neg (fun q => absurd (c26.symm.trans q.2) (by decide))] at e; exact g_as rfl rfl rfl (show _ = (wPd E h0 h1 h2 h3 h4 sh tb (pkS m co (k + 1)).2 (pkS m co (k + 1)).1 mn) by rw [e]) (ih (k + 1) (by omega) (by omega)))
          · refine g_aload_n h dX4_pickColumns_29 rfl ?_
            refine g_get h flX4_18 dX4_pickColumns_30 0 rfl rfl ?_
            refine g_aload_n h dX4_pickColumns_33 rfl ?_
            refine g_get h flX4_68 dX4_pickColumns_34 0 rfl rfl ?_
            refine g_iload_n h dX4_pickColumns_37 rfl ?_
            refine g_iast (ws' := [_, _, _, _, _]) h dX4_pickColumns_38 3 _ rfl rfl (by omega) (by omega) rfl ?_
            refine g_aload_n h dX4_pickColumns_39 rfl ?_
            refine g_dup h dX4_pickColumns_40 rfl ?_
            refine g_get h flX4_68 dX4_pickColumns_41 0 rfl rfl ?_
            refine g_iconst (v := 1) h dX4_pickColumns_44 (by decide) ?_
            refine g_iadd h dX4_pickColumns_45 ?_
            refine g_topi _ (nI_add _ 1) ?_
            refine g_put (ws' := [_, _, _, _, _]) (ty := .int) h flX4_68 gftX4 rfl (by decide +kernel) dX4_pickColumns_46 0 rfl rfl rfl (Nat.le_of_ble_eq_true rfl) rfl ?_
            refine g_iinc (lv' := [some _, some _, some _]) h dX4_pickColumns_49 rfl (nI_inc1 _) (by decide) rfl ?_
            refine g_goto h dX4_pickColumns_52 rfl ?_
            have e : pkS m co (k + 1) = if (pkS m co k).1 < 4 ∧ m.testBit k = true then ((pkS m co k).1 + 1, updN (pkS m co k).2 (pkS m co k).1 k) else pkS m co k := rfl
            first
            | (rw [if_pos ⟨by omega, c26⟩] at e; exact g_as rfl rfl rfl (show _ = (wPd E h0 h1 h2 h3 h4 sh tb (pkS m co (k + 1)).2 (pkS m co (k + 1)).1 mn) from (by rw [e]; exact wPd_as (updN_eq _ _ _))) (ih (k + 1) (by omega) (by omega)))
            | (rw [if_neg (fun q => absurd (c26.symm.trans q.2) (by decide))] at e; exact g_as rfl rfl rfl (show _ = (wPd E h0 h1 h2 h3 h4 sh tb (pkS m co (k + 1)).2 (pkS m co (k + 1)).1 mn) by rw [e]) (ih (k + 1) (by omega) (by omega)))
  exact loop7 _ 0 (Nat.zero_le _) (Nat.lt_succ_self _)
