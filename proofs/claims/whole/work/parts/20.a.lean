set_option maxHeartbeats 4000000 in
set_option maxRecDepth 100000 in
theorem kX4_minorOf {l : Launch} {E : gE} {h0 h1 h2 h3 h4 ci : Nat} {sh tb mn : Nat → Int64} {co : Nat → Nat} {m : Nat} (hci : ci ≤ 4) (hm1 : 0 < m) (hm : m < 32) (hco : ∀ j, j < 5 → co j ≤ 8) : CtrF l yX4_minorOf cX4_minorOf 10 (some .long) (gR 1 20) E [.ref h0, .int (nI m)] (wPd E h0 h1 h2 h3 h4 sh tb co ci mn) (some (.long (mst tb co mn m (ci + 1)).1)) (wPd E h0 h1 h2 h3 h4 sh tb co ci mn) := by
  refine ctr_of false (plainFor_of_name (by decide)) (Nat.le_of_ble_eq_true rfl) (fun q => by cases q) (fun Γ h => ?_)
  refine g_lv [some _, some _, _, _, _, _, _, _, _, _] rfl ?_
  have hp5 := popc5 m hm
  have hp1 := popc1 m hm hm1
  refine g_iload_n h dX4_minorOf_0 rfl ?_
  refine g_cSr h (kJ6_bitCount_0f7a4 (by omega)) mJ6_bitCount_0f7a4 lkX4_84 dX4_minorOf_1 rfl rfl ⟨Nat.zero_le _, Nat.zero_le _⟩ ⟨by decide, by decide⟩ (Nat.le_of_ble_eq_true rfl) [] rfl rfl ?_
  refine g_istore_n (lv' := [some _, some _, some _, _, _, _, _, _, _, _]) h dX4_minorOf_4 (by decide) rfl ?_
  refine g_aload_n h dX4_minorOf_5 rfl ?_
  refine g_get h flX4_18 dX4_minorOf_6 0 rfl rfl ?_
  refine g_iload_n h dX4_minorOf_9 rfl ?_
  refine g_iconst (v := 1) h dX4_minorOf_10 (by decide) ?_
  refine g_isub h dX4_minorOf_11 ?_
  refine g_topi (nI (popc m - 1)) (nI_m1 hp1) ?_
  refine g_iald h dX4_minorOf_12 3 _ rfl rfl (by omega) (by omega) ?_
  refine g_istore_n (lv' := [some _, some _, some _, some _, _, _, _, _, _, _]) h dX4_minorOf_13 (by decide) rfl ?_
  refine g_iload_n h dX4_minorOf_14 rfl ?_
  refine g_iconst (v := 2) h dX4_minorOf_15 (by decide) ?_
  refine g_irem h dX4_minorOf_16 (by decide) ?_
  refine g_topi (nI (popc m % 2)) (pk_rem (d := 2) (by omega) (by decide) (by decide)) ?_
  refine g_if_ne h dX4_minorOf_17 rfl (fun c17 => ?_) (fun c17 => ?_)
  · replace c17 := (not_congr (nI_eq (b := 0) (by omega) (by omega))).mp c17
    refine g_lconst (v := 1) h dX4_minorOf_26 (by decide) ?_
    refine g_lstore (lv' := [some _, some _, some _, some _, some _, none, _, _, _, _]) h dX4_minorOf_27 (by decide) rfl ?_
    refine g_lconst (v := 0) h dX4_minorOf_29 (by decide) ?_
    refine g_lstore (lv' := [some _, some _, some _, some _, some _, none, some _, none, _, _]) h dX4_minorOf_30 (by decide) rfl ?_
    refine g_iconst (v := 0) h dX4_minorOf_32 (by decide) ?_
    refine g_istore (lv' := [some _, some _, some _, some _, some _, none, some _, none, some _, _]) h dX4_minorOf_33 (by decide) rfl ?_
    have loop35 : ∀ (j : Nat) (k : Nat) (o9 : Option Value) (_ : k ≤ ci + 1), ci + 1 - k < j → Γ 0 0 35 [some (.ref h0), some (.int (nI m)), some (.int (nI (popc m))), some (.int (nI (co (popc m - 1)))), some (.long (mst tb co mn m k).2), none, some (.long (mst tb co mn m k).1), none, some (.int (nI k)), o9] [] (wPd E h0 h1 h2 h3 h4 sh tb co ci mn) := by
      intro j
      induction j with
      | zero => intro k o9 hk hj; exact absurd hj (Nat.not_lt_zero _)
      | succ j ih =>
        intro k o9 hk hj
        refine g_iload h dX4_minorOf_35 rfl ?_
        refine g_aload_n h dX4_minorOf_37 rfl ?_
        refine g_get h flX4_68 dX4_minorOf_38 0 rfl rfl ?_
        refine g_ic_gt h dX4_minorOf_41 rfl (fun c41 => ?_) (fun c41 => ?_)
        · replace c41 := (nI_ltI (by omega) (by omega)).mp c41
          refine g_lload h dX4_minorOf_103 rfl ?_
          refine g_lreturn h dX4_minorOf_105 rfl ⟨Nat.zero_le _, Nat.zero_le _, rfl, ?_, ?_⟩
          · rw [show k = ci + 1 by omega]
          · rfl
        · replace c41 := (not_congr (nI_ltI (by omega) (by omega))).mp c41
          refine g_iconst (v := 1) h dX4_minorOf_44 (by decide) ?_
          refine g_iload h dX4_minorOf_45 rfl ?_
          refine g_ishl h dX4_minorOf_47 ?_
          refine g_topi (nI (2 ^ k)) (shl1 k (by omega)) ?_
          refine g_istore (lv' := [some _, some _, some _, some _, some _, none, some _, none, some _, some _]) h dX4_minorOf_48 (by decide) rfl ?_
          refine g_iload_n h dX4_minorOf_50 rfl ?_
          refine g_iload h dX4_minorOf_51 rfl ?_
          refine g_iand h dX4_minorOf_53 ?_
          refine g_if_eq h dX4_minorOf_54 rfl (fun c54 => ?_) (fun c54 => ?_)
          · replace c54 := (bit0 m hm k (by omega)).mp c54
            refine g_iinc (lv' := [some _, some _, some _, some _, some _, none, some _, none, some _, some _]) h dX4_minorOf_97 rfl (nI_inc1 _) (by decide) rfl ?_
            refine g_goto h dX4_minorOf_100 rfl ?_
            have e : mst tb co mn m (k + 1) = if m.testBit k = true then ((mst tb co mn m k).1 + (mst tb co mn m k).2 * tb (co (popc m - 1) * 9 + co k) * mn (m ^^^ 2 ^ k), -(mst tb co mn m k).2) else mst tb co mn m k := rfl
            first
            | (rw [if_neg (fun q => absurd (c54.symm.trans q) (by decide))] at e; exact g_as rfl (show _ = [some (.ref h0), some (.int (nI m)), some (.int (nI (popc m))), some (.int (nI (co (popc m - 1)))), some (.long (mst tb co mn m (k + 1)).2), none, some (.long (mst tb co mn m (k + 1)).1), none, some (.int (nI (k + 1))), _] by rw [e] <;> rfl) rfl rfl (ih (k + 1) _ (by omega) (by omega)))
            | (rw [if_pos (by cases hb : m.testBit k with | true => rfl | false => exact absurd hb c54)] at e; exact g_as rfl (show _ = [some (.ref h0), some (.int (nI m)), some (.int (nI (popc m))), some (.int (nI (co (popc m - 1)))), some (.long (mst tb co mn m (k + 1)).2), none, some (.long (mst tb co mn m (k + 1)).1), none, some (.int (nI (k + 1))), _] by rw [e] <;> rfl) rfl rfl (ih (k + 1) _ (by omega) (by omega)))
          · replace c54 := (not_congr (bit0 m hm k (by omega))).mp c54
            refine g_lload h dX4_minorOf_57 rfl ?_
            refine g_lload h dX4_minorOf_59 rfl ?_
            have hc1 := hco (popc m - 1) (by omega)
            have hc2 := hco k (by omega)
            refine g_aload_n h dX4_minorOf_61 rfl ?_
            refine g_get h flX4_15 dX4_minorOf_62 0 rfl rfl ?_
            refine g_iload_n h dX4_minorOf_65 rfl ?_
            refine g_bipush (v := 9) h dX4_minorOf_66 (by decide) ?_
            refine g_imul h dX4_minorOf_68 ?_
            refine g_topi _ (pk_mul _ 9) ?_
            refine g_aload_n h dX4_minorOf_69 rfl ?_
            refine g_get h flX4_18 dX4_minorOf_70 0 rfl rfl ?_
            refine g_iload h dX4_minorOf_73 rfl ?_
            refine g_iald h dX4_minorOf_75 3 _ rfl rfl (by omega) (by omega) ?_
            refine g_iadd h dX4_minorOf_76 ?_
            refine g_topi _ (nI_add _ _) ?_
            refine g_lald h dX4_minorOf_77 2 _ rfl rfl (by omega) (by omega) ?_
            refine g_lmul h dX4_minorOf_78 ?_
            refine g_aload_n h dX4_minorOf_79 rfl ?_
            refine g_get h flX4_22 dX4_minorOf_80 0 rfl rfl ?_
            refine g_iload_n h dX4_minorOf_83 rfl ?_
            refine g_iload h dX4_minorOf_84 rfl ?_
            refine g_ixor h dX4_minorOf_86 ?_
            refine g_topi (nI (m ^^^ 2 ^ k)) (x5 m hm _ (p2l k (by omega))) ?_
            refine g_lald h dX4_minorOf_87 4 _ rfl rfl (xlt m hm k (by omega)) (by omega) ?_
            refine g_lmul h dX4_minorOf_88 ?_
            refine g_ladd h dX4_minorOf_89 ?_
            refine g_lstore (lv' := [some _, some _, some _, some _, some _, none, some _, none, some _, some _]) h dX4_minorOf_90 (by decide) rfl ?_
            refine g_lload h dX4_minorOf_92 rfl ?_
            refine g_lneg h dX4_minorOf_94 ?_
            refine g_lstore (lv' := [some _, some _, some _, some _, some _, none, some _, none, some _, some _]) h dX4_minorOf_95 (by decide) rfl ?_
            refine g_iinc (lv' := [some _, some _, some _, some _, some _, none, some _, none, some _, some _]) h dX4_minorOf_97 rfl (nI_inc1 _) (by decide) rfl ?_
            refine g_goto h dX4_minorOf_100 rfl ?_
            have e : mst tb co mn m (k + 1) = if m.testBit k = true then ((mst tb co mn m k).1 + (mst tb co mn m k).2 * tb (co (popc m - 1) * 9 + co k) * mn (m ^^^ 2 ^ k), -(mst tb co mn m k).2) else mst tb co mn m k := rfl
            first
            | (rw [if_neg (fun q => absurd (c54.symm.trans q) (by decide))] at e; exact g_as rfl (show _ = [some (.ref h0), some (.int (nI m)), some (.int (nI (popc m))), some (.int (nI (co (popc m - 1)))), some (.long (mst tb co mn m (k + 1)).2), none, some (.long (mst tb co mn m (k + 1)).1), none, some (.int (nI (k + 1))), _] by rw [e] <;> rfl) rfl rfl (ih (k + 1) _ (by omega) (by omega)))
            | (rw [if_pos (by cases hb : m.testBit k with | true => rfl | false => exact absurd hb c54)] at e; exact g_as rfl (show _ = [some (.ref h0), some (.int (nI m)), some (.int (nI (popc m))), some (.int (nI (co (popc m - 1)))), some (.long (mst tb co mn m (k + 1)).2), none, some (.long (mst tb co mn m (k + 1)).1), none, some (.int (nI (k + 1))), _] by rw [e] <;> rfl) rfl rfl (ih (k + 1) _ (by omega) (by omega)))
    have e0 : (mst tb co mn m 0).2 = if popc m % 2 = 0 then -1 else 1 := rfl
    first
    | (rw [if_pos c17] at e0; exact g_as rfl (show _ = [some (.ref h0), some (.int (nI m)), some (.int (nI (popc m))), some (.int (nI (co (popc m - 1)))), some (.long (mst tb co mn m 0).2), none, some (.long (mst tb co mn m 0).1), none, some (.int (nI 0)), _] by rw [e0] <;> rfl) rfl rfl (loop35 _ 0 none (by omega) (Nat.lt_succ_self _)))
    | (rw [if_neg c17] at e0; exact g_as rfl (show _ = [some (.ref h0), some (.int (nI m)), some (.int (nI (popc m))), some (.int (nI (co (popc m - 1)))), some (.long (mst tb co mn m 0).2), none, some (.long (mst tb co mn m 0).1), none, some (.int (nI 0)), _] by rw [e0] <;> rfl) rfl rfl (loop35 _ 0 none (by omega) (Nat.lt_succ_self _)))
  · replace c17 := (nI_eq (b := 0) (by omega) (by omega)).mp c17
    refine g_ldc2 (v := (-1)) h dX4_minorOf_20 (gtm (by decide +kernel)) ?_
    refine g_goto h dX4_minorOf_23 rfl ?_
    refine g_lstore (lv' := [some _, some _, some _, some _, some _, none, _, _, _, _]) h dX4_minorOf_27 (by decide) rfl ?_
    refine g_lconst (v := 0) h dX4_minorOf_29 (by decide) ?_
    refine g_lstore (lv' := [some _, some _, some _, some _, some _, none, some _, none, _, _]) h dX4_minorOf_30 (by decide) rfl ?_
    refine g_iconst (v := 0) h dX4_minorOf_32 (by decide) ?_
    refine g_istore (lv' := [some _, some _, some _, some _, some _, none, some _, none, some _, _]) h dX4_minorOf_33 (by decide) rfl ?_
    have loop35 : ∀ (j : Nat) (k : Nat) (o9 : Option Value) (_ : k ≤ ci + 1), ci + 1 - k < j → Γ 0 0 35 [some (.ref h0), some (.int (nI m)), some (.int (nI (popc m))), some (.int (nI (co (popc m - 1)))), some (.long (mst tb co mn m k).2), none, some (.long (mst tb co mn m k).1), none, some (.int (nI k)), o9] [] (wPd E h0 h1 h2 h3 h4 sh tb co ci mn) := by
      intro j
      induction j with
      | zero => intro k o9 hk hj; exact absurd hj (Nat.not_lt_zero _)
      | succ j ih =>
        intro k o9 hk hj
        refine g_iload h dX4_minorOf_35 rfl ?_
        refine g_aload_n h dX4_minorOf_37 rfl ?_
        refine g_get h flX4_68 dX4_minorOf_38 0 rfl rfl ?_
        refine g_ic_gt h dX4_minorOf_41 rfl (fun c41 => ?_) (fun c41 => ?_)
        · replace c41 := (nI_ltI (by omega) (by omega)).mp c41
          refine g_lload h dX4_minorOf_103 rfl ?_
          refine g_lreturn h dX4_minorOf_105 rfl ⟨Nat.zero_le _, Nat.zero_le _, rfl, ?_, ?_⟩
          · rw [show k = ci + 1 by omega]
          · rfl
        · replace c41 := (not_congr (nI_ltI (by omega) (by omega))).mp c41
          refine g_iconst (v := 1) h dX4_minorOf_44 (by decide) ?_
          refine g_iload h dX4_minorOf_45 rfl ?_
          refine g_ishl h dX4_minorOf_47 ?_
          refine g_topi (nI (2 ^ k)) (shl1 k (by omega)) ?_
          refine g_istore (lv' := [some _, some _, some _, some _, some _, none, some _, none, some _, some _]) h dX4_minorOf_48 (by decide) rfl ?_
          refine g_iload_n h dX4_minorOf_50 rfl ?_
          refine g_iload h dX4_minorOf_51 rfl ?_
          refine g_iand h dX4_minorOf_53 ?_
          refine g_if_eq h dX4_minorOf_54 rfl (fun c54 => ?_) (fun c54 => ?_)
          · replace c54 := (bit0 m hm k (by omega)).mp c54
            refine g_iinc (lv' := [some _, some _, some _, some _, some _, none, some _, none, some _, some _]) h dX4_minorOf_97 rfl (nI_inc1 _) (by decide) rfl ?_
            refine g_goto h dX4_minorOf_100 rfl ?_
            have e : mst tb co mn m (k + 1) = if m.testBit k = true then ((mst tb co mn m k).1 + (mst tb co mn m k).2 * tb (co (popc m - 1) * 9 + co k) * mn (m ^^^ 2 ^ k), -(mst tb co mn m k).2) else mst tb co mn m k := rfl
            first
            | (rw [if_neg (fun q => absurd (c54.symm.trans q) (by decide))] at e; exact g_as rfl (show _ = [some (.ref h0), some (.int (nI m)), some (.int (nI (popc m))), some (.int (nI (co (popc m - 1)))), some (.long (mst tb co mn m (k + 1)).2), none, some (.long (mst tb co mn m (k + 1)).1), none, some (.int (nI (k + 1))), _] by rw [e] <;> rfl) rfl rfl (ih (k + 1) _ (by omega) (by omega)))
            | (rw [if_pos (by cases hb : m.testBit k with | true => rfl | false => exact absurd hb c54)] at e; exact g_as rfl (show _ = [some (.ref h0), some (.int (nI m)), some (.int (nI (popc m))), some (.int (nI (co (popc m - 1)))), some (.long (mst tb co mn m (k + 1)).2), none, some (.long (mst tb co mn m (k + 1)).1), none, some (.int (nI (k + 1))), _] by rw [e] <;> rfl) rfl rfl (ih (k + 1) _ (by omega) (by omega)))
          · replace c54 := (not_congr (bit0 m hm k (by omega))).mp c54
            refine g_lload h dX4_minorOf_57 rfl ?_
            refine g_lload h dX4_minorOf_59 rfl ?_
            have hc1 := hco (popc m - 1) (by omega)
            have hc2 := hco k (by omega)
            refine g_aload_n h dX4_minorOf_61 rfl ?_
            refine g_get h flX4_15 dX4_minorOf_62 0 rfl rfl ?_
            refine g_iload_n h dX4_minorOf_65 rfl ?_
            refine g_bipush (v := 9) h dX4_minorOf_66 (by decide) ?_
            refine g_imul h dX4_minorOf_68 ?_
            refine g_topi _ (pk_mul _ 9) ?_
            refine g_aload_n h dX4_minorOf_69 rfl ?_
            refine g_get h flX4_18 dX4_minorOf_70 0 rfl rfl ?_
            refine g_iload h dX4_minorOf_73 rfl ?_
            refine g_iald h dX4_minorOf_75 3 _ rfl rfl (by omega) (by omega) ?_
            refine g_iadd h dX4_minorOf_76 ?_
            refine g_topi _ (nI_add _ _) ?_
            refine g_lald h dX4_minorOf_77 2 _ rfl rfl (by omega) (by omega) ?_
            refine g_lmul h dX4_minorOf_78 ?_
            refine g_aload_n h dX4_minorOf_79 rfl ?_
            refine g_get h flX4_22 dX4_minorOf_80 0 rfl rfl ?_
            refine g_iload_n h dX4_minorOf_83 rfl ?_
            refine g_iload h dX4_minorOf_84 rfl ?_
            refine g_ixor h dX4_minorOf_86 ?_
            refine g_topi (nI (m ^^^ 2 ^ k)) (x5 m hm _ (p2l k (by omega))) ?_
            refine g_lald h dX4_minorOf_87 4 _ rfl rfl (xlt m hm k (by omega)) (by omega) ?_
            refine g_lmul h dX4_minorOf_88 ?_
            refine g_ladd h dX4_minorOf_89 ?_
            refine g_lstore (lv' := [some _, some _, some _, some _, some _, none, some _, none, some _, some _]) h dX4_minorOf_90 (by decide) rfl ?_
            refine g_lload h dX4_minorOf_92 rfl ?_
            refine g_lneg h dX4_minorOf_94 ?_
            refine g_lstore (lv' := [some _, some _, some _, some _, some _, none, some _, none, some _, some _]) h dX4_minorOf_95 (by decide) rfl ?_
            refine g_iinc (lv' := [some _, some _, some _, some _, some _, none, some _, none, some _, some _]) h dX4_minorOf_97 rfl (nI_inc1 _) (by decide) rfl ?_
            refine g_goto h dX4_minorOf_100 rfl ?_
            have e : mst tb co mn m (k + 1) = if m.testBit k = true then ((mst tb co mn m k).1 + (mst tb co mn m k).2 * tb (co (popc m - 1) * 9 + co k) * mn (m ^^^ 2 ^ k), -(mst tb co mn m k).2) else mst tb co mn m k := rfl
            first
            | (rw [if_neg (fun q => absurd (c54.symm.trans q) (by decide))] at e; exact g_as rfl (show _ = [some (.ref h0), some (.int (nI m)), some (.int (nI (popc m))), some (.int (nI (co (popc m - 1)))), some (.long (mst tb co mn m (k + 1)).2), none, some (.long (mst tb co mn m (k + 1)).1), none, some (.int (nI (k + 1))), _] by rw [e] <;> rfl) rfl rfl (ih (k + 1) _ (by omega) (by omega)))
            | (rw [if_pos (by cases hb : m.testBit k with | true => rfl | false => exact absurd hb c54)] at e; exact g_as rfl (show _ = [some (.ref h0), some (.int (nI m)), some (.int (nI (popc m))), some (.int (nI (co (popc m - 1)))), some (.long (mst tb co mn m (k + 1)).2), none, some (.long (mst tb co mn m (k + 1)).1), none, some (.int (nI (k + 1))), _] by rw [e] <;> rfl) rfl rfl (ih (k + 1) _ (by omega) (by omega)))
    have e0 : (mst tb co mn m 0).2 = if popc m % 2 = 0 then -1 else 1 := rfl
    first
    | (rw [if_pos c17] at e0; exact g_as rfl (show _ = [some (.ref h0), some (.int (nI m)), some (.int (nI (popc m))), some (.int (nI (co (popc m - 1)))), some (.long (mst tb co mn m 0).2), none, some (.long (mst tb co mn m 0).1), none, some (.int (nI 0)), _] by rw [e0] <;> rfl) rfl rfl (loop35 _ 0 none (by omega) (Nat.lt_succ_self _)))
    | (rw [if_neg c17] at e0; exact g_as rfl (show _ = [some (.ref h0), some (.int (nI m)), some (.int (nI (popc m))), some (.int (nI (co (popc m - 1)))), some (.long (mst tb co mn m 0).2), none, some (.long (mst tb co mn m 0).1), none, some (.int (nI 0)), _] by rw [e0] <;> rfl) rfl rfl (loop35 _ 0 none (by omega) (Nat.lt_succ_self _)))
