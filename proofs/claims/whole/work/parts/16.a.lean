set_option maxHeartbeats 4000000 in
set_option maxRecDepth 100000 in
theorem kX6_areFound {l : Launch} {E : gE} {h0 h1 cs : Nat} {at0 st0 : Bool} {ab : Nat → Int64} {bl sq : Int64}  : CtrF l yX6_areFound cX6_areFound 1 (some .boolean) (gR 0 0) E [.ref h0] (wSz E h0 h1 at0 st0 cs ab bl sq) (some (.int (bI at0))) (wSz E h0 h1 at0 st0 cs ab bl sq) := by
  refine ctr_of false (plainFor_of_name (by decide)) (Nat.le_of_ble_eq_true rfl) (fun q => by cases q) (fun Γ h => ?_)
  refine g_lv [some _] rfl ?_
  refine g_aload_n h dX6_areFound_0 rfl ?_
  refine g_get h flX6_19 dX6_areFound_1 0 rfl rfl ?_
  refine g_ireturn h dX6_areFound_4 rfl (bI_nar _) ⟨Nat.zero_le _, Nat.zero_le _, rfl, ?_, ?_⟩
  · rfl
  · rfl
set_option maxHeartbeats 4000000 in
set_option maxRecDepth 100000 in
theorem kX6_areStale {l : Launch} {E : gE} {h0 h1 cs : Nat} {at0 st0 : Bool} {ab : Nat → Int64} {bl sq : Int64}  : CtrF l yX6_areStale cX6_areStale 1 (some .boolean) (gR 0 0) E [.ref h0] (wSz E h0 h1 at0 st0 cs ab bl sq) (some (.int (bI st0))) (wSz E h0 h1 at0 st0 cs ab bl sq) := by
  refine ctr_of false (plainFor_of_name (by decide)) (Nat.le_of_ble_eq_true rfl) (fun q => by cases q) (fun Γ h => ?_)
  refine g_lv [some _] rfl ?_
  refine g_aload_n h dX6_areStale_0 rfl ?_
  refine g_get h flX6_23 dX6_areStale_1 0 rfl rfl ?_
  refine g_ireturn h dX6_areStale_4 rfl (bI_nar _) ⟨Nat.zero_le _, Nat.zero_le _, rfl, ?_, ?_⟩
  · rfl
  · rfl
set_option maxHeartbeats 4000000 in
set_option maxRecDepth 100000 in
theorem kX6_causeSet {l : Launch} {E : gE} {h0 h1 cs : Nat} {at0 st0 : Bool} {ab : Nat → Int64} {bl sq : Int64}  : CtrF l yX6_causeSet cX6_causeSet 1 (some .int) (gR 0 0) E [.ref h0] (wSz E h0 h1 at0 st0 cs ab bl sq) (some (.int (nI cs))) (wSz E h0 h1 at0 st0 cs ab bl sq) := by
  refine ctr_of false (plainFor_of_name (by decide)) (Nat.le_of_ble_eq_true rfl) (fun q => by cases q) (fun Γ h => ?_)
  refine g_lv [some _] rfl ?_
  refine g_aload_n h dX6_causeSet_0 rfl ?_
  refine g_get h flX6_26 dX6_causeSet_1 0 rfl rfl ?_
  refine g_ireturn h dX6_causeSet_4 rfl rfl ⟨Nat.zero_le _, Nat.zero_le _, rfl, ?_, ?_⟩
  · rfl
  · rfl
set_option maxHeartbeats 4000000 in
set_option maxRecDepth 100000 in
theorem kX6_below {l : Launch} {E : gE} {h0 h1 cs : Nat} {at0 st0 : Bool} {ab : Nat → Int64} {bl sq : Int64}  : CtrF l yX6_below cX6_below 1 (some .long) (gR 0 0) E [.ref h0] (wSz E h0 h1 at0 st0 cs ab bl sq) (some (.long bl)) (wSz E h0 h1 at0 st0 cs ab bl sq) := by
  refine ctr_of false (plainFor_of_name (by decide)) (Nat.le_of_ble_eq_true rfl) (fun q => by cases q) (fun Γ h => ?_)
  refine g_lv [some _] rfl ?_
  refine g_aload_n h dX6_below_0 rfl ?_
  refine g_get h flX6_15 dX6_below_1 0 rfl rfl ?_
  refine g_lreturn h dX6_below_4 rfl ⟨Nat.zero_le _, Nat.zero_le _, rfl, ?_, ?_⟩
  · rfl
  · rfl
set_option maxHeartbeats 4000000 in
set_option maxRecDepth 100000 in
theorem kX6_squares {l : Launch} {E : gE} {h0 h1 cs : Nat} {at0 st0 : Bool} {ab : Nat → Int64} {bl sq : Int64}  : CtrF l yX6_squares cX6_squares 1 (some .long) (gR 0 0) E [.ref h0] (wSz E h0 h1 at0 st0 cs ab bl sq) (some (.long sq)) (wSz E h0 h1 at0 st0 cs ab bl sq) := by
  refine ctr_of false (plainFor_of_name (by decide)) (Nat.le_of_ble_eq_true rfl) (fun q => by cases q) (fun Γ h => ?_)
  refine g_lv [some _] rfl ?_
  refine g_aload_n h dX6_squares_0 rfl ?_
  refine g_get h flX6_38 dX6_squares_1 0 rfl rfl ?_
  refine g_lreturn h dX6_squares_4 rfl ⟨Nat.zero_le _, Nat.zero_le _, rfl, ?_, ?_⟩
  · rfl
  · rfl
set_option maxHeartbeats 4000000 in
set_option maxRecDepth 100000 in
theorem kX6_forget {l : Launch} {E : gE} {h0 h1 cs : Nat} {at0 st0 : Bool} {ab : Nat → Int64} {bl sq : Int64}  : CtrF l yX6_forget cX6_forget 1 none (gR 0 0) E [.ref h0] (wSz E h0 h1 at0 st0 cs ab bl sq) none (wSz E h0 h1 false st0 cs ab bl sq) := by
  refine ctr_of false (plainFor_of_name (by decide)) (Nat.le_of_ble_eq_true rfl) (fun q => by cases q) (fun Γ h => ?_)
  refine g_lv [some _] rfl ?_
  refine g_aload_n h dX6_forget_0 rfl ?_
  refine g_iconst (v := 0) h dX6_forget_1 (by decide) ?_
  refine g_put (ws' := [_, _]) (ty := .boolean) h flX6_19 gftX6 rfl (by decide +kernel) dX6_forget_2 0 rfl rfl rfl (Nat.le_of_ble_eq_true rfl) rfl ?_
  refine g_return h dX6_forget_5 rfl ⟨Nat.zero_le _, Nat.zero_le _, rfl, ?_, ?_⟩
  · rfl
  · rfl
set_option maxHeartbeats 4000000 in
set_option maxRecDepth 100000 in
theorem kX6_growStale {l : Launch} {E : gE} {h0 h1 cs : Nat} {at0 st0 : Bool} {ab : Nat → Int64} {bl sq : Int64}  : CtrF l yX6_growStale cX6_growStale 1 none (gR 0 0) E [.ref h0] (wSz E h0 h1 at0 st0 cs ab bl sq) none (wSz E h0 h1 at0 true cs ab bl sq) := by
  refine ctr_of false (plainFor_of_name (by decide)) (Nat.le_of_ble_eq_true rfl) (fun q => by cases q) (fun Γ h => ?_)
  refine g_lv [some _] rfl ?_
  refine g_aload_n h dX6_growStale_0 rfl ?_
  refine g_iconst (v := 1) h dX6_growStale_1 (by decide) ?_
  refine g_put (ws' := [_, _]) (ty := .boolean) h flX6_23 gftX6 rfl (by decide +kernel) dX6_growStale_2 0 rfl rfl rfl (Nat.le_of_ble_eq_true rfl) rfl ?_
  refine g_return h dX6_growStale_5 rfl ⟨Nat.zero_le _, Nat.zero_le _, rfl, ?_, ?_⟩
  · rfl
  · rfl
set_option maxHeartbeats 4000000 in
set_option maxRecDepth 100000 in
theorem kX6_has {l : Launch} {E : gE} {h0 h1 cs : Nat} {at0 st0 : Bool} {ab : Nat → Int64} {bl sq : Int64} {c : Int32} (hcs : cs < 256) : CtrF l yX6_has cX6_has 2 (some .boolean) (gR 0 0) E [.ref h0, .int c] (wSz E h0 h1 at0 st0 cs ab bl sq) (some (.int (bI (szHas cs c)))) (wSz E h0 h1 at0 st0 cs ab bl sq) := by
  refine ctr_of false (plainFor_of_name (by decide)) (Nat.le_of_ble_eq_true rfl) (fun q => by cases q) (fun Γ h => ?_)
  refine g_lv [some _, some _] rfl ?_
  refine g_iload_n h dX6_has_0 rfl ?_
  refine g_if_lt h dX6_has_1 rfl (fun c1 => ?_) (fun c1 => ?_)
  · refine g_iconst (v := 0) h dX6_has_25 (by decide) ?_
    refine g_ireturn h dX6_has_26 rfl (by first | rfl | exact bI_nar _) ⟨Nat.zero_le _, Nat.zero_le _, rfl, ?_, ?_⟩
    · first | (rw [szHas, if_pos c1]; rfl) | (rw [szHas, if_neg c1, if_pos c7]; rfl) | (rw [szHas_lt hj, c18]; rfl)
    · rfl
  · refine g_iload_n h dX6_has_4 rfl ?_
    refine g_bipush (v := 8) h dX6_has_5 (by decide) ?_
    refine g_ic_ge h dX6_has_7 rfl (fun c7 => ?_) (fun c7 => ?_)
    · refine g_iconst (v := 0) h dX6_has_25 (by decide) ?_
      refine g_ireturn h dX6_has_26 rfl (by first | rfl | exact bI_nar _) ⟨Nat.zero_le _, Nat.zero_le _, rfl, ?_, ?_⟩
      · first | (rw [szHas, if_pos c1]; rfl) | (rw [szHas, if_neg c1, if_pos c7]; rfl) | (rw [szHas_lt hj, c18]; rfl)
      · rfl
    · obtain ⟨j, hj, rfl⟩ := ix8 c1 c7
      refine g_aload_n h dX6_has_10 rfl ?_
      refine g_get h flX6_26 dX6_has_11 0 rfl rfl ?_
      refine g_iload_n h dX6_has_14 rfl ?_
      refine g_ishr h dX6_has_15 ?_
      refine g_iconst (v := 1) h dX6_has_16 (by decide) ?_
      refine g_iand h dX6_has_17 ?_
      refine g_topi (bI (cs.testBit j)) (szbit cs hcs j hj) ?_
      refine g_ifb_eq h dX6_has_18 rfl (fun c18 => ?_) (fun c18 => ?_)
      · refine g_iconst (v := 0) h dX6_has_25 (by decide) ?_
        refine g_ireturn h dX6_has_26 rfl (by first | rfl | exact bI_nar _) ⟨Nat.zero_le _, Nat.zero_le _, rfl, ?_, ?_⟩
        · first | (rw [szHas, if_pos c1]; rfl) | (rw [szHas, if_neg c1, if_pos c7]; rfl) | (rw [szHas_lt hj, c18]; rfl)
        · rfl
      · refine g_iconst (v := 1) h dX6_has_21 (by decide) ?_
        refine g_goto h dX6_has_22 rfl ?_
        refine g_ireturn h dX6_has_26 rfl (by first | rfl | exact bI_nar _) ⟨Nat.zero_le _, Nat.zero_le _, rfl, ?_, ?_⟩
        · first | (rw [szHas, if_pos c1]; rfl) | (rw [szHas, if_neg c1, if_pos c7]; rfl) | (rw [szHas_lt hj, c18]; rfl)
        · rfl
set_option maxHeartbeats 4000000 in
set_option maxRecDepth 100000 in
theorem kX6_placeOf {l : Launch} {E : gE} {h0 h1 cs : Nat} {at0 st0 : Bool} {ab : Nat → Int64} {bl sq : Int64} {c : Int32} (hcs : cs < 256) : CtrF l yX6_placeOf cX6_placeOf 2 (some .int) (gR 1 21) E [.ref h0, .int c] (wSz E h0 h1 at0 st0 cs ab bl sq) (some (.int (nI (szPl cs c)))) (wSz E h0 h1 at0 st0 cs ab bl sq) := by
  refine ctr_of false (plainFor_of_name (by decide)) (Nat.le_of_ble_eq_true rfl) (fun q => by cases q) (fun Γ h => ?_)
  refine g_lv [some _, some _] rfl ?_
  refine g_aload_n h dX6_placeOf_0 rfl ?_
  refine g_iload_n h dX6_placeOf_1 rfl ?_
  refine g_cVr h (kX6_has hcs) mX6_has lkX6_40 dX6_placeOf_2 rfl rfl ⟨Nat.zero_le _, Nat.zero_le _⟩ ⟨by decide, by decide⟩ (Nat.le_of_ble_eq_true rfl) [0, 1] rfl rfl 0 rfl rfl ?_
  refine g_ifb_eq h dX6_placeOf_5 rfl (fun c5 => ?_) (fun c5 => ?_)
  · refine g_iconst (v := 0) h dX6_placeOf_24 (by decide) ?_
    refine g_ireturn h dX6_placeOf_25 rfl rfl ⟨Nat.zero_le _, Nat.zero_le _, rfl, ?_, ?_⟩
    · first | (rw [szPl, c5, nI_clamp (by omega)]; rfl) | (rw [szPl, c5]; rfl)
    · rfl
  · obtain ⟨j, hj, rfl⟩ := szHas_ex c5
    refine g_aload_n h dX6_placeOf_8 rfl ?_
    refine g_get h flX6_26 dX6_placeOf_9 0 rfl rfl ?_
    refine g_iconst (v := 1) h dX6_placeOf_12 (by decide) ?_
    refine g_iload_n h dX6_placeOf_13 rfl ?_
    refine g_ishl h dX6_placeOf_14 ?_
    refine g_iconst (v := 1) h dX6_placeOf_15 (by decide) ?_
    refine g_isub h dX6_placeOf_16 ?_
    refine g_iand h dX6_placeOf_17 ?_
    refine g_topi (nI (cs % 2 ^ j)) (szmask cs hcs j hj) ?_
    refine g_cSr h (kJ6_bitCount_0f7a4 (Nat.lt_of_le_of_lt (Nat.mod_le _ _) hcs)) mJ6_bitCount_0f7a4 lkX6_52 dX6_placeOf_18 rfl rfl ⟨Nat.zero_le _, Nat.zero_le _⟩ ⟨by decide, by decide⟩ (Nat.le_of_ble_eq_true rfl) [] rfl rfl ?_
    refine g_goto h dX6_placeOf_21 rfl ?_
    refine g_ireturn h dX6_placeOf_25 rfl rfl ⟨Nat.zero_le _, Nat.zero_le _, rfl, ?_, ?_⟩
    · first | (rw [szPl, c5, nI_clamp (by omega)]; rfl) | (rw [szPl, c5]; rfl)
    · rfl
set_option maxHeartbeats 4000000 in
set_option maxRecDepth 100000 in
theorem kX6_above {l : Launch} {E : gE} {h0 h1 cs : Nat} {at0 st0 : Bool} {ab : Nat → Int64} {bl sq : Int64} {c : Int32} (hcs : cs < 256) : CtrF l yX6_above cX6_above 2 (some .long) (gR 1 21) E [.ref h0, .int c] (wSz E h0 h1 at0 st0 cs ab bl sq) (some (.long (szAb cs ab c))) (wSz E h0 h1 at0 st0 cs ab bl sq) := by
  refine ctr_of false (plainFor_of_name (by decide)) (Nat.le_of_ble_eq_true rfl) (fun q => by cases q) (fun Γ h => ?_)
  refine g_lv [some _, some _] rfl ?_
  refine g_aload_n h dX6_above_0 rfl ?_
  refine g_iload_n h dX6_above_1 rfl ?_
  refine g_cVr h (kX6_has hcs) mX6_has lkX6_40 dX6_above_2 rfl rfl ⟨Nat.zero_le _, Nat.zero_le _⟩ ⟨by decide, by decide⟩ (Nat.le_of_ble_eq_true rfl) [0, 1] rfl rfl 0 rfl rfl ?_
  refine g_ifb_eq h dX6_above_5 rfl (fun c5 => ?_) (fun c5 => ?_)
  · refine g_lconst (v := 0) h dX6_above_17 (by decide) ?_
    refine g_lreturn h dX6_above_18 rfl ⟨Nat.zero_le _, Nat.zero_le _, rfl, ?_, ?_⟩
    · first | (rw [szAb_lt hj c5]; done) | (rw [szAb, c5]; rfl)
    · rfl
  · obtain ⟨j, hj, rfl⟩ := szHas_ex c5
    refine g_aload_n h dX6_above_8 rfl ?_
    refine g_get h flX6_9 dX6_above_9 0 rfl rfl ?_
    refine g_iload_n h dX6_above_12 rfl ?_
    refine g_lald h dX6_above_13 1 _ rfl rfl (by omega) (by omega) ?_
    refine g_goto h dX6_above_14 rfl ?_
    refine g_lreturn h dX6_above_18 rfl ⟨Nat.zero_le _, Nat.zero_le _, rfl, ?_, ?_⟩
    · first | (rw [szAb_lt hj c5]; done) | (rw [szAb, c5]; rfl)
    · rfl
set_option maxHeartbeats 4000000 in
set_option maxRecDepth 100000 in
theorem kX6_aboveIn {l : Launch} {E : gE} {h0 h1 cs : Nat} {at0 st0 : Bool} {ab : Nat → Int64} {bl sq : Int64} {g0 g1 g2 g3 g4 n : Nat} {kd fa fb : Nat → Int32} {s : Int32} (hcs : cs < 256) (hn : n ≤ 8) : CtrF l yX6_aboveIn cX6_aboveIn 6 (some .long) (gR 3 69) E [.ref h0, .int s, .ref g0] (wSz E h0 h1 at0 st0 cs ab bl sq ++ wCa E g0 g1 g2 g3 g4 kd n fa fb) (some (.long (abIn cs ab kd n fa fb s 8))) (wSz E h0 h1 at0 st0 cs ab bl sq ++ wCa E g0 g1 g2 g3 g4 kd n fa fb) := by
  refine ctr_of false (plainFor_of_name (by decide)) (Nat.le_of_ble_eq_true rfl) (fun q => by cases q) (fun Γ h => ?_)
  refine g_lv [some _, some _, some _, _, _, _] rfl ?_
  refine g_lconst (v := 0) h dX6_aboveIn_0 (by decide) ?_
  refine g_lstore_n (lv' := [some _, some _, some _, some _, none, _]) h dX6_aboveIn_1 (by decide) rfl ?_
  refine g_iconst (v := 0) h dX6_aboveIn_2 (by decide) ?_
  refine g_istore (lv' := [some _, some _, some _, some _, none, some _]) h dX6_aboveIn_3 (by decide) rfl ?_
  have loop5 : ∀ (j : Nat) (k : Nat) (_ : k ≤ 8), 8 - k < j → Γ 0 0 5 [some (.ref h0), some (.int s), some (.ref g0), some (.long (abIn cs ab kd n fa fb s k)), none, some (.int (nI k))] [] (wSz E h0 h1 at0 st0 cs ab bl sq ++ wCa E g0 g1 g2 g3 g4 kd n fa fb) := by
    intro j
    induction j with
    | zero => intro k hk hj; exact absurd hj (Nat.not_lt_zero _)
    | succ j ih =>
      intro k hk hj
      refine g_iload h dX6_aboveIn_5 rfl ?_
      refine g_bipush (v := 8) h dX6_aboveIn_7 (by decide) ?_
      refine g_ic_ge h dX6_aboveIn_9 rfl (fun c9 => ?_) (fun c9 => ?_)
      · replace c9 := (nI_leI (a := 8) (by omega) (by omega)).mp c9
        refine g_lload_n h dX6_aboveIn_46 rfl ?_
        refine g_lreturn h dX6_aboveIn_47 rfl ⟨Nat.zero_le _, Nat.zero_le _, rfl, ?_, ?_⟩
        · rw [show k = 8 by omega]
        · rfl
      · replace c9 := (not_congr (nI_leI (a := 8) (by omega) (by omega))).mp c9
        refine g_aload_n h dX6_aboveIn_12 rfl ?_
        refine g_iload h dX6_aboveIn_13 rfl ?_
        refine g_cVr h (kX6_has hcs) mX6_has lkX6_40 dX6_aboveIn_15 rfl rfl ⟨Nat.zero_le _, Nat.zero_le _⟩ ⟨by decide, by decide⟩ (Nat.le_of_ble_eq_true rfl) [0, 1] rfl rfl 0 rfl rfl ?_
        refine g_ifb_eq h dX6_aboveIn_18 rfl (fun c18 => ?_) (fun c18 => ?_)
        · refine g_iinc (lv' := [some _, some _, some _, some _, none, some _]) h dX6_aboveIn_40 rfl (nI_inc1 _) (by decide) rfl ?_
          refine g_goto h dX6_aboveIn_43 rfl ?_
          have e : abIn cs ab kd n fa fb s (k + 1) = if szHas cs (nI k) then abIn cs ab kd n fa fb s k + ab k * (shw kd n fa fb (nI k) s).toInt64 else abIn cs ab kd n fa fb s k := rfl
          first
          | (rw [c18, if_pos rfl] at e; exact g_as rfl (show _ = [some (.ref h0), some (.int s), some (.ref g0), some (.long (abIn cs ab kd n fa fb s (k + 1))), none, some (.int (nI (k + 1)))] by rw [e]) rfl rfl (ih (k + 1) (by omega) (by omega)))
          | (rw [c18, if_neg (by decide)] at e; exact g_as rfl (show _ = [some (.ref h0), some (.int s), some (.ref g0), some (.long (abIn cs ab kd n fa fb s (k + 1))), none, some (.int (nI (k + 1)))] by rw [e]) rfl rfl (ih (k + 1) (by omega) (by omega)))
        · refine g_lload_n h dX6_aboveIn_21 rfl ?_
          refine g_aload_n h dX6_aboveIn_22 rfl ?_
          refine g_get h flX6_9 dX6_aboveIn_23 0 rfl rfl ?_
          refine g_iload h dX6_aboveIn_26 rfl ?_
          refine g_lald h dX6_aboveIn_28 1 _ rfl rfl (by omega) (by omega) ?_
          refine g_aload_n h dX6_aboveIn_29 rfl ?_
          refine g_iload h dX6_aboveIn_30 rfl ?_
          refine g_iload_n h dX6_aboveIn_32 rfl ?_
          refine g_cVr h (kX0_shownIn hn) mX0_shownIn lkX6_57 dX6_aboveIn_33 rfl rfl ⟨Nat.zero_le _, Nat.zero_le _⟩ ⟨by decide, by decide⟩ (Nat.le_of_ble_eq_true rfl) [2, 3, 4, 5, 6] rfl rfl 2 rfl rfl ?_
          refine g_i2l h dX6_aboveIn_36 ?_
          refine g_lmul h dX6_aboveIn_37 ?_
          refine g_ladd h dX6_aboveIn_38 ?_
          refine g_lstore_n (lv' := [some _, some _, some _, some _, none, some _]) h dX6_aboveIn_39 (by decide) rfl ?_
          refine g_iinc (lv' := [some _, some _, some _, some _, none, some _]) h dX6_aboveIn_40 rfl (nI_inc1 _) (by decide) rfl ?_
          refine g_goto h dX6_aboveIn_43 rfl ?_
          have e : abIn cs ab kd n fa fb s (k + 1) = if szHas cs (nI k) then abIn cs ab kd n fa fb s k + ab k * (shw kd n fa fb (nI k) s).toInt64 else abIn cs ab kd n fa fb s k := rfl
          first
          | (rw [c18, if_pos rfl] at e; exact g_as rfl (show _ = [some (.ref h0), some (.int s), some (.ref g0), some (.long (abIn cs ab kd n fa fb s (k + 1))), none, some (.int (nI (k + 1)))] by rw [e]) rfl rfl (ih (k + 1) (by omega) (by omega)))
          | (rw [c18, if_neg (by decide)] at e; exact g_as rfl (show _ = [some (.ref h0), some (.int s), some (.ref g0), some (.long (abIn cs ab kd n fa fb s (k + 1))), none, some (.int (nI (k + 1)))] by rw [e]) rfl rfl (ih (k + 1) (by omega) (by omega)))
  exact loop5 _ 0 (Nat.zero_le _) (Nat.lt_succ_self _)
set_option maxHeartbeats 4000000 in
set_option maxRecDepth 100000 in
theorem kX6_stepIn {l : Launch} {E : gE} {h0 h1 cs : Nat} {at0 st0 : Bool} {ab : Nat → Int64} {bl sq : Int64} {a0 a1 a2 a3 a4 a5 a6 a7 a8 a9 a10 a11 a12 a13 a14 a15 : Nat} {kd ca cb rs rr mc mb fr to : Nat → Int32} {nc nr nm : Nat} {th : Nat → Bool} {s m : Int32} (hcs : cs < 256) (hn : nc ≤ 8) (hm : nm ≤ 8) : CtrF l yX6_stepIn cX6_stepIn 5 (some .long) (gR 3 69) E [.ref h0, .int s, .int m, .ref a0] (wSz E h0 h1 at0 st0 cs ab bl sq ++ wSt E a0 a1 a2 a3 a4 a5 a6 a7 a8 a9 a10 a11 a12 a13 a14 a15 kd nc ca cb nr rs rr nm mc mb th fr to) (some (.long (stIn cs bl kd nc ca cb nm mc mb s m))) (wSz E h0 h1 at0 st0 cs ab bl sq ++ wSt E a0 a1 a2 a3 a4 a5 a6 a7 a8 a9 a10 a11 a12 a13 a14 a15 kd nc ca cb nr rs rr nm mc mb th fr to) := by
  refine ctr_of false (plainFor_of_name (by decide)) (Nat.le_of_ble_eq_true rfl) (fun q => by cases q) (fun Γ h => ?_)
  refine g_lv [some _, some _, some _, some _, _] rfl ?_
  refine g_aload_n h dX6_stepIn_0 rfl ?_
  refine g_get h flX6_63 dX6_stepIn_1 2 rfl rfl ?_
  refine g_iload_n h dX6_stepIn_4 rfl ?_
  refine g_cVr h (kX3_first hm (by decide)) mX3_first lkX6_69 dX6_stepIn_5 rfl rfl ⟨Nat.zero_le _, Nat.zero_le _⟩ ⟨by decide, by decide⟩ (Nat.le_of_ble_eq_true rfl) [11, 12, 13] rfl rfl 11 rfl rfl ?_
  refine g_istore (lv' := [some _, some _, some _, some _, some _]) h dX6_stepIn_8 (by decide) rfl ?_
  refine g_aload_n h dX6_stepIn_10 rfl ?_
  refine g_iload h dX6_stepIn_11 rfl ?_
  refine g_cVr h (kX6_has hcs) mX6_has lkX6_40 dX6_stepIn_13 rfl rfl ⟨Nat.zero_le _, Nat.zero_le _⟩ ⟨by decide, by decide⟩ (Nat.le_of_ble_eq_true rfl) [0, 1] rfl rfl 0 rfl rfl ?_
  refine g_ifb_eq h dX6_stepIn_16 rfl (fun c16 => ?_) (fun c16 => ?_)
  · refine g_lconst (v := 0) h dX6_stepIn_48 (by decide) ?_
    refine g_lreturn h dX6_stepIn_49 rfl ⟨Nat.zero_le _, Nat.zero_le _, rfl, ?_, ?_⟩
    · rw [stIn, c16]; rfl
    · rfl
  · refine g_aload_n h dX6_stepIn_19 rfl ?_
    refine g_get h flX6_15 dX6_stepIn_20 0 rfl rfl ?_
    refine g_aload_n h dX6_stepIn_23 rfl ?_
    refine g_get h flX6_63 dX6_stepIn_24 2 rfl rfl ?_
    refine g_iload_n h dX6_stepIn_27 rfl ?_
    refine g_cVr h (kX3_second hm (by decide)) mX3_second lkX6_74 dX6_stepIn_28 rfl rfl ⟨Nat.zero_le _, Nat.zero_le _⟩ ⟨by decide, by decide⟩ (Nat.le_of_ble_eq_true rfl) [11, 12, 13] rfl rfl 11 rfl rfl ?_
    refine g_i2l h dX6_stepIn_31 ?_
    refine g_lmul h dX6_stepIn_32 ?_
    refine g_aload_n h dX6_stepIn_33 rfl ?_
    refine g_get h flX6_77 dX6_stepIn_34 2 rfl rfl ?_
    refine g_iload h dX6_stepIn_37 rfl ?_
    refine g_iload_n h dX6_stepIn_39 rfl ?_
    refine g_cVr h (kX0_shownIn hn) mX0_shownIn lkX6_57 dX6_stepIn_40 rfl rfl ⟨Nat.zero_le _, Nat.zero_le _⟩ ⟨by decide, by decide⟩ (Nat.le_of_ble_eq_true rfl) [3, 4, 5, 6, 7] rfl rfl 3 rfl rfl ?_
    refine g_i2l h dX6_stepIn_43 ?_
    refine g_lmul h dX6_stepIn_44 ?_
    refine g_goto h dX6_stepIn_45 rfl ?_
    refine g_lreturn h dX6_stepIn_49 rfl ⟨Nat.zero_le _, Nat.zero_le _, rfl, ?_, ?_⟩
    · rw [stIn, c16]; rfl
    · rfl
set_option maxHeartbeats 4000000 in
set_option maxRecDepth 100000 in
theorem kX6_isSize {l : Launch} {E : gE} {h0 h1 cs : Nat} {at0 st0 : Bool} {ab : Nat → Int64} {bl sq : Int64} {c ta tb : Int32} (hcs : cs < 256) : CtrF l yX6_isSize cX6_isSize 8 (some .boolean) (gR 2 61) E [.ref h0, .int c, .int ta, .int tb] (wSz E h0 h1 at0 st0 cs ab bl sq) (some (.int (bI (isSz cs ab bl c ta tb)))) (wSz E h0 h1 at0 st0 cs ab bl sq) := by
  refine ctr_of false (plainFor_of_name (by decide)) (Nat.le_of_ble_eq_true rfl) (fun q => by cases q) (fun Γ h => ?_)
  refine g_lv [some _, some _, some _, some _, _, _, _, _] rfl ?_
  refine g_iload_n h dX6_isSize_0 rfl ?_
  refine g_i2l h dX6_isSize_1 ?_
  refine g_lstore (lv' := [some _, some _, some _, some _, some _, none, _, _]) h dX6_isSize_2 (by decide) rfl ?_
  refine g_iload_n h dX6_isSize_4 rfl ?_
  refine g_i2l h dX6_isSize_5 ?_
  refine g_lstore (lv' := [some _, some _, some _, some _, some _, none, some _, none]) h dX6_isSize_6 (by decide) rfl ?_
  refine g_lload h dX6_isSize_8 rfl ?_
  refine g_lconst (v := 0) h dX6_isSize_10 (by decide) ?_
  refine g_lcmp h dX6_isSize_11 ?_
  refine g_lif_ge h dX6_isSize_12 rfl (fun c12 => ?_) (fun c12 => ?_)
  · refine g_lload h dX6_isSize_25 rfl ?_
    refine g_lconst (v := 0) h dX6_isSize_27 (by decide) ?_
    refine g_lcmp h dX6_isSize_28 ?_
    refine g_lif_eq h dX6_isSize_29 rfl (fun c29 => ?_) (fun c29 => ?_)
    · refine g_iconst (v := 0) h dX6_isSize_64 (by decide) ?_
      refine g_ireturn h dX6_isSize_65 rfl (by first | rfl | exact bI_nar _) ⟨Nat.zero_le _, Nat.zero_le _, rfl, ?_, ?_⟩
      · first | (unfold isSz; rw [if_pos c12, if_pos c29]; rfl) | (unfold isSz; rw [if_neg c12, if_pos c29]; rfl) | (unfold isSz; rw [if_pos c12, if_neg c29, c37]; rfl) | (unfold isSz; rw [if_neg c12, if_neg c29, c37]; rfl) | (unfold isSz; rw [if_pos c12, if_neg c29, c37, if_pos rfl, if_pos c12, nI_clamp (by omega), decide_eq_true c57]; rfl) | (unfold isSz; rw [if_pos c12, if_neg c29, c37, if_pos rfl, if_pos c12, nI_clamp (by omega), decide_eq_false c57]; rfl) | (unfold isSz; rw [if_neg c12, if_neg c29, c37, if_pos rfl, if_neg c12, nI_clamp (by omega), decide_eq_true c57]; rfl) | (unfold isSz; rw [if_neg c12, if_neg c29, c37, if_pos rfl, if_neg c12, nI_clamp (by omega), decide_eq_false c57]; rfl)
      · rfl
    · refine g_aload_n h dX6_isSize_32 rfl ?_
      refine g_iload_n h dX6_isSize_33 rfl ?_
      refine g_cVr h (kX6_has hcs) mX6_has lkX6_40 dX6_isSize_34 rfl rfl ⟨Nat.zero_le _, Nat.zero_le _⟩ ⟨by decide, by decide⟩ (Nat.le_of_ble_eq_true rfl) [0, 1] rfl rfl 0 rfl rfl ?_
      refine g_ifb_eq h dX6_isSize_37 rfl (fun c37 => ?_) (fun c37 => ?_)
      · refine g_iconst (v := 0) h dX6_isSize_64 (by decide) ?_
        refine g_ireturn h dX6_isSize_65 rfl (by first | rfl | exact bI_nar _) ⟨Nat.zero_le _, Nat.zero_le _, rfl, ?_, ?_⟩
        · first | (unfold isSz; rw [if_pos c12, if_pos c29]; rfl) | (unfold isSz; rw [if_neg c12, if_pos c29]; rfl) | (unfold isSz; rw [if_pos c12, if_neg c29, c37]; rfl) | (unfold isSz; rw [if_neg c12, if_neg c29, c37]; rfl) | (unfold isSz; rw [if_pos c12, if_neg c29, c37, if_pos rfl, if_pos c12, nI_clamp (by omega), decide_eq_true c57]; rfl) | (unfold isSz; rw [if_pos c12, if_neg c29, c37, if_pos rfl, if_pos c12, nI_clamp (by omega), decide_eq_false c57]; rfl) | (unfold isSz; rw [if_neg c12, if_neg c29, c37, if_pos rfl, if_neg c12, nI_clamp (by omega), decide_eq_true c57]; rfl) | (unfold isSz; rw [if_neg c12, if_neg c29, c37, if_pos rfl, if_neg c12, nI_clamp (by omega), decide_eq_false c57]; rfl)
        · rfl
      · obtain ⟨j, hj, rfl⟩ := szHas_ex c37
        refine g_lload h dX6_isSize_40 rfl ?_
        refine g_lload h dX6_isSize_42 rfl ?_
        refine g_aload_n h dX6_isSize_44 rfl ?_
        refine g_get h flX6_9 dX6_isSize_45 0 rfl rfl ?_
        refine g_iload_n h dX6_isSize_48 rfl ?_
        refine g_lald h dX6_isSize_49 1 _ rfl rfl (by omega) (by omega) ?_
        refine g_aload_n h dX6_isSize_50 rfl ?_
        refine g_get h flX6_15 dX6_isSize_51 0 rfl rfl ?_
        refine g_cSr h kX2_order mX2_order lkX6_81 dX6_isSize_54 rfl rfl ⟨Nat.zero_le _, Nat.zero_le _⟩ ⟨by decide, by decide⟩ (Nat.le_of_ble_eq_true rfl) [] rfl rfl ?_
        refine g_if_ne h dX6_isSize_57 rfl (fun c57 => ?_) (fun c57 => ?_)
        · refine g_iconst (v := 0) h dX6_isSize_64 (by decide) ?_
          refine g_ireturn h dX6_isSize_65 rfl (by first | rfl | exact bI_nar _) ⟨Nat.zero_le _, Nat.zero_le _, rfl, ?_, ?_⟩
          · first | (unfold isSz; rw [if_pos c12, if_pos c29]; rfl) | (unfold isSz; rw [if_neg c12, if_pos c29]; rfl) | (unfold isSz; rw [if_pos c12, if_neg c29, c37]; rfl) | (unfold isSz; rw [if_neg c12, if_neg c29, c37]; rfl) | (unfold isSz; rw [if_pos c12, if_neg c29, c37, if_pos rfl, if_pos c12, nI_clamp (by omega), decide_eq_true c57]; rfl) | (unfold isSz; rw [if_pos c12, if_neg c29, c37, if_pos rfl, if_pos c12, nI_clamp (by omega), decide_eq_false c57]; rfl) | (unfold isSz; rw [if_neg c12, if_neg c29, c37, if_pos rfl, if_neg c12, nI_clamp (by omega), decide_eq_true c57]; rfl) | (unfold isSz; rw [if_neg c12, if_neg c29, c37, if_pos rfl, if_neg c12, nI_clamp (by omega), decide_eq_false c57]; rfl)
          · rfl
        · refine g_iconst (v := 1) h dX6_isSize_60 (by decide) ?_
          refine g_goto h dX6_isSize_61 rfl ?_
          refine g_ireturn h dX6_isSize_65 rfl (by first | rfl | exact bI_nar _) ⟨Nat.zero_le _, Nat.zero_le _, rfl, ?_, ?_⟩
          · first | (unfold isSz; rw [if_pos c12, if_pos c29]; rfl) | (unfold isSz; rw [if_neg c12, if_pos c29]; rfl) | (unfold isSz; rw [if_pos c12, if_neg c29, c37]; rfl) | (unfold isSz; rw [if_neg c12, if_neg c29, c37]; rfl) | (unfold isSz; rw [if_pos c12, if_neg c29, c37, if_pos rfl, if_pos c12, nI_clamp (by omega), decide_eq_true c57]; rfl) | (unfold isSz; rw [if_pos c12, if_neg c29, c37, if_pos rfl, if_pos c12, nI_clamp (by omega), decide_eq_false c57]; rfl) | (unfold isSz; rw [if_neg c12, if_neg c29, c37, if_pos rfl, if_neg c12, nI_clamp (by omega), decide_eq_true c57]; rfl) | (unfold isSz; rw [if_neg c12, if_neg c29, c37, if_pos rfl, if_neg c12, nI_clamp (by omega), decide_eq_false c57]; rfl)
          · rfl
  · refine g_lload h dX6_isSize_15 rfl ?_
    refine g_lneg h dX6_isSize_17 ?_
    refine g_lstore (lv' := [some _, some _, some _, some _, some _, none, some _, none]) h dX6_isSize_18 (by decide) rfl ?_
    refine g_lload h dX6_isSize_20 rfl ?_
    refine g_lneg h dX6_isSize_22 ?_
    refine g_lstore (lv' := [some _, some _, some _, some _, some _, none, some _, none]) h dX6_isSize_23 (by decide) rfl ?_
    refine g_lload h dX6_isSize_25 rfl ?_
    refine g_lconst (v := 0) h dX6_isSize_27 (by decide) ?_
    refine g_lcmp h dX6_isSize_28 ?_
    refine g_lif_eq h dX6_isSize_29 rfl (fun c29 => ?_) (fun c29 => ?_)
    · refine g_iconst (v := 0) h dX6_isSize_64 (by decide) ?_
      refine g_ireturn h dX6_isSize_65 rfl (by first | rfl | exact bI_nar _) ⟨Nat.zero_le _, Nat.zero_le _, rfl, ?_, ?_⟩
      · first | (unfold isSz; rw [if_pos c12, if_pos c29]; rfl) | (unfold isSz; rw [if_neg c12, if_pos c29]; rfl) | (unfold isSz; rw [if_pos c12, if_neg c29, c37]; rfl) | (unfold isSz; rw [if_neg c12, if_neg c29, c37]; rfl) | (unfold isSz; rw [if_pos c12, if_neg c29, c37, if_pos rfl, if_pos c12, nI_clamp (by omega), decide_eq_true c57]; rfl) | (unfold isSz; rw [if_pos c12, if_neg c29, c37, if_pos rfl, if_pos c12, nI_clamp (by omega), decide_eq_false c57]; rfl) | (unfold isSz; rw [if_neg c12, if_neg c29, c37, if_pos rfl, if_neg c12, nI_clamp (by omega), decide_eq_true c57]; rfl) | (unfold isSz; rw [if_neg c12, if_neg c29, c37, if_pos rfl, if_neg c12, nI_clamp (by omega), decide_eq_false c57]; rfl)
      · rfl
    · refine g_aload_n h dX6_isSize_32 rfl ?_
      refine g_iload_n h dX6_isSize_33 rfl ?_
      refine g_cVr h (kX6_has hcs) mX6_has lkX6_40 dX6_isSize_34 rfl rfl ⟨Nat.zero_le _, Nat.zero_le _⟩ ⟨by decide, by decide⟩ (Nat.le_of_ble_eq_true rfl) [0, 1] rfl rfl 0 rfl rfl ?_
      refine g_ifb_eq h dX6_isSize_37 rfl (fun c37 => ?_) (fun c37 => ?_)
      · refine g_iconst (v := 0) h dX6_isSize_64 (by decide) ?_
        refine g_ireturn h dX6_isSize_65 rfl (by first | rfl | exact bI_nar _) ⟨Nat.zero_le _, Nat.zero_le _, rfl, ?_, ?_⟩
        · first | (unfold isSz; rw [if_pos c12, if_pos c29]; rfl) | (unfold isSz; rw [if_neg c12, if_pos c29]; rfl) | (unfold isSz; rw [if_pos c12, if_neg c29, c37]; rfl) | (unfold isSz; rw [if_neg c12, if_neg c29, c37]; rfl) | (unfold isSz; rw [if_pos c12, if_neg c29, c37, if_pos rfl, if_pos c12, nI_clamp (by omega), decide_eq_true c57]; rfl) | (unfold isSz; rw [if_pos c12, if_neg c29, c37, if_pos rfl, if_pos c12, nI_clamp (by omega), decide_eq_false c57]; rfl) | (unfold isSz; rw [if_neg c12, if_neg c29, c37, if_pos rfl, if_neg c12, nI_clamp (by omega), decide_eq_true c57]; rfl) | (unfold isSz; rw [if_neg c12, if_neg c29, c37, if_pos rfl, if_neg c12, nI_clamp (by omega), decide_eq_false c57]; rfl)
        · rfl
      · obtain ⟨j, hj, rfl⟩ := szHas_ex c37
        refine g_lload h dX6_isSize_40 rfl ?_
        refine g_lload h dX6_isSize_42 rfl ?_
        refine g_aload_n h dX6_isSize_44 rfl ?_
        refine g_get h flX6_9 dX6_isSize_45 0 rfl rfl ?_
        refine g_iload_n h dX6_isSize_48 rfl ?_
        refine g_lald h dX6_isSize_49 1 _ rfl rfl (by omega) (by omega) ?_
        refine g_aload_n h dX6_isSize_50 rfl ?_
        refine g_get h flX6_15 dX6_isSize_51 0 rfl rfl ?_
        refine g_cSr h kX2_order mX2_order lkX6_81 dX6_isSize_54 rfl rfl ⟨Nat.zero_le _, Nat.zero_le _⟩ ⟨by decide, by decide⟩ (Nat.le_of_ble_eq_true rfl) [] rfl rfl ?_
        refine g_if_ne h dX6_isSize_57 rfl (fun c57 => ?_) (fun c57 => ?_)
        · refine g_iconst (v := 0) h dX6_isSize_64 (by decide) ?_
          refine g_ireturn h dX6_isSize_65 rfl (by first | rfl | exact bI_nar _) ⟨Nat.zero_le _, Nat.zero_le _, rfl, ?_, ?_⟩
          · first | (unfold isSz; rw [if_pos c12, if_pos c29]; rfl) | (unfold isSz; rw [if_neg c12, if_pos c29]; rfl) | (unfold isSz; rw [if_pos c12, if_neg c29, c37]; rfl) | (unfold isSz; rw [if_neg c12, if_neg c29, c37]; rfl) | (unfold isSz; rw [if_pos c12, if_neg c29, c37, if_pos rfl, if_pos c12, nI_clamp (by omega), decide_eq_true c57]; rfl) | (unfold isSz; rw [if_pos c12, if_neg c29, c37, if_pos rfl, if_pos c12, nI_clamp (by omega), decide_eq_false c57]; rfl) | (unfold isSz; rw [if_neg c12, if_neg c29, c37, if_pos rfl, if_neg c12, nI_clamp (by omega), decide_eq_true c57]; rfl) | (unfold isSz; rw [if_neg c12, if_neg c29, c37, if_pos rfl, if_neg c12, nI_clamp (by omega), decide_eq_false c57]; rfl)
          · rfl
        · refine g_iconst (v := 1) h dX6_isSize_60 (by decide) ?_
          refine g_goto h dX6_isSize_61 rfl ?_
          refine g_ireturn h dX6_isSize_65 rfl (by first | rfl | exact bI_nar _) ⟨Nat.zero_le _, Nat.zero_le _, rfl, ?_, ?_⟩
          · first | (unfold isSz; rw [if_pos c12, if_pos c29]; rfl) | (unfold isSz; rw [if_neg c12, if_pos c29]; rfl) | (unfold isSz; rw [if_pos c12, if_neg c29, c37]; rfl) | (unfold isSz; rw [if_neg c12, if_neg c29, c37]; rfl) | (unfold isSz; rw [if_pos c12, if_neg c29, c37, if_pos rfl, if_pos c12, nI_clamp (by omega), decide_eq_true c57]; rfl) | (unfold isSz; rw [if_pos c12, if_neg c29, c37, if_pos rfl, if_pos c12, nI_clamp (by omega), decide_eq_false c57]; rfl) | (unfold isSz; rw [if_neg c12, if_neg c29, c37, if_pos rfl, if_neg c12, nI_clamp (by omega), decide_eq_true c57]; rfl) | (unfold isSz; rw [if_neg c12, if_neg c29, c37, if_pos rfl, if_neg c12, nI_clamp (by omega), decide_eq_false c57]; rfl)
          · rfl
