set_option maxHeartbeats 4000000 in
set_option maxRecDepth 100000 in
theorem kX5_isSheet {l : Launch} {E : gE} {s : Int32}  : CtrF l yX5_isSheet cX5_isSheet 1 (some .boolean) (gR 1 22) E [.int s] ([]) (some (.int (bI (wit s 0 2)))) ([]) := by
  refine ctr_of false (plainFor_of_name (by decide)) (Nat.le_of_ble_eq_true rfl) (fun q => by cases q) (fun Γ h => ?_)
  refine g_lv [some _] rfl ?_
  refine g_iload_n h dX5_isSheet_0 rfl ?_
  refine g_iconst (v := 0) h dX5_isSheet_1 (by decide) ?_
  refine g_iconst (v := 2) h dX5_isSheet_2 (by decide) ?_
  refine g_cSr h kX2_within mX2_within lkX5_26 dX5_isSheet_3 rfl rfl ⟨Nat.zero_le _, Nat.zero_le _⟩ ⟨by decide, by decide⟩ (Nat.le_of_ble_eq_true rfl) [] rfl rfl ?_
  refine g_ireturn h dX5_isSheet_6 rfl (bI_nar _) ⟨Nat.zero_le _, Nat.zero_le _, rfl, ?_, ?_⟩
  · rfl
  · rfl
set_option maxHeartbeats 4000000 in
set_option maxRecDepth 100000 in
theorem kX5_placesOf {l : Launch} {E : gE} {h0 h1 h2 h3 h4 h5 : Nat} {len : Nat → Int32} {rw0 : Nat → Nat → Int32} {s : Int32}  : CtrF l yX5_placesOf cX5_placesOf 2 (some .int) (gR 2 42) E [.ref h0, .int s] (wSh E h0 h1 h2 h3 h4 h5 len rw0) (some (.int (plc len s))) (wSh E h0 h1 h2 h3 h4 h5 len rw0) := by
  refine ctr_of false (plainFor_of_name (by decide)) (Nat.le_of_ble_eq_true rfl) (fun q => by cases q) (fun Γ h => ?_)
  refine g_lv [some _, some _] rfl ?_
  refine g_iload_n h dX5_placesOf_0 rfl ?_
  refine g_cSr h kX5_isSheet mX5_isSheet lkX5_32 dX5_placesOf_1 rfl rfl ⟨Nat.zero_le _, Nat.zero_le _⟩ ⟨by decide, by decide⟩ (Nat.le_of_ble_eq_true rfl) [] rfl rfl ?_
  refine g_ifb_eq h dX5_placesOf_4 rfl (fun c4 => ?_) (fun c4 => ?_)
  · refine g_iconst (v := (-1)) h dX5_placesOf_16 (by decide) ?_
    refine g_ireturn h dX5_placesOf_17 rfl rfl ⟨Nat.zero_le _, Nat.zero_le _, rfl, ?_, ?_⟩
    · first | (rw [plc, c4]; rfl) | (rw [plc_lt hk]; done)
    · rfl
  · obtain ⟨k, hk, rfl⟩ := wit_shk c4
    refine g_aload_n h dX5_placesOf_7 rfl ?_
    refine g_get h flX5_11 dX5_placesOf_8 0 rfl rfl ?_
    refine g_iload_n h dX5_placesOf_11 rfl ?_
    refine g_iald h dX5_placesOf_12 1 _ rfl rfl (by omega) (by omega) ?_
    refine g_goto h dX5_placesOf_13 rfl ?_
    refine g_ireturn h dX5_placesOf_17 rfl rfl ⟨Nat.zero_le _, Nat.zero_le _, rfl, ?_, ?_⟩
    · first | (rw [plc, c4]; rfl) | (rw [plc_lt hk]; done)
    · rfl
set_option maxHeartbeats 4000000 in
set_option maxRecDepth 100000 in
theorem kX5_isMissing {l : Launch} {E : gE} {h0 h1 h2 h3 h4 h5 : Nat} {len : Nat → Int32} {rw0 : Nat → Nat → Int32} {s : Int32}  : CtrF l yX5_isMissing cX5_isMissing 2 (some .boolean) (gR 3 63) E [.ref h0, .int s] (wSh E h0 h1 h2 h3 h4 h5 len rw0) (some (.int (bI (decide (plc len s = -1))))) (wSh E h0 h1 h2 h3 h4 h5 len rw0) := by
  refine ctr_of false (plainFor_of_name (by decide)) (Nat.le_of_ble_eq_true rfl) (fun q => by cases q) (fun Γ h => ?_)
  refine g_lv [some _, some _] rfl ?_
  refine g_aload_n h dX5_isMissing_0 rfl ?_
  refine g_iload_n h dX5_isMissing_1 rfl ?_
  refine g_cVr h kX5_placesOf mX5_placesOf lkX5_36 dX5_isMissing_2 rfl rfl ⟨Nat.zero_le _, Nat.zero_le _⟩ ⟨by decide, by decide⟩ (Nat.le_of_ble_eq_true rfl) [0, 1, 2, 3, 4, 5] rfl rfl 0 rfl rfl ?_
  refine g_iconst (v := (-1)) h dX5_isMissing_5 (by decide) ?_
  refine g_ic_ne h dX5_isMissing_6 rfl (fun c6 => ?_) (fun c6 => ?_)
  · refine g_iconst (v := 0) h dX5_isMissing_13 (by decide) ?_
    refine g_ireturn h dX5_isMissing_14 rfl (by first | rfl | exact bI_nar _) ⟨Nat.zero_le _, Nat.zero_le _, rfl, ?_, ?_⟩
    · first | (rw [decide_eq_true c6]; rfl) | (rw [decide_eq_false c6]; rfl)
    · rfl
  · refine g_iconst (v := 1) h dX5_isMissing_9 (by decide) ?_
    refine g_goto h dX5_isMissing_10 rfl ?_
    refine g_ireturn h dX5_isMissing_14 rfl (by first | rfl | exact bI_nar _) ⟨Nat.zero_le _, Nat.zero_le _, rfl, ?_, ?_⟩
    · first | (rw [decide_eq_true c6]; rfl) | (rw [decide_eq_false c6]; rfl)
    · rfl
set_option maxHeartbeats 4000000 in
set_option maxRecDepth 100000 in
theorem kX5_hasPlace {l : Launch} {E : gE} {h0 h1 h2 h3 h4 h5 : Nat} {len : Nat → Int32} {rw0 : Nat → Nat → Int32} {s i : Int32}  : CtrF l yX5_hasPlace cX5_hasPlace 3 (some .boolean) (gR 3 63) E [.ref h0, .int s, .int i] (wSh E h0 h1 h2 h3 h4 h5 len rw0) (some (.int (bI (hasPl len s i)))) (wSh E h0 h1 h2 h3 h4 h5 len rw0) := by
  refine ctr_of false (plainFor_of_name (by decide)) (Nat.le_of_ble_eq_true rfl) (fun q => by cases q) (fun Γ h => ?_)
  refine g_lv [some _, some _, some _] rfl ?_
  refine g_iload_n h dX5_hasPlace_0 rfl ?_
  refine g_if_lt h dX5_hasPlace_1 rfl (fun c1 => ?_) (fun c1 => ?_)
  · refine g_iconst (v := 0) h dX5_hasPlace_23 (by decide) ?_
    refine g_ireturn h dX5_hasPlace_24 rfl (by first | rfl | exact bI_nar _) ⟨Nat.zero_le _, Nat.zero_le _, rfl, ?_, ?_⟩
    · first | (rw [hasPl, if_pos c1]; rfl) | (rw [hasPl, if_neg c1, if_pos c10]; rfl) | (rw [hasPl, if_neg c1, if_neg c10, if_pos c16]; rfl) | (rw [hasPl, if_neg c1, if_neg c10, if_neg c16]; rfl)
    · rfl
  · refine g_iload_n h dX5_hasPlace_4 rfl ?_
    refine g_aload_n h dX5_hasPlace_5 rfl ?_
    refine g_iload_n h dX5_hasPlace_6 rfl ?_
    refine g_cVr h kX5_placesOf mX5_placesOf lkX5_36 dX5_hasPlace_7 rfl rfl ⟨Nat.zero_le _, Nat.zero_le _⟩ ⟨by decide, by decide⟩ (Nat.le_of_ble_eq_true rfl) [0, 1, 2, 3, 4, 5] rfl rfl 0 rfl rfl ?_
    refine g_ic_ge h dX5_hasPlace_10 rfl (fun c10 => ?_) (fun c10 => ?_)
    · refine g_iconst (v := 0) h dX5_hasPlace_23 (by decide) ?_
      refine g_ireturn h dX5_hasPlace_24 rfl (by first | rfl | exact bI_nar _) ⟨Nat.zero_le _, Nat.zero_le _, rfl, ?_, ?_⟩
      · first | (rw [hasPl, if_pos c1]; rfl) | (rw [hasPl, if_neg c1, if_pos c10]; rfl) | (rw [hasPl, if_neg c1, if_neg c10, if_pos c16]; rfl) | (rw [hasPl, if_neg c1, if_neg c10, if_neg c16]; rfl)
      · rfl
    · refine g_iload_n h dX5_hasPlace_13 rfl ?_
      refine g_bipush (v := 36) h dX5_hasPlace_14 (by decide) ?_
      refine g_ic_ge h dX5_hasPlace_16 rfl (fun c16 => ?_) (fun c16 => ?_)
      · refine g_iconst (v := 0) h dX5_hasPlace_23 (by decide) ?_
        refine g_ireturn h dX5_hasPlace_24 rfl (by first | rfl | exact bI_nar _) ⟨Nat.zero_le _, Nat.zero_le _, rfl, ?_, ?_⟩
        · first | (rw [hasPl, if_pos c1]; rfl) | (rw [hasPl, if_neg c1, if_pos c10]; rfl) | (rw [hasPl, if_neg c1, if_neg c10, if_pos c16]; rfl) | (rw [hasPl, if_neg c1, if_neg c10, if_neg c16]; rfl)
        · rfl
      · refine g_iconst (v := 1) h dX5_hasPlace_19 (by decide) ?_
        refine g_goto h dX5_hasPlace_20 rfl ?_
        refine g_ireturn h dX5_hasPlace_24 rfl (by first | rfl | exact bI_nar _) ⟨Nat.zero_le _, Nat.zero_le _, rfl, ?_, ?_⟩
        · first | (rw [hasPl, if_pos c1]; rfl) | (rw [hasPl, if_neg c1, if_pos c10]; rfl) | (rw [hasPl, if_neg c1, if_neg c10, if_pos c16]; rfl) | (rw [hasPl, if_neg c1, if_neg c10, if_neg c16]; rfl)
        · rfl
set_option maxHeartbeats 4000000 in
set_option maxRecDepth 100000 in
theorem kX5_rateAt {l : Launch} {E : gE} {h0 h1 h2 h3 h4 h5 : Nat} {len : Nat → Int32} {rw0 : Nat → Nat → Int32} {s i : Int32}  : CtrF l yX5_rateAt cX5_rateAt 3 (some .int) (gR 4 85) E [.ref h0, .int s, .int i] (wSh E h0 h1 h2 h3 h4 h5 len rw0) (some (.int (rateA len rw0 s i))) (wSh E h0 h1 h2 h3 h4 h5 len rw0) := by
  refine ctr_of false (plainFor_of_name (by decide)) (Nat.le_of_ble_eq_true rfl) (fun q => by cases q) (fun Γ h => ?_)
  refine g_lv [some _, some _, some _] rfl ?_
  refine g_aload_n h dX5_rateAt_0 rfl ?_
  refine g_iload_n h dX5_rateAt_1 rfl ?_
  refine g_iload_n h dX5_rateAt_2 rfl ?_
  refine g_cVr h kX5_hasPlace mX5_hasPlace lkX5_43 dX5_rateAt_3 rfl rfl ⟨Nat.zero_le _, Nat.zero_le _⟩ ⟨by decide, by decide⟩ (Nat.le_of_ble_eq_true rfl) [0, 1, 2, 3, 4, 5] rfl rfl 0 rfl rfl ?_
  refine g_ifb_eq h dX5_rateAt_6 rfl (fun c6 => ?_) (fun c6 => ?_)
  · refine g_sipush (v := (-32768)) h dX5_rateAt_20 (by decide) ?_
    refine g_ireturn h dX5_rateAt_23 rfl rfl ⟨Nat.zero_le _, Nat.zero_le _, rfl, ?_, ?_⟩
    · first | (rw [rateA_lt c6 hk hj]; done) | (rw [rateA, c6]; rfl)
    · rfl
  · obtain ⟨⟨j, hj, rfl⟩, k, hk, rfl⟩ := hasPl_ex c6
    have hk3 : k = 0 ∨ k = 1 ∨ k = 2 := by omega
    rcases hk3 with rfl | rfl | rfl
    · refine g_aload_n h dX5_rateAt_9 rfl ?_
      refine g_get h flX5_17 dX5_rateAt_10 0 rfl rfl ?_
      refine g_iload_n h dX5_rateAt_13 rfl ?_
      refine g_aald h dX5_rateAt_14 2 _ rfl rfl (by omega) (by omega) rfl ?_
      refine g_iload_n h dX5_rateAt_15 rfl ?_
      refine g_sald h dX5_rateAt_16 3 _ rfl rfl (by omega) (by omega) ?_
      refine g_goto h dX5_rateAt_17 rfl ?_
      refine g_ireturn h dX5_rateAt_23 rfl rfl ⟨Nat.zero_le _, Nat.zero_le _, rfl, ?_, ?_⟩
      · first | (rw [rateA_lt c6 hk hj]; done) | (rw [rateA, c6]; rfl)
      · rfl
    · refine g_aload_n h dX5_rateAt_9 rfl ?_
      refine g_get h flX5_17 dX5_rateAt_10 0 rfl rfl ?_
      refine g_iload_n h dX5_rateAt_13 rfl ?_
      refine g_aald h dX5_rateAt_14 2 _ rfl rfl (by omega) (by omega) rfl ?_
      refine g_iload_n h dX5_rateAt_15 rfl ?_
      refine g_sald h dX5_rateAt_16 4 _ rfl rfl (by omega) (by omega) ?_
      refine g_goto h dX5_rateAt_17 rfl ?_
      refine g_ireturn h dX5_rateAt_23 rfl rfl ⟨Nat.zero_le _, Nat.zero_le _, rfl, ?_, ?_⟩
      · first | (rw [rateA_lt c6 hk hj]; done) | (rw [rateA, c6]; rfl)
      · rfl
    · refine g_aload_n h dX5_rateAt_9 rfl ?_
      refine g_get h flX5_17 dX5_rateAt_10 0 rfl rfl ?_
      refine g_iload_n h dX5_rateAt_13 rfl ?_
      refine g_aald h dX5_rateAt_14 2 _ rfl rfl (by omega) (by omega) rfl ?_
      refine g_iload_n h dX5_rateAt_15 rfl ?_
      refine g_sald h dX5_rateAt_16 5 _ rfl rfl (by omega) (by omega) ?_
      refine g_goto h dX5_rateAt_17 rfl ?_
      refine g_ireturn h dX5_rateAt_23 rfl rfl ⟨Nat.zero_le _, Nat.zero_le _, rfl, ?_, ?_⟩
      · first | (rw [rateA_lt c6 hk hj]; done) | (rw [rateA, c6]; rfl)
      · rfl
set_option maxHeartbeats 4000000 in
set_option maxRecDepth 100000 in
theorem kX5_write {l : Launch} {E : gE} {h0 h1 h2 h3 h4 h5 : Nat} {len : Nat → Int32} {rw0 : Nat → Nat → Int32} {k j : Nat} {v : Int32} (hk : k < 3) (hj : j < 36) (hp : hasPl len (nI k) (nI j) = true) : CtrF l yX5_write cX5_write 4 (some .int) (gR 5 107) E [.ref h0, .int (nI k), .int (nI j), .int v] (wSh E h0 h1 h2 h3 h4 h5 len rw0) (some (.int v.toInt16.toInt32)) (wSh E h0 h1 h2 h3 h4 h5 len (upd2 rw0 k (upd (rw0 k) j v.toInt16.toInt32))) := by
  refine ctr_of false (plainFor_of_name (by decide)) (Nat.le_of_ble_eq_true rfl) (fun q => by cases q) (fun Γ h => ?_)
  refine g_lv [some _, some _, some _, some _] rfl ?_
  refine g_aload_n h dX5_write_0 rfl ?_
  refine g_iload_n h dX5_write_1 rfl ?_
  refine g_iload_n h dX5_write_2 rfl ?_
  refine g_cVr h kX5_hasPlace mX5_hasPlace lkX5_43 dX5_write_3 rfl rfl ⟨Nat.zero_le _, Nat.zero_le _⟩ ⟨by decide, by decide⟩ (Nat.le_of_ble_eq_true rfl) [0, 1, 2, 3, 4, 5] rfl rfl 0 rfl rfl ?_
  refine g_ifb_eq h dX5_write_6 rfl (fun c6 => ?_) (fun c6 => ?_)
  · rw [hp] at c6; cases c6
  · have hk3 : k = 0 ∨ k = 1 ∨ k = 2 := by omega
    rcases hk3 with rfl | rfl | rfl
    · refine g_aload_n h dX5_write_9 rfl ?_
      refine g_get h flX5_17 dX5_write_10 0 rfl rfl ?_
      refine g_iload_n h dX5_write_13 rfl ?_
      refine g_aald h dX5_write_14 2 _ rfl rfl (by omega) (by omega) rfl ?_
      refine g_iload_n h dX5_write_15 rfl ?_
      refine g_iload_n h dX5_write_16 rfl ?_
      refine g_i2s h dX5_write_17 ?_
      refine g_sast (ws' := [_, _, _, _, _, _]) h dX5_write_18 3 _ rfl rfl (by omega) (by omega) rfl ?_
      refine g_as rfl rfl rfl (show _ = wSh E h0 h1 h2 h3 h4 h5 len (upd2 rw0 0 (upd (rw0 0) j v.toInt16.toInt32)) from (by rw [pk_vs] <;> rfl)) ?_
      refine g_aload_n h dX5_write_19 rfl ?_
      refine g_iload_n h dX5_write_20 rfl ?_
      refine g_iload_n h dX5_write_21 rfl ?_
      refine g_cVr h kX5_rateAt mX5_rateAt lkX5_47 dX5_write_22 rfl rfl ⟨Nat.zero_le _, Nat.zero_le _⟩ ⟨by decide, by decide⟩ (Nat.le_of_ble_eq_true rfl) [0, 1, 2, 3, 4, 5] rfl rfl 0 rfl rfl ?_
      rw [rateA_lt hp (by omega) hj]
      refine g_ireturn h dX5_write_25 rfl rfl ⟨Nat.zero_le _, Nat.zero_le _, rfl, ?_, ?_⟩
      · exact congrArg (fun x => some (Value.int x)) (by simp [upd2, upd])
      · rfl
    · refine g_aload_n h dX5_write_9 rfl ?_
      refine g_get h flX5_17 dX5_write_10 0 rfl rfl ?_
      refine g_iload_n h dX5_write_13 rfl ?_
      refine g_aald h dX5_write_14 2 _ rfl rfl (by omega) (by omega) rfl ?_
      refine g_iload_n h dX5_write_15 rfl ?_
      refine g_iload_n h dX5_write_16 rfl ?_
      refine g_i2s h dX5_write_17 ?_
      refine g_sast (ws' := [_, _, _, _, _, _]) h dX5_write_18 4 _ rfl rfl (by omega) (by omega) rfl ?_
      refine g_as rfl rfl rfl (show _ = wSh E h0 h1 h2 h3 h4 h5 len (upd2 rw0 1 (upd (rw0 1) j v.toInt16.toInt32)) from (by rw [pk_vs] <;> rfl)) ?_
      refine g_aload_n h dX5_write_19 rfl ?_
      refine g_iload_n h dX5_write_20 rfl ?_
      refine g_iload_n h dX5_write_21 rfl ?_
      refine g_cVr h kX5_rateAt mX5_rateAt lkX5_47 dX5_write_22 rfl rfl ⟨Nat.zero_le _, Nat.zero_le _⟩ ⟨by decide, by decide⟩ (Nat.le_of_ble_eq_true rfl) [0, 1, 2, 3, 4, 5] rfl rfl 0 rfl rfl ?_
      rw [rateA_lt hp (by omega) hj]
      refine g_ireturn h dX5_write_25 rfl rfl ⟨Nat.zero_le _, Nat.zero_le _, rfl, ?_, ?_⟩
      · exact congrArg (fun x => some (Value.int x)) (by simp [upd2, upd])
      · rfl
    · refine g_aload_n h dX5_write_9 rfl ?_
      refine g_get h flX5_17 dX5_write_10 0 rfl rfl ?_
      refine g_iload_n h dX5_write_13 rfl ?_
      refine g_aald h dX5_write_14 2 _ rfl rfl (by omega) (by omega) rfl ?_
      refine g_iload_n h dX5_write_15 rfl ?_
      refine g_iload_n h dX5_write_16 rfl ?_
      refine g_i2s h dX5_write_17 ?_
      refine g_sast (ws' := [_, _, _, _, _, _]) h dX5_write_18 5 _ rfl rfl (by omega) (by omega) rfl ?_
      refine g_as rfl rfl rfl (show _ = wSh E h0 h1 h2 h3 h4 h5 len (upd2 rw0 2 (upd (rw0 2) j v.toInt16.toInt32)) from (by rw [pk_vs] <;> rfl)) ?_
      refine g_aload_n h dX5_write_19 rfl ?_
      refine g_iload_n h dX5_write_20 rfl ?_
      refine g_iload_n h dX5_write_21 rfl ?_
      refine g_cVr h kX5_rateAt mX5_rateAt lkX5_47 dX5_write_22 rfl rfl ⟨Nat.zero_le _, Nat.zero_le _⟩ ⟨by decide, by decide⟩ (Nat.le_of_ble_eq_true rfl) [0, 1, 2, 3, 4, 5] rfl rfl 0 rfl rfl ?_
      rw [rateA_lt hp (by omega) hj]
      refine g_ireturn h dX5_write_25 rfl rfl ⟨Nat.zero_le _, Nat.zero_le _, rfl, ?_, ?_⟩
      · exact congrArg (fun x => some (Value.int x)) (by simp [upd2, upd])
      · rfl
set_option maxHeartbeats 4000000 in
set_option maxRecDepth 100000 in
theorem kX5_wasRead {l : Launch} {E : gE} {h0 h1 h2 h3 h4 h5 : Nat} {len : Nat → Int32} {rw0 : Nat → Nat → Int32} {s i : Int32}  : CtrF l yX5_wasRead cX5_wasRead 3 (some .boolean) (gR 5 107) E [.ref h0, .int s, .int i] (wSh E h0 h1 h2 h3 h4 h5 len rw0) (some (.int (bI (wasR len rw0 s i)))) (wSh E h0 h1 h2 h3 h4 h5 len rw0) := by
  refine ctr_of false (plainFor_of_name (by decide)) (Nat.le_of_ble_eq_true rfl) (fun q => by cases q) (fun Γ h => ?_)
  refine g_lv [some _, some _, some _] rfl ?_
  refine g_aload_n h dX5_wasRead_0 rfl ?_
  refine g_iload_n h dX5_wasRead_1 rfl ?_
  refine g_iload_n h dX5_wasRead_2 rfl ?_
  refine g_cVr h kX5_rateAt mX5_rateAt lkX5_47 dX5_wasRead_3 rfl rfl ⟨Nat.zero_le _, Nat.zero_le _⟩ ⟨by decide, by decide⟩ (Nat.le_of_ble_eq_true rfl) [0, 1, 2, 3, 4, 5] rfl rfl 0 rfl rfl ?_
  refine g_sipush (v := (-32768)) h dX5_wasRead_6 (by decide) ?_
  refine g_ic_eq h dX5_wasRead_9 rfl (fun c9 => ?_) (fun c9 => ?_)
  · refine g_iconst (v := 0) h dX5_wasRead_16 (by decide) ?_
    refine g_ireturn h dX5_wasRead_17 rfl (by first | rfl | exact bI_nar _) ⟨Nat.zero_le _, Nat.zero_le _, rfl, ?_, ?_⟩
    · first | (rw [wasR, decide_eq_true c9]; rfl) | (rw [wasR, decide_eq_false c9]; rfl)
    · rfl
  · refine g_iconst (v := 1) h dX5_wasRead_12 (by decide) ?_
    refine g_goto h dX5_wasRead_13 rfl ?_
    refine g_ireturn h dX5_wasRead_17 rfl (by first | rfl | exact bI_nar _) ⟨Nat.zero_le _, Nat.zero_le _, rfl, ?_, ?_⟩
    · first | (rw [wasR, decide_eq_true c9]; rfl) | (rw [wasR, decide_eq_false c9]; rfl)
    · rfl
set_option maxHeartbeats 4000000 in
set_option maxRecDepth 100000 in
theorem kX5_howManyRead {l : Launch} {E : gE} {h0 h1 h2 h3 h4 h5 : Nat} {len : Nat → Int32} {rw0 : Nat → Nat → Int32} {s : Int32} {m : Nat} (hm : m ≤ 36) : CtrF l yX5_howManyRead cX5_howManyRead 5 (some .int) (gR 6 129) E [.ref h0, .int s, .int (nI m)] (wSh E h0 h1 h2 h3 h4 h5 len rw0) (some (.int (nI (cnt (fun j => wasR len rw0 s (nI j)) m)))) (wSh E h0 h1 h2 h3 h4 h5 len rw0) := by
  refine ctr_of false (plainFor_of_name (by decide)) (Nat.le_of_ble_eq_true rfl) (fun q => by cases q) (fun Γ h => ?_)
  refine g_lv [some _, some _, some _, _, _] rfl ?_
  refine g_iconst (v := 0) h dX5_howManyRead_0 (by decide) ?_
  refine g_istore_n (lv' := [some _, some _, some _, some _, _]) h dX5_howManyRead_1 (by decide) rfl ?_
  refine g_iconst (v := 0) h dX5_howManyRead_2 (by decide) ?_
  refine g_istore (lv' := [some _, some _, some _, some _, some _]) h dX5_howManyRead_3 (by decide) rfl ?_
  have loop5 : ∀ (j : Nat) (k : Nat) (_ : k ≤ m), m - k < j → Γ 0 0 5 [some (.ref h0), some (.int s), some (.int (nI m)), some (.int (nI (cnt (fun j => wasR len rw0 s (nI j)) k))), some (.int (nI k))] [] (wSh E h0 h1 h2 h3 h4 h5 len rw0) := by
    intro j
    induction j with
    | zero => intro k hk hj; exact absurd hj (Nat.not_lt_zero _)
    | succ j ih =>
      intro k hk hj
      refine g_iload h dX5_howManyRead_5 rfl ?_
      refine g_iload_n h dX5_howManyRead_7 rfl ?_
      refine g_ic_ge h dX5_howManyRead_8 rfl (fun c8 => ?_) (fun c8 => ?_)
      · replace c8 := (nI_leI (by omega) (by omega)).mp c8
        refine g_iload_n h dX5_howManyRead_30 rfl ?_
        refine g_ireturn h dX5_howManyRead_31 rfl rfl ⟨Nat.zero_le _, Nat.zero_le _, rfl, ?_, ?_⟩
        · rw [show k = m by omega]
        · rfl
      · replace c8 := (not_congr (nI_leI (by omega) (by omega))).mp c8
        refine g_aload_n h dX5_howManyRead_11 rfl ?_
        refine g_iload_n h dX5_howManyRead_12 rfl ?_
        refine g_iload h dX5_howManyRead_13 rfl ?_
        refine g_cVr h kX5_wasRead mX5_wasRead lkX5_51 dX5_howManyRead_15 rfl rfl ⟨Nat.zero_le _, Nat.zero_le _⟩ ⟨by decide, by decide⟩ (Nat.le_of_ble_eq_true rfl) [0, 1, 2, 3, 4, 5] rfl rfl 0 rfl rfl ?_
        refine g_ifb_eq h dX5_howManyRead_18 rfl (fun c18 => ?_) (fun c18 => ?_)
        · refine g_iinc (lv' := [some _, some _, some _, some _, some _]) h dX5_howManyRead_24 rfl (nI_inc1 _) (by decide) rfl ?_
          refine g_goto h dX5_howManyRead_27 rfl ?_
          first
          | (refine g_as rfl (by rw [cnt_t (p := fun j => wasR len rw0 s (nI j)) c18]) rfl rfl ?_
             exact ih (k + 1) (by omega) (by omega))
          | (refine g_as rfl (by rw [cnt_f (p := fun j => wasR len rw0 s (nI j)) c18]) rfl rfl ?_
             exact ih (k + 1) (by omega) (by omega))
        · refine g_iinc (lv' := [some _, some _, some _, some _, some _]) h dX5_howManyRead_21 rfl (nI_inc1 _) (by decide) rfl ?_
          refine g_iinc (lv' := [some _, some _, some _, some _, some _]) h dX5_howManyRead_24 rfl (nI_inc1 _) (by decide) rfl ?_
          refine g_goto h dX5_howManyRead_27 rfl ?_
          first
          | (refine g_as rfl (by rw [cnt_t (p := fun j => wasR len rw0 s (nI j)) c18]) rfl rfl ?_
             exact ih (k + 1) (by omega) (by omega))
          | (refine g_as rfl (by rw [cnt_f (p := fun j => wasR len rw0 s (nI j)) c18]) rfl rfl ?_
             exact ih (k + 1) (by omega) (by omega))
  exact loop5 _ 0 (Nat.zero_le _) (Nat.lt_succ_self _)
set_option maxHeartbeats 4000000 in
set_option maxRecDepth 100000 in
theorem kX5_holdsRates {l : Launch} {E : gE} {h0 h1 h2 h3 h4 h5 : Nat} {len : Nat → Int32} {rw0 : Nat → Nat → Int32} {s : Int32} {m : Nat} (hm : m ≤ 36) : CtrF l yX5_holdsRates cX5_holdsRates 4 (some .boolean) (gR 6 129) E [.ref h0, .int s, .int (nI m)] (wSh E h0 h1 h2 h3 h4 h5 len rw0) (some (.int (bI (hrate len rw0 s m)))) (wSh E h0 h1 h2 h3 h4 h5 len rw0) := by
  refine ctr_of false (plainFor_of_name (by decide)) (Nat.le_of_ble_eq_true rfl) (fun q => by cases q) (fun Γ h => ?_)
  refine g_lv [some _, some _, some _, _] rfl ?_
  refine g_iconst (v := 0) h dX5_holdsRates_0 (by decide) ?_
  refine g_istore_n (lv' := [some _, some _, some _, some _]) h dX5_holdsRates_1 (by decide) rfl ?_
  have loop2 : ∀ (j : Nat) (k : Nat) (_ : k ≤ m) (_ : hrate len rw0 s k = true), m - k < j → Γ 0 0 2 [some (.ref h0), some (.int s), some (.int (nI m)), some (.int (nI k))] [] (wSh E h0 h1 h2 h3 h4 h5 len rw0) := by
    intro j
    induction j with
    | zero => intro k hk hi hj; exact absurd hj (Nat.not_lt_zero _)
    | succ j ih =>
      intro k hk hi hj
      refine g_iload_n h dX5_holdsRates_2 rfl ?_
      refine g_iload_n h dX5_holdsRates_3 rfl ?_
      refine g_ic_ge h dX5_holdsRates_4 rfl (fun c4 => ?_) (fun c4 => ?_)
      · replace c4 := (nI_leI (by omega) (by omega)).mp c4
        refine g_iconst (v := 1) h dX5_holdsRates_36 (by decide) ?_
        refine g_ireturn h dX5_holdsRates_37 rfl (by first | rfl | exact bI_nar _) ⟨Nat.zero_le _, Nat.zero_le _, rfl, ?_, ?_⟩
        · first | (rw [show m = k by omega, hi]; rfl) | (rw [hrate_mono (k := k + 1) (by rw [hrate, c13, c25, hi]; rfl) m (by omega)]; rfl)
        · rfl
      · replace c4 := (not_congr (nI_leI (by omega) (by omega))).mp c4
        refine g_aload_n h dX5_holdsRates_7 rfl ?_
        refine g_iload_n h dX5_holdsRates_8 rfl ?_
        refine g_iload_n h dX5_holdsRates_9 rfl ?_
        refine g_cVr h kX5_wasRead mX5_wasRead lkX5_51 dX5_holdsRates_10 rfl rfl ⟨Nat.zero_le _, Nat.zero_le _⟩ ⟨by decide, by decide⟩ (Nat.le_of_ble_eq_true rfl) [0, 1, 2, 3, 4, 5] rfl rfl 0 rfl rfl ?_
        refine g_ifb_eq h dX5_holdsRates_13 rfl (fun c13 => ?_) (fun c13 => ?_)
        · refine g_iinc (lv' := [some _, some _, some _, some _]) h dX5_holdsRates_30 rfl (nI_inc1 _) (by decide) rfl ?_
          refine g_goto h dX5_holdsRates_33 rfl ?_
          exact ih (k + 1) (by omega) (by first | (rw [hrate, hi, c13]; rfl) | (rw [hrate, hi, c13, c25]; rfl)) (by omega)
        · refine g_aload_n h dX5_holdsRates_16 rfl ?_
          refine g_iload_n h dX5_holdsRates_17 rfl ?_
          refine g_iload_n h dX5_holdsRates_18 rfl ?_
          refine g_cVr h kX5_rateAt mX5_rateAt lkX5_47 dX5_holdsRates_19 rfl rfl ⟨Nat.zero_le _, Nat.zero_le _⟩ ⟨by decide, by decide⟩ (Nat.le_of_ble_eq_true rfl) [0, 1, 2, 3, 4, 5] rfl rfl 0 rfl rfl ?_
          refine g_cNr h kX10_isRate mX10_isRate lkX5_54 dX5_holdsRates_22 rfl rfl ⟨Nat.zero_le _, Nat.zero_le _⟩ ⟨by decide, by decide⟩ (Nat.le_of_ble_eq_true rfl) [] rfl rfl ?_
          refine g_ifb_ne h dX5_holdsRates_25 rfl (fun c25 => ?_) (fun c25 => ?_)
          · refine g_iinc (lv' := [some _, some _, some _, some _]) h dX5_holdsRates_30 rfl (nI_inc1 _) (by decide) rfl ?_
            refine g_goto h dX5_holdsRates_33 rfl ?_
            exact ih (k + 1) (by omega) (by first | (rw [hrate, hi, c13]; rfl) | (rw [hrate, hi, c13, c25]; rfl)) (by omega)
          · refine g_iconst (v := 0) h dX5_holdsRates_28 (by decide) ?_
            refine g_ireturn h dX5_holdsRates_29 rfl (by first | rfl | exact bI_nar _) ⟨Nat.zero_le _, Nat.zero_le _, rfl, ?_, ?_⟩
            · first | (rw [show m = k by omega, hi]; rfl) | (rw [hrate_mono (k := k + 1) (by rw [hrate, c13, c25, hi]; rfl) m (by omega)]; rfl)
            · rfl
  exact loop2 _ 0 (Nat.zero_le _) rfl (Nat.lt_succ_self _)
set_option maxHeartbeats 4000000 in
set_option maxRecDepth 100000 in
theorem kX5_layOut {l : Launch} {E : gE} {h0 h1 h2 h3 h4 h5 : Nat} {len : Nat → Int32} {rw0 : Nat → Nat → Int32} {k : Nat} {n : Int32} (hk : k < 3) (hn : wit n (-1) 36 = true) : CtrF l yX5_layOut cX5_layOut 3 none (gR 2 42) E [.ref h0, .int (nI k), .int n] (wSh E h0 h1 h2 h3 h4 h5 len rw0) none (wSh E h0 h1 h2 h3 h4 h5 (upd len k n) (upd2 rw0 k (fillI (-32768) (rw0 k) 36))) := by
  refine ctr_of false (plainFor_of_name (by decide)) (Nat.le_of_ble_eq_true rfl) (fun q => by cases q) (fun Γ h => ?_)
  refine g_lv [some _, some _, some _] rfl ?_
  refine g_iload_n h dX5_layOut_0 rfl ?_
  refine g_cSr h kX5_isSheet mX5_isSheet lkX5_32 dX5_layOut_1 rfl rfl ⟨Nat.zero_le _, Nat.zero_le _⟩ ⟨by decide, by decide⟩ (Nat.le_of_ble_eq_true rfl) [] rfl rfl ?_
  refine g_ifb_eq h dX5_layOut_4 rfl (fun c4 => ?_) (fun c4 => ?_)
  · rw [sh_ok hk] at c4; cases c4
  · refine g_iload_n h dX5_layOut_7 rfl ?_
    refine g_iconst (v := (-1)) h dX5_layOut_8 (by decide) ?_
    refine g_bipush (v := 36) h dX5_layOut_9 (by decide) ?_
    refine g_cSr h kX2_within mX2_within lkX5_26 dX5_layOut_11 rfl rfl ⟨Nat.zero_le _, Nat.zero_le _⟩ ⟨by decide, by decide⟩ (Nat.le_of_ble_eq_true rfl) [] rfl rfl ?_
    refine g_ifb_eq h dX5_layOut_14 rfl (fun c14 => ?_) (fun c14 => ?_)
    · rw [hn] at c14; cases c14
    · have hk3 : k = 0 ∨ k = 1 ∨ k = 2 := by omega
      rcases hk3 with rfl | rfl | rfl
      · refine g_aload_n h dX5_layOut_17 rfl ?_
        refine g_get h flX5_11 dX5_layOut_18 0 rfl rfl ?_
        refine g_iload_n h dX5_layOut_21 rfl ?_
        refine g_iload_n h dX5_layOut_22 rfl ?_
        refine g_iast (ws' := [_, _, _, _, _, _]) h dX5_layOut_23 1 _ rfl rfl (by omega) (by omega) rfl ?_
        refine g_aload_n h dX5_layOut_24 rfl ?_
        refine g_get h flX5_17 dX5_layOut_25 0 rfl rfl ?_
        refine g_iload_n h dX5_layOut_28 rfl ?_
        refine g_aald h dX5_layOut_29 2 _ rfl rfl (by omega) (by omega) rfl ?_
        refine g_sipush (v := (-32768)) h dX5_layOut_30 (by decide) ?_
        refine g_cSv (ws' := [_, _, _, _, _, _]) h (kJ7_fill_fb410 (by decide) rfl) mJ7_fill_fb410 lkX5_40 dX5_layOut_33 rfl rfl ⟨Nat.zero_le _, Nat.zero_le _⟩ ⟨by decide, by decide⟩ (Nat.le_of_ble_eq_true rfl) [3] rfl rfl rfl ?_
        refine g_return h dX5_layOut_36 rfl ⟨Nat.zero_le _, Nat.zero_le _, rfl, ?_, ?_⟩
        · rfl
        · rfl
      · refine g_aload_n h dX5_layOut_17 rfl ?_
        refine g_get h flX5_11 dX5_layOut_18 0 rfl rfl ?_
        refine g_iload_n h dX5_layOut_21 rfl ?_
        refine g_iload_n h dX5_layOut_22 rfl ?_
        refine g_iast (ws' := [_, _, _, _, _, _]) h dX5_layOut_23 1 _ rfl rfl (by omega) (by omega) rfl ?_
        refine g_aload_n h dX5_layOut_24 rfl ?_
        refine g_get h flX5_17 dX5_layOut_25 0 rfl rfl ?_
        refine g_iload_n h dX5_layOut_28 rfl ?_
        refine g_aald h dX5_layOut_29 2 _ rfl rfl (by omega) (by omega) rfl ?_
        refine g_sipush (v := (-32768)) h dX5_layOut_30 (by decide) ?_
        refine g_cSv (ws' := [_, _, _, _, _, _]) h (kJ7_fill_fb410 (by decide) rfl) mJ7_fill_fb410 lkX5_40 dX5_layOut_33 rfl rfl ⟨Nat.zero_le _, Nat.zero_le _⟩ ⟨by decide, by decide⟩ (Nat.le_of_ble_eq_true rfl) [4] rfl rfl rfl ?_
        refine g_return h dX5_layOut_36 rfl ⟨Nat.zero_le _, Nat.zero_le _, rfl, ?_, ?_⟩
        · rfl
        · rfl
      · refine g_aload_n h dX5_layOut_17 rfl ?_
        refine g_get h flX5_11 dX5_layOut_18 0 rfl rfl ?_
        refine g_iload_n h dX5_layOut_21 rfl ?_
        refine g_iload_n h dX5_layOut_22 rfl ?_
        refine g_iast (ws' := [_, _, _, _, _, _]) h dX5_layOut_23 1 _ rfl rfl (by omega) (by omega) rfl ?_
        refine g_aload_n h dX5_layOut_24 rfl ?_
        refine g_get h flX5_17 dX5_layOut_25 0 rfl rfl ?_
        refine g_iload_n h dX5_layOut_28 rfl ?_
        refine g_aald h dX5_layOut_29 2 _ rfl rfl (by omega) (by omega) rfl ?_
        refine g_sipush (v := (-32768)) h dX5_layOut_30 (by decide) ?_
        refine g_cSv (ws' := [_, _, _, _, _, _]) h (kJ7_fill_fb410 (by decide) rfl) mJ7_fill_fb410 lkX5_40 dX5_layOut_33 rfl rfl ⟨Nat.zero_le _, Nat.zero_le _⟩ ⟨by decide, by decide⟩ (Nat.le_of_ble_eq_true rfl) [5] rfl rfl rfl ?_
        refine g_return h dX5_layOut_36 rfl ⟨Nat.zero_le _, Nat.zero_le _, rfl, ?_, ?_⟩
        · rfl
        · rfl
