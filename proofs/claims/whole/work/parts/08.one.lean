-- max
set_option maxHeartbeats 4000000 in
set_option maxRecDepth 100000 in
theorem kJ9_max_7cf53 {l : Launch} {E : gE} {x y : Int32}  : CtrF l yJ9_max_7cf53 cJ9_max_7cf53 2 (some .int) (gR 0 0) E [.int x, .int y] ([]) (some (.int (if x < y then y else x))) ([]) := by
  refine ctr_of false (by decide +kernel) (Nat.le_of_ble_eq_true rfl) (fun q => by cases q) (fun Γ h => ?_)
  refine g_lv [some _, some _] rfl ?_
  refine g_iload_n h dJ9_max_7cf53_0 rfl ?_
  refine g_iload_n h dJ9_max_7cf53_1 rfl ?_
  refine g_ic_lt h dJ9_max_7cf53_2 rfl (fun c2 => ?_) (fun c2 => ?_)
  · refine g_iload_n h dJ9_max_7cf53_9 rfl ?_
    refine g_ireturn h dJ9_max_7cf53_10 rfl rfl ⟨Nat.zero_le _, Nat.zero_le _, rfl, ?_, ?_⟩
    · simp [*]
    · rfl
  · refine g_iload_n h dJ9_max_7cf53_5 rfl ?_
    refine g_goto h dJ9_max_7cf53_6 rfl ?_
    refine g_ireturn h dJ9_max_7cf53_10 rfl rfl ⟨Nat.zero_le _, Nat.zero_le _, rfl, ?_, ?_⟩
    · simp [*]
    · rfl
set_option maxHeartbeats 4000000 in
set_option maxRecDepth 100000 in
theorem kJ9_min_7cf53 {l : Launch} {E : gE} {x y : Int32}  : CtrF l yJ9_min_7cf53 cJ9_min_7cf53 2 (some .int) (gR 0 0) E [.int x, .int y] ([]) (some (.int (if y < x then y else x))) ([]) := by
  refine ctr_of false (by decide +kernel) (Nat.le_of_ble_eq_true rfl) (fun q => by cases q) (fun Γ h => ?_)
  refine g_lv [some _, some _] rfl ?_
  refine g_iload_n h dJ9_min_7cf53_0 rfl ?_
  refine g_iload_n h dJ9_min_7cf53_1 rfl ?_
  refine g_ic_gt h dJ9_min_7cf53_2 rfl (fun c2 => ?_) (fun c2 => ?_)
  · refine g_iload_n h dJ9_min_7cf53_9 rfl ?_
    refine g_ireturn h dJ9_min_7cf53_10 rfl rfl ⟨Nat.zero_le _, Nat.zero_le _, rfl, ?_, ?_⟩
    · simp [*]
    · rfl
  · refine g_iload_n h dJ9_min_7cf53_5 rfl ?_
    refine g_goto h dJ9_min_7cf53_6 rfl ?_
    refine g_ireturn h dJ9_min_7cf53_10 rfl rfl ⟨Nat.zero_le _, Nat.zero_le _, rfl, ?_, ?_⟩
    · simp [*]
    · rfl
set_option maxHeartbeats 4000000 in
set_option maxRecDepth 100000 in
theorem kJ9_max_f86c9 {l : Launch} {E : gE} {x y : Int64}  : CtrF l yJ9_max_f86c9 cJ9_max_f86c9 4 (some .long) (gR 0 0) E [.long x, .long y] ([]) (some (.long (if x < y then y else x))) ([]) := by
  refine ctr_of false (by decide +kernel) (Nat.le_of_ble_eq_true rfl) (fun q => by cases q) (fun Γ h => ?_)
  refine g_lv [some _, none, some _, none] rfl ?_
  refine g_lload_n h dJ9_max_f86c9_0 rfl ?_
  refine g_lload_n h dJ9_max_f86c9_1 rfl ?_
  refine g_lcmp h dJ9_max_f86c9_2 ?_
  refine g_lif_lt h dJ9_max_f86c9_3 rfl (fun c3 => ?_) (fun c3 => ?_)
  · refine g_lload_n h dJ9_max_f86c9_10 rfl ?_
    refine g_lreturn h dJ9_max_f86c9_11 rfl ⟨Nat.zero_le _, Nat.zero_le _, rfl, ?_, ?_⟩
    · simp [*]
    · rfl
  · refine g_lload_n h dJ9_max_f86c9_6 rfl ?_
    refine g_goto h dJ9_max_f86c9_7 rfl ?_
    refine g_lreturn h dJ9_max_f86c9_11 rfl ⟨Nat.zero_le _, Nat.zero_le _, rfl, ?_, ?_⟩
    · simp [*]
    · rfl
set_option maxHeartbeats 4000000 in
set_option maxRecDepth 100000 in
theorem kJ9_abs_0f7a4 {l : Launch} {E : gE} {x : Int32}  : CtrF l yJ9_abs_0f7a4 cJ9_abs_0f7a4 1 (some .int) (gR 0 0) E [.int x] ([]) (some (.int (if 0 ≤ x then x else -x))) ([]) := by
  refine ctr_of false (by decide +kernel) (Nat.le_of_ble_eq_true rfl) (fun q => by cases q) (fun Γ h => ?_)
  refine g_lv [some _] rfl ?_
  refine g_iload_n h dJ9_abs_0f7a4_0 rfl ?_
  refine g_if_ge h dJ9_abs_0f7a4_1 rfl (fun c1 => ?_) (fun c1 => ?_)
  · refine g_iload_n h dJ9_abs_0f7a4_9 rfl ?_
    refine g_ireturn h dJ9_abs_0f7a4_10 rfl rfl ⟨Nat.zero_le _, Nat.zero_le _, rfl, ?_, ?_⟩
    · simp [*]
    · rfl
  · refine g_iload_n h dJ9_abs_0f7a4_4 rfl ?_
    refine g_ineg h dJ9_abs_0f7a4_5 ?_
    refine g_goto h dJ9_abs_0f7a4_6 rfl ?_
    refine g_ireturn h dJ9_abs_0f7a4_10 rfl rfl ⟨Nat.zero_le _, Nat.zero_le _, rfl, ?_, ?_⟩
    · simp [*]
    · rfl
set_option maxHeartbeats 4000000 in
set_option maxRecDepth 100000 in
theorem kJ9_abs_067f4 {l : Launch} {E : gE} {x : Int64}  : CtrF l yJ9_abs_067f4 cJ9_abs_067f4 2 (some .long) (gR 0 0) E [.long x] ([]) (some (.long (if 0 ≤ x then x else -x))) ([]) := by
  refine ctr_of false (by decide +kernel) (Nat.le_of_ble_eq_true rfl) (fun q => by cases q) (fun Γ h => ?_)
  refine g_lv [some _, none] rfl ?_
  refine g_lload_n h dJ9_abs_067f4_0 rfl ?_
  refine g_lconst (v := 0) h dJ9_abs_067f4_1 (by decide) ?_
  refine g_lcmp h dJ9_abs_067f4_2 ?_
  refine g_lif_ge h dJ9_abs_067f4_3 rfl (fun c3 => ?_) (fun c3 => ?_)
  · refine g_lload_n h dJ9_abs_067f4_11 rfl ?_
    refine g_lreturn h dJ9_abs_067f4_12 rfl ⟨Nat.zero_le _, Nat.zero_le _, rfl, ?_, ?_⟩
    · simp [*]
    · rfl
  · refine g_lload_n h dJ9_abs_067f4_6 rfl ?_
    refine g_lneg h dJ9_abs_067f4_7 ?_
    refine g_goto h dJ9_abs_067f4_8 rfl ?_
    refine g_lreturn h dJ9_abs_067f4_12 rfl ⟨Nat.zero_le _, Nat.zero_le _, rfl, ?_, ?_⟩
    · simp [*]
    · rfl
set_option maxHeartbeats 4000000 in
set_option maxRecDepth 100000 in
theorem kX2_within {l : Launch} {E : gE} {v a b : Int32}  : CtrF l yX2_within cX2_within 3 (some .boolean) (gR 0 0) E [.int v, .int a, .int b] ([]) (some (.int (bI (wit v a b)))) ([]) := by
  refine ctr_of false (plainFor_of_name (by decide)) (Nat.le_of_ble_eq_true rfl) (fun q => by cases q) (fun Γ h => ?_)
  refine g_lv [some _, some _, some _] rfl ?_
  refine g_iload_n h dX2_within_0 rfl ?_
  refine g_iload_n h dX2_within_1 rfl ?_
  refine g_ic_lt h dX2_within_2 rfl (fun c2 => ?_) (fun c2 => ?_)
  · refine g_iconst (v := 0) h dX2_within_14 (by decide) ?_
    refine g_ireturn h dX2_within_15 rfl (by first | rfl | exact bI_nar _) ⟨Nat.zero_le _, Nat.zero_le _, rfl, ?_, ?_⟩
    · first | (rw [wit_f1 c2]; rfl) | (rw [wit_f2 c7]; rfl) | (rw [wit_t c2 c7]; rfl)
    · rfl
  · refine g_iload_n h dX2_within_5 rfl ?_
    refine g_iload_n h dX2_within_6 rfl ?_
    refine g_ic_gt h dX2_within_7 rfl (fun c7 => ?_) (fun c7 => ?_)
    · refine g_iconst (v := 0) h dX2_within_14 (by decide) ?_
      refine g_ireturn h dX2_within_15 rfl (by first | rfl | exact bI_nar _) ⟨Nat.zero_le _, Nat.zero_le _, rfl, ?_, ?_⟩
      · first | (rw [wit_f1 c2]; rfl) | (rw [wit_f2 c7]; rfl) | (rw [wit_t c2 c7]; rfl)
      · rfl
    · refine g_iconst (v := 1) h dX2_within_10 (by decide) ?_
      refine g_goto h dX2_within_11 rfl ?_
      refine g_ireturn h dX2_within_15 rfl (by first | rfl | exact bI_nar _) ⟨Nat.zero_le _, Nat.zero_le _, rfl, ?_, ?_⟩
      · first | (rw [wit_f1 c2]; rfl) | (rw [wit_f2 c7]; rfl) | (rw [wit_t c2 c7]; rfl)
      · rfl
set_option maxHeartbeats 4000000 in
set_option maxRecDepth 100000 in
theorem kX3_length {l : Launch} {E : gE} {h0 h1 h2 cap n : Nat} {fa fb : Nat → Int32}  : CtrF l yX3_length cX3_length 1 (some .int) (gR 0 0) E [.ref h0] (wPr E h0 h1 h2 cap n fa fb) (some (.int (nI n))) (wPr E h0 h1 h2 cap n fa fb) := by
  refine ctr_of false (plainFor_of_name (by decide)) (Nat.le_of_ble_eq_true rfl) (fun q => by cases q) (fun Γ h => ?_)
  refine g_lv [some _] rfl ?_
  refine g_aload_n h dX3_length_0 rfl ?_
  refine g_get h flX3_22 dX3_length_1 0 rfl rfl ?_
  refine g_ireturn h dX3_length_4 rfl rfl ⟨Nat.zero_le _, Nat.zero_le _, rfl, ?_, ?_⟩
  · rfl
  · rfl
set_option maxHeartbeats 4000000 in
set_option maxRecDepth 100000 in
theorem kX3_has {l : Launch} {E : gE} {h0 h1 h2 cap n : Nat} {fa fb : Nat → Int32} {i : Int32} (hn : n < 2 ^ 31) : CtrF l yX3_has cX3_has 2 (some .boolean) (gR 0 0) E [.ref h0, .int i] (wPr E h0 h1 h2 cap n fa fb) (some (.int (bI (pin i n)))) (wPr E h0 h1 h2 cap n fa fb) := by
  refine ctr_of false (plainFor_of_name (by decide)) (Nat.le_of_ble_eq_true rfl) (fun q => by cases q) (fun Γ h => ?_)
  refine g_lv [some _, some _] rfl ?_
  refine g_iload_n h dX3_has_0 rfl ?_
  refine g_if_lt h dX3_has_1 rfl (fun c1 => ?_) (fun c1 => ?_)
  · refine g_iconst (v := 0) h dX3_has_16 (by decide) ?_
    refine g_ireturn h dX3_has_17 rfl (by first | rfl | exact bI_nar _) ⟨Nat.zero_le _, Nat.zero_le _, rfl, ?_, ?_⟩
    · first | (rw [pin_f1 c1]; rfl) | (rw [pin_f2 hn c9]; rfl) | (rw [pin_t hn c1 c9]; rfl)
    · rfl
  · refine g_iload_n h dX3_has_4 rfl ?_
    refine g_aload_n h dX3_has_5 rfl ?_
    refine g_get h flX3_22 dX3_has_6 0 rfl rfl ?_
    refine g_ic_ge h dX3_has_9 rfl (fun c9 => ?_) (fun c9 => ?_)
    · refine g_iconst (v := 0) h dX3_has_16 (by decide) ?_
      refine g_ireturn h dX3_has_17 rfl (by first | rfl | exact bI_nar _) ⟨Nat.zero_le _, Nat.zero_le _, rfl, ?_, ?_⟩
      · first | (rw [pin_f1 c1]; rfl) | (rw [pin_f2 hn c9]; rfl) | (rw [pin_t hn c1 c9]; rfl)
      · rfl
    · refine g_iconst (v := 1) h dX3_has_12 (by decide) ?_
      refine g_goto h dX3_has_13 rfl ?_
      refine g_ireturn h dX3_has_17 rfl (by first | rfl | exact bI_nar _) ⟨Nat.zero_le _, Nat.zero_le _, rfl, ?_, ?_⟩
      · first | (rw [pin_f1 c1]; rfl) | (rw [pin_f2 hn c9]; rfl) | (rw [pin_t hn c1 c9]; rfl)
      · rfl
set_option maxHeartbeats 4000000 in
set_option maxRecDepth 100000 in
theorem kX3_isFull {l : Launch} {E : gE} {h0 h1 h2 cap n : Nat} {fa fb : Nat → Int32} (hn : n < 2 ^ 31) (hc : cap < 2 ^ 31) : CtrF l yX3_isFull cX3_isFull 1 (some .boolean) (gR 0 0) E [.ref h0] (wPr E h0 h1 h2 cap n fa fb) (some (.int (bI (decide (cap ≤ n))))) (wPr E h0 h1 h2 cap n fa fb) := by
  refine ctr_of false (plainFor_of_name (by decide)) (Nat.le_of_ble_eq_true rfl) (fun q => by cases q) (fun Γ h => ?_)
  refine g_lv [some _] rfl ?_
  refine g_aload_n h dX3_isFull_0 rfl ?_
  refine g_get h flX3_22 dX3_isFull_1 0 rfl rfl ?_
  refine g_aload_n h dX3_isFull_4 rfl ?_
  refine g_get h flX3_13 dX3_isFull_5 0 rfl rfl ?_
  refine g_alen0 h dX3_isFull_8 1 rfl ?_
  refine g_ic_lt h dX3_isFull_9 rfl (fun c9 => ?_) (fun c9 => ?_)
  · replace c9 := (nI_ltI (by omega) (by omega)).mp c9
    refine g_iconst (v := 0) h dX3_isFull_16 (by decide) ?_
    refine g_ireturn h dX3_isFull_17 rfl (by first | rfl | exact bI_nar _) ⟨Nat.zero_le _, Nat.zero_le _, rfl, ?_, ?_⟩
    · simp_all [bI]
    · rfl
  · replace c9 := (not_congr (nI_ltI (by omega) (by omega))).mp c9
    refine g_iconst (v := 1) h dX3_isFull_12 (by decide) ?_
    refine g_goto h dX3_isFull_13 rfl ?_
    refine g_ireturn h dX3_isFull_17 rfl (by first | rfl | exact bI_nar _) ⟨Nat.zero_le _, Nat.zero_le _, rfl, ?_, ?_⟩
    · simp_all [bI]
    · rfl
set_option maxHeartbeats 4000000 in
set_option maxRecDepth 100000 in
theorem kX3_first {l : Launch} {E : gE} {h0 h1 h2 cap n : Nat} {fa fb : Nat → Int32} {i : Int32} (hn : n ≤ cap) (hc : cap < 2 ^ 31) : CtrF l yX3_first cX3_first 2 (some .int) (gR 1 21) E [.ref h0, .int i] (wPr E h0 h1 h2 cap n fa fb) (some (.int (pget fa n i))) (wPr E h0 h1 h2 cap n fa fb) := by
  refine ctr_of false (plainFor_of_name (by decide)) (Nat.le_of_ble_eq_true rfl) (fun q => by cases q) (fun Γ h => ?_)
  refine g_lv [some _, some _] rfl ?_
  refine g_aload_n h dX3_first_0 rfl ?_
  refine g_iload_n h dX3_first_1 rfl ?_
  refine g_cVr h (kX3_has (by omega)) mX3_has lkX3_26 dX3_first_2 rfl rfl ⟨Nat.zero_le _, Nat.zero_le _⟩ ⟨by decide, by decide⟩ (Nat.le_of_ble_eq_true rfl) [0, 1, 2] rfl rfl 0 rfl rfl ?_
  refine g_ifb_eq h dX3_first_5 rfl (fun c5 => ?_) (fun c5 => ?_)
  · refine g_iconst (v := 0) h dX3_first_17 (by decide) ?_
    refine g_ireturn h dX3_first_18 rfl rfl ⟨Nat.zero_le _, Nat.zero_le _, rfl, ?_, ?_⟩
    · first | (rw [pget_lt hk (by omega)]; done) | (simp [pget, c5]; done)
    · rfl
  · obtain ⟨k, hk, rfl⟩ := pin_ex c5 (by omega)
    refine g_aload_n h dX3_first_8 rfl ?_
    refine g_get h flX3_13 dX3_first_9 0 rfl rfl ?_
    refine g_iload_n h dX3_first_12 rfl ?_
    refine g_iald h dX3_first_13 1 _ rfl rfl (by omega) (by omega) ?_
    refine g_goto h dX3_first_14 rfl ?_
    refine g_ireturn h dX3_first_18 rfl rfl ⟨Nat.zero_le _, Nat.zero_le _, rfl, ?_, ?_⟩
    · first | (rw [pget_lt hk (by omega)]; done) | (simp [pget, c5]; done)
    · rfl
set_option maxHeartbeats 4000000 in
set_option maxRecDepth 100000 in
theorem kX3_second {l : Launch} {E : gE} {h0 h1 h2 cap n : Nat} {fa fb : Nat → Int32} {i : Int32} (hn : n ≤ cap) (hc : cap < 2 ^ 31) : CtrF l yX3_second cX3_second 2 (some .int) (gR 1 21) E [.ref h0, .int i] (wPr E h0 h1 h2 cap n fa fb) (some (.int (pget fb n i))) (wPr E h0 h1 h2 cap n fa fb) := by
  refine ctr_of false (plainFor_of_name (by decide)) (Nat.le_of_ble_eq_true rfl) (fun q => by cases q) (fun Γ h => ?_)
  refine g_lv [some _, some _] rfl ?_
  refine g_aload_n h dX3_second_0 rfl ?_
  refine g_iload_n h dX3_second_1 rfl ?_
  refine g_cVr h (kX3_has (by omega)) mX3_has lkX3_26 dX3_second_2 rfl rfl ⟨Nat.zero_le _, Nat.zero_le _⟩ ⟨by decide, by decide⟩ (Nat.le_of_ble_eq_true rfl) [0, 1, 2] rfl rfl 0 rfl rfl ?_
  refine g_ifb_eq h dX3_second_5 rfl (fun c5 => ?_) (fun c5 => ?_)
  · refine g_iconst (v := 0) h dX3_second_17 (by decide) ?_
    refine g_ireturn h dX3_second_18 rfl rfl ⟨Nat.zero_le _, Nat.zero_le _, rfl, ?_, ?_⟩
    · first | (rw [pget_lt hk (by omega)]; done) | (simp [pget, c5]; done)
    · rfl
  · obtain ⟨k, hk, rfl⟩ := pin_ex c5 (by omega)
    refine g_aload_n h dX3_second_8 rfl ?_
    refine g_get h flX3_19 dX3_second_9 0 rfl rfl ?_
    refine g_iload_n h dX3_second_12 rfl ?_
    refine g_iald h dX3_second_13 2 _ rfl rfl (by omega) (by omega) ?_
    refine g_goto h dX3_second_14 rfl ?_
    refine g_ireturn h dX3_second_18 rfl rfl ⟨Nat.zero_le _, Nat.zero_le _, rfl, ?_, ?_⟩
    · first | (rw [pget_lt hk (by omega)]; done) | (simp [pget, c5]; done)
    · rfl
set_option maxHeartbeats 4000000 in
set_option maxRecDepth 100000 in
theorem kX3_append {l : Launch} {E : gE} {h0 h1 h2 cap n : Nat} {fa fb : Nat → Int32} {x y : Int32} (hn : n < cap) (hc : cap < 2 ^ 31) : CtrF l yX3_append cX3_append 3 (some .int) (gR 1 20) E [.ref h0, .int x, .int y] (wPr E h0 h1 h2 cap n fa fb) (some (.int (nI n))) (wPr E h0 h1 h2 cap (n + 1) (upd fa n x) (upd fb n y)) := by
  refine ctr_of false (plainFor_of_name (by decide)) (Nat.le_of_ble_eq_true rfl) (fun q => by cases q) (fun Γ h => ?_)
  refine g_lv [some _, some _, some _] rfl ?_
  refine g_aload_n h dX3_append_0 rfl ?_
  refine g_cVr h (kX3_isFull (by omega) hc) mX3_isFull lkX3_30 dX3_append_1 rfl rfl ⟨Nat.zero_le _, Nat.zero_le _⟩ ⟨by decide, by decide⟩ (Nat.le_of_ble_eq_true rfl) [0, 1, 2] rfl rfl 0 rfl rfl ?_
  refine g_ifb_ne h dX3_append_4 rfl (fun c4 => ?_) (fun c4 => ?_)
  · exact absurd (of_decide_eq_true c4) (by omega)
  · refine g_aload_n h dX3_append_7 rfl ?_
    refine g_get h flX3_13 dX3_append_8 0 rfl rfl ?_
    refine g_aload_n h dX3_append_11 rfl ?_
    refine g_get h flX3_22 dX3_append_12 0 rfl rfl ?_
    refine g_iload_n h dX3_append_15 rfl ?_
    refine g_iast (ws' := [_, _, _]) h dX3_append_16 1 _ rfl rfl (by omega) (by omega) rfl ?_
    refine g_aload_n h dX3_append_17 rfl ?_
    refine g_get h flX3_19 dX3_append_18 0 rfl rfl ?_
    refine g_aload_n h dX3_append_21 rfl ?_
    refine g_get h flX3_22 dX3_append_22 0 rfl rfl ?_
    refine g_iload_n h dX3_append_25 rfl ?_
    refine g_iast (ws' := [_, _, _]) h dX3_append_26 2 _ rfl rfl (by omega) (by omega) rfl ?_
    refine g_aload_n h dX3_append_27 rfl ?_
    refine g_dup h dX3_append_28 rfl ?_
    refine g_get h flX3_22 dX3_append_29 0 rfl rfl ?_
    refine g_iconst (v := 1) h dX3_append_32 (by decide) ?_
    refine g_iadd h dX3_append_33 ?_
    refine g_topi _ (nI_add _ 1) ?_
    refine g_put (ws' := [_, _, _]) (ty := .int) h flX3_22 gftX3 rfl (by decide +kernel) dX3_append_34 0 rfl rfl rfl (Nat.le_of_ble_eq_true rfl) rfl ?_
    refine g_aload_n h dX3_append_37 rfl ?_
    refine g_get h flX3_22 dX3_append_38 0 rfl rfl ?_
    refine g_iconst (v := 1) h dX3_append_41 (by decide) ?_
    refine g_isub h dX3_append_42 ?_
    refine g_topi _ (nI_pred n) ?_
    refine g_ireturn h dX3_append_43 rfl rfl ⟨Nat.zero_le _, Nat.zero_le _, rfl, ?_, ?_⟩
    · rfl
    · rfl
set_option maxHeartbeats 4000000 in
set_option maxRecDepth 100000 in
theorem kX3_removeAt {l : Launch} {E : gE} {h0 h1 h2 cap n : Nat} {fa fb : Nat → Int32} {k : Nat} (hk : k < n) (hn : n ≤ cap) (hc : cap < 2 ^ 31) : CtrF l yX3_removeAt cX3_removeAt 3 none (gR 1 21) E [.ref h0, .int (nI k)] (wPr E h0 h1 h2 cap n fa fb) none (wPr E h0 h1 h2 cap (n - 1) (shl fa k (n - 1)) (shl fb k (n - 1))) := by
  refine ctr_of false (plainFor_of_name (by decide)) (Nat.le_of_ble_eq_true rfl) (fun q => by cases q) (fun Γ h => ?_)
  refine g_lv [some _, some _, _] rfl ?_
  refine g_aload_n h dX3_removeAt_0 rfl ?_
  refine g_iload_n h dX3_removeAt_1 rfl ?_
  refine g_cVr h (kX3_has (by omega)) mX3_has lkX3_26 dX3_removeAt_2 rfl rfl ⟨Nat.zero_le _, Nat.zero_le _⟩ ⟨by decide, by decide⟩ (Nat.le_of_ble_eq_true rfl) [0, 1, 2] rfl rfl 0 rfl rfl ?_
  refine g_ifb_eq h dX3_removeAt_5 rfl (fun c5 => ?_) (fun c5 => ?_)
  · rw [pin_lt hk (by omega)] at c5; cases c5
  · refine g_aload_n h dX3_removeAt_8 rfl ?_
    refine g_dup h dX3_removeAt_9 rfl ?_
    refine g_get h flX3_22 dX3_removeAt_10 0 rfl rfl ?_
    refine g_iconst (v := 1) h dX3_removeAt_13 (by decide) ?_
    refine g_isub h dX3_removeAt_14 ?_
    refine g_topi _ (nI_m1 (by omega)) ?_
    refine g_put (ws' := [_, _, _]) (ty := .int) h flX3_22 gftX3 rfl (by decide +kernel) dX3_removeAt_15 0 rfl rfl rfl (Nat.le_of_ble_eq_true rfl) rfl ?_
    refine g_iload_n h dX3_removeAt_18 rfl ?_
    refine g_istore_n (lv' := [some _, some _, some _]) h dX3_removeAt_19 (by decide) rfl ?_
    have loop20 : ∀ (j : Nat) (t : Nat) (_ : k ≤ t) (_ : t ≤ n - 1), n - 1 - t < j → Γ 0 0 20 [some (.ref h0), some (.int (nI k)), some (.int (nI t))] [] (wPr E h0 h1 h2 cap (n - 1) (shl fa k t) (shl fb k t)) := by
      intro j
      induction j with
      | zero => intro t ht1 ht2 hj; exact absurd hj (Nat.not_lt_zero _)
      | succ j ih =>
        intro t ht1 ht2 hj
        refine g_iload_n h dX3_removeAt_20 rfl ?_
        refine g_aload_n h dX3_removeAt_21 rfl ?_
        refine g_get h flX3_22 dX3_removeAt_22 0 rfl rfl ?_
        refine g_ic_ge h dX3_removeAt_25 rfl (fun c25 => ?_) (fun c25 => ?_)
        · replace c25 := (nI_leI (by omega) (by omega)).mp c25
          refine g_return h dX3_removeAt_62 rfl ⟨Nat.zero_le _, Nat.zero_le _, rfl, ?_, ?_⟩
          · rfl
          · rw [show t = n - 1 by omega]
        · replace c25 := (not_congr (nI_leI (by omega) (by omega))).mp c25
          refine g_aload_n h dX3_removeAt_28 rfl ?_
          refine g_get h flX3_13 dX3_removeAt_29 0 rfl rfl ?_
          refine g_iload_n h dX3_removeAt_32 rfl ?_
          refine g_aload_n h dX3_removeAt_33 rfl ?_
          refine g_get h flX3_13 dX3_removeAt_34 0 rfl rfl ?_
          refine g_iload_n h dX3_removeAt_37 rfl ?_
          refine g_iconst (v := 1) h dX3_removeAt_38 (by decide) ?_
          refine g_iadd h dX3_removeAt_39 ?_
          refine g_topi _ (nI_add _ 1) ?_
          refine g_iald h dX3_removeAt_40 1 _ rfl rfl (by omega) (by omega) ?_
          refine g_iast (ws' := [_, _, _]) h dX3_removeAt_41 1 _ rfl rfl (by omega) (by omega) rfl ?_
          refine g_aload_n h dX3_removeAt_42 rfl ?_
          refine g_get h flX3_19 dX3_removeAt_43 0 rfl rfl ?_
          refine g_iload_n h dX3_removeAt_46 rfl ?_
          refine g_aload_n h dX3_removeAt_47 rfl ?_
          refine g_get h flX3_19 dX3_removeAt_48 0 rfl rfl ?_
          refine g_iload_n h dX3_removeAt_51 rfl ?_
          refine g_iconst (v := 1) h dX3_removeAt_52 (by decide) ?_
          refine g_iadd h dX3_removeAt_53 ?_
          refine g_topi _ (nI_add _ 1) ?_
          refine g_iald h dX3_removeAt_54 2 _ rfl rfl (by omega) (by omega) ?_
          refine g_iast (ws' := [_, _, _]) h dX3_removeAt_55 2 _ rfl rfl (by omega) (by omega) rfl ?_
          refine g_iinc (lv' := [some _, some _, some _]) h dX3_removeAt_56 rfl (nI_inc1 _) (by decide) rfl ?_
          refine g_goto h dX3_removeAt_59 rfl ?_
          refine g_as rfl rfl rfl (show _ = wPr E h0 h1 h2 cap (n - 1) (shl fa k (t + 1)) (shl fb k (t + 1)) by rw [← shl_s fa ht1, ← shl_s fb ht1] <;> rfl) ?_
          exact ih (t + 1) (by omega) (by omega) (by omega)
    refine g_as rfl rfl rfl (show _ = wPr E h0 h1 h2 cap (n - 1) (shl fa k k) (shl fb k k) by rw [shl_0, shl_0] <;> rfl) ?_
    exact loop20 _ k (Nat.le_refl _) (by omega) (Nat.lt_succ_self _)
set_option maxHeartbeats 4000000 in
set_option maxRecDepth 100000 in
theorem kX3_clear {l : Launch} {E : gE} {h0 h1 h2 cap n : Nat} {fa fb : Nat → Int32}  : CtrF l yX3_clear cX3_clear 1 none (gR 0 0) E [.ref h0] (wPr E h0 h1 h2 cap n fa fb) none (wPr E h0 h1 h2 cap 0 fa fb) := by
  refine ctr_of false (plainFor_of_name (by decide)) (Nat.le_of_ble_eq_true rfl) (fun q => by cases q) (fun Γ h => ?_)
  refine g_lv [some _] rfl ?_
  refine g_aload_n h dX3_clear_0 rfl ?_
  refine g_iconst (v := 0) h dX3_clear_1 (by decide) ?_
  refine g_put (ws' := [_, _, _]) (ty := .int) h flX3_22 gftX3 rfl (by decide +kernel) dX3_clear_2 0 rfl rfl rfl (Nat.le_of_ble_eq_true rfl) rfl ?_
  refine g_return h dX3_clear_5 rfl ⟨Nat.zero_le _, Nat.zero_le _, rfl, ?_, ?_⟩
  · rfl
  · rfl
set_option maxHeartbeats 4000000 in
set_option maxRecDepth 100000 in
theorem kX3_copyFrom {l : Launch} {E : gE} {h0 h1 h2 h3 h4 h5 cap cap2 n m : Nat} {fa fb ga gb : Nat → Int32} (hm : m ≤ cap) (hm2 : m ≤ cap2) (hc : cap < 2 ^ 31) (hc2 : cap2 < 2 ^ 31) : CtrF l yX3_copyFrom cX3_copyFrom 3 none (gR 2 42) E [.ref h0, .ref h3] (wPr E h0 h1 h2 cap n fa fb ++ wPr E h3 h4 h5 cap2 m ga gb) none (wPr E h0 h1 h2 cap m (cpy ga fa m) (cpy gb fb m) ++ wPr E h3 h4 h5 cap2 m ga gb) := by
  refine ctr_of false (plainFor_of_name (by decide)) (Nat.le_of_ble_eq_true rfl) (fun q => by cases q) (fun Γ h => ?_)
  refine g_lv [some _, some _, _] rfl ?_
  refine g_aload_n h dX3_copyFrom_0 rfl ?_
  refine g_cVv (ws' := [_, _, _, _, _, _]) h kX3_clear mX3_clear lkX3_34 dX3_copyFrom_1 rfl rfl ⟨Nat.zero_le _, Nat.zero_le _⟩ ⟨by decide, by decide⟩ (Nat.le_of_ble_eq_true rfl) [0, 1, 2] rfl rfl 0 rfl rfl rfl ?_
  refine g_iconst (v := 0) h dX3_copyFrom_4 (by decide) ?_
  refine g_istore_n (lv' := [some _, some _, some _]) h dX3_copyFrom_5 (by decide) rfl ?_
  have loop6 : ∀ (j : Nat) (t : Nat) (_ : t ≤ m), m - t < j → Γ 0 0 6 [some (.ref h0), some (.ref h3), some (.int (nI t))] [] (wPr E h0 h1 h2 cap t (cpy ga fa t) (cpy gb fb t) ++ wPr E h3 h4 h5 cap2 m ga gb) := by
    intro j
    induction j with
    | zero => intro t ht hj; exact absurd hj (Nat.not_lt_zero _)
    | succ j ih =>
      intro t ht hj
      refine g_iload_n h dX3_copyFrom_6 rfl ?_
      refine g_aload_n h dX3_copyFrom_7 rfl ?_
      refine g_get h flX3_22 dX3_copyFrom_8 3 rfl rfl ?_
      refine g_ic_ge h dX3_copyFrom_11 rfl (fun c11 => ?_) (fun c11 => ?_)
      · replace c11 := (nI_leI (by omega) (by omega)).mp c11
        refine g_return h dX3_copyFrom_37 rfl ⟨Nat.zero_le _, Nat.zero_le _, rfl, ?_, ?_⟩
        · rfl
        · rw [show t = m by omega]
      · replace c11 := (not_congr (nI_leI (by omega) (by omega))).mp c11
        refine g_aload_n h dX3_copyFrom_14 rfl ?_
        refine g_aload_n h dX3_copyFrom_15 rfl ?_
        refine g_get h flX3_13 dX3_copyFrom_16 3 rfl rfl ?_
        refine g_iload_n h dX3_copyFrom_19 rfl ?_
        refine g_iald h dX3_copyFrom_20 4 _ rfl rfl (by omega) (by omega) ?_
        refine g_aload_n h dX3_copyFrom_21 rfl ?_
        refine g_get h flX3_19 dX3_copyFrom_22 3 rfl rfl ?_
        refine g_iload_n h dX3_copyFrom_25 rfl ?_
        refine g_iald h dX3_copyFrom_26 5 _ rfl rfl (by omega) (by omega) ?_
        refine g_cVw (ws' := [_, _, _, _, _, _]) h (kX3_append (by omega) hc) mX3_append lkX3_37 dX3_copyFrom_27 rfl rfl ⟨Nat.zero_le _, Nat.zero_le _⟩ ⟨by decide, by decide⟩ (Nat.le_of_ble_eq_true rfl) [0, 1, 2] rfl rfl 0 rfl rfl rfl ?_
        refine g_pop h dX3_copyFrom_30 rfl ?_
        refine g_iinc (lv' := [some _, some _, some _]) h dX3_copyFrom_31 rfl (nI_inc1 _) (by decide) rfl ?_
        refine g_goto h dX3_copyFrom_34 rfl ?_
        refine g_as rfl rfl rfl (show _ = wPr E h0 h1 h2 cap (t + 1) (cpy ga fa (t + 1)) (cpy gb fb (t + 1)) ++ wPr E h3 h4 h5 cap2 m ga gb by rw [← cpy_s, ← cpy_s] <;> rfl) ?_
        exact ih (t + 1) (by omega) (by omega)
  refine g_as rfl rfl rfl (show _ = wPr E h0 h1 h2 cap 0 (cpy ga fa 0) (cpy gb fb 0) ++ wPr E h3 h4 h5 cap2 m ga gb by rw [cpy_0, cpy_0] <;> rfl) ?_
  exact loop6 _ 0 (Nat.zero_le _) (Nat.lt_succ_self _)
