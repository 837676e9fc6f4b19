set_option maxHeartbeats 4000000 in
set_option maxRecDepth 100000 in
theorem kX9_isAt {l : Launch} {E : gE} {h0 h1 h2 h3 n : Nat} {fs fg : Nat → Int32} {k : Nat} {p : Int32} (hk : k < n) (hn : n ≤ 60) : CtrF l yX9_isAt cX9_isAt 3 (some .boolean) (gR 2 42) E [.ref h0, .int (nI k), .int p] (wTr E h0 h1 h2 h3 n fs fg) (some (.int (bI (atP fs p k)))) (wTr E h0 h1 h2 h3 n fs fg) := by
  refine ctr_of false (plainFor_of_name (by decide)) (Nat.le_of_ble_eq_true rfl) (fun q => by cases q) (fun Γ h => ?_)
  refine g_lv [some _, some _, some _] rfl ?_
  refine g_iload_n h dX9_isAt_0 rfl ?_
  refine g_iconst (v := (-1)) h dX9_isAt_1 (by decide) ?_
  refine g_ic_eq h dX9_isAt_2 rfl (fun c2 => ?_) (fun c2 => ?_)
  · refine g_iconst (v := 1) h dX9_isAt_20 (by decide) ?_
    refine g_goto h dX9_isAt_21 rfl ?_
    refine g_ireturn h dX9_isAt_25 rfl (by first | rfl | exact bI_nar _) ⟨Nat.zero_le _, Nat.zero_le _, rfl, ?_, ?_⟩
    · first | (rw [atP, decide_eq_true c2]; rfl) | (rw [atP, decide_eq_false c2, decide_eq_false c17]; rfl) | (rw [atP, decide_eq_false c2, decide_eq_true c17]; rfl)
    · rfl
  · refine g_aload_n h dX9_isAt_5 rfl ?_
    refine g_get h flX9_14 dX9_isAt_6 0 rfl rfl ?_
    refine g_iload_n h dX9_isAt_9 rfl ?_
    refine g_cVr h (kX3_first hn (by omega)) mX3_first lkX9_26 dX9_isAt_10 rfl rfl ⟨Nat.zero_le _, Nat.zero_le _⟩ ⟨by decide, by decide⟩ (Nat.le_of_ble_eq_true rfl) [1, 2, 3] rfl rfl 1 rfl rfl ?_
    rw [pget_lt hk (by omega)]
    refine g_bipush (v := 6) h dX9_isAt_13 (by decide) ?_
    refine g_idiv h dX9_isAt_15 (by decide) ?_
    refine g_iload_n h dX9_isAt_16 rfl ?_
    refine g_ic_ne h dX9_isAt_17 rfl (fun c17 => ?_) (fun c17 => ?_)
    · refine g_iconst (v := 0) h dX9_isAt_24 (by decide) ?_
      refine g_ireturn h dX9_isAt_25 rfl (by first | rfl | exact bI_nar _) ⟨Nat.zero_le _, Nat.zero_le _, rfl, ?_, ?_⟩
      · first | (rw [atP, decide_eq_true c2]; rfl) | (rw [atP, decide_eq_false c2, decide_eq_false c17]; rfl) | (rw [atP, decide_eq_false c2, decide_eq_true c17]; rfl)
      · rfl
    · refine g_iconst (v := 1) h dX9_isAt_20 (by decide) ?_
      refine g_goto h dX9_isAt_21 rfl ?_
      refine g_ireturn h dX9_isAt_25 rfl (by first | rfl | exact bI_nar _) ⟨Nat.zero_le _, Nat.zero_le _, rfl, ?_, ?_⟩
      · first | (rw [atP, decide_eq_true c2]; rfl) | (rw [atP, decide_eq_false c2, decide_eq_false c17]; rfl) | (rw [atP, decide_eq_false c2, decide_eq_true c17]; rfl)
      · rfl
set_option maxHeartbeats 4000000 in
set_option maxRecDepth 100000 in
theorem kX9_daysAt {l : Launch} {E : gE} {h0 h1 h2 h3 n : Nat} {fs fg : Nat → Int32} {p : Int32} (hn : n ≤ 60) : CtrF l yX9_daysAt cX9_daysAt 4 (some .int) (gR 3 64) E [.ref h0, .int p] (wTr E h0 h1 h2 h3 n fs fg) (some (.int (nI (cnt (atP fs p) n)))) (wTr E h0 h1 h2 h3 n fs fg) := by
  refine ctr_of false (plainFor_of_name (by decide)) (Nat.le_of_ble_eq_true rfl) (fun q => by cases q) (fun Γ h => ?_)
  refine g_lv [some _, some _, _, _] rfl ?_
  refine g_iconst (v := 0) h dX9_daysAt_0 (by decide) ?_
  refine g_istore_n (lv' := [some _, some _, some _, _]) h dX9_daysAt_1 (by decide) rfl ?_
  refine g_iconst (v := 0) h dX9_daysAt_2 (by decide) ?_
  refine g_istore_n (lv' := [some _, some _, some _, some _]) h dX9_daysAt_3 (by decide) rfl ?_
  have loop4 : ∀ (j : Nat) (k : Nat) (_ : k ≤ n), n - k < j → Γ 0 0 4 [some (.ref h0), some (.int p), some (.int (nI (cnt (atP fs p) k))), some (.int (nI k))] [] (wTr E h0 h1 h2 h3 n fs fg) := by
    intro j
    induction j with
    | zero => intro k hk hj; exact absurd hj (Nat.not_lt_zero _)
    | succ j ih =>
      intro k hk hj
      refine g_iload_n h dX9_daysAt_4 rfl ?_
      refine g_aload_n h dX9_daysAt_5 rfl ?_
      refine g_get h flX9_14 dX9_daysAt_6 0 rfl rfl ?_
      refine g_cVr h kX3_length mX3_length lkX9_30 dX9_daysAt_9 rfl rfl ⟨Nat.zero_le _, Nat.zero_le _⟩ ⟨by decide, by decide⟩ (Nat.le_of_ble_eq_true rfl) [1, 2, 3] rfl rfl 1 rfl rfl ?_
      refine g_ic_ge h dX9_daysAt_12 rfl (fun c12 => ?_) (fun c12 => ?_)
      · replace c12 := (nI_leI (by omega) (by omega)).mp c12
        refine g_iload_n h dX9_daysAt_33 rfl ?_
        refine g_ireturn h dX9_daysAt_34 rfl rfl ⟨Nat.zero_le _, Nat.zero_le _, rfl, ?_, ?_⟩
        · rw [show k = n by omega]
        · rfl
      · replace c12 := (not_congr (nI_leI (by omega) (by omega))).mp c12
        have c12 : k < n := by omega
        refine g_aload_n h dX9_daysAt_15 rfl ?_
        refine g_iload_n h dX9_daysAt_16 rfl ?_
        refine g_iload_n h dX9_daysAt_17 rfl ?_
        refine g_cVr h (kX9_isAt c12 hn) mX9_isAt lkX9_34 dX9_daysAt_18 rfl rfl ⟨Nat.zero_le _, Nat.zero_le _⟩ ⟨by decide, by decide⟩ (Nat.le_of_ble_eq_true rfl) [0, 1, 2, 3] rfl rfl 0 rfl rfl ?_
        refine g_ifb_eq h dX9_daysAt_21 rfl (fun c21 => ?_) (fun c21 => ?_)
        · refine g_iinc (lv' := [some _, some _, some _, some _]) h dX9_daysAt_27 rfl (nI_inc1 _) (by decide) rfl ?_
          refine g_goto h dX9_daysAt_30 rfl ?_
          first
          | (refine g_as rfl (by rw [cnt_t c21]) rfl rfl ?_
             exact ih (k + 1) (by omega) (by omega))
          | (refine g_as rfl (by rw [cnt_f c21]) rfl rfl ?_
             exact ih (k + 1) (by omega) (by omega))
        · refine g_iinc (lv' := [some _, some _, some _, some _]) h dX9_daysAt_24 rfl (nI_inc1 _) (by decide) rfl ?_
          refine g_iinc (lv' := [some _, some _, some _, some _]) h dX9_daysAt_27 rfl (nI_inc1 _) (by decide) rfl ?_
          refine g_goto h dX9_daysAt_30 rfl ?_
          first
          | (refine g_as rfl (by rw [cnt_t c21]) rfl rfl ?_
             exact ih (k + 1) (by omega) (by omega))
          | (refine g_as rfl (by rw [cnt_f c21]) rfl rfl ?_
             exact ih (k + 1) (by omega) (by omega))
  exact loop4 _ 0 (Nat.zero_le _) (Nat.lt_succ_self _)
set_option maxHeartbeats 4000000 in
set_option maxRecDepth 100000 in
theorem kX9_gainAt {l : Launch} {E : gE} {h0 h1 h2 h3 n : Nat} {fs fg : Nat → Int32} {p : Int32} (hn : n ≤ 60) : CtrF l yX9_gainAt cX9_gainAt 4 (some .int) (gR 3 64) E [.ref h0, .int p] (wTr E h0 h1 h2 h3 n fs fg) (some (.int (gsum fs fg p n))) (wTr E h0 h1 h2 h3 n fs fg) := by
  refine ctr_of false (plainFor_of_name (by decide)) (Nat.le_of_ble_eq_true rfl) (fun q => by cases q) (fun Γ h => ?_)
  refine g_lv [some _, some _, _, _] rfl ?_
  refine g_iconst (v := 0) h dX9_gainAt_0 (by decide) ?_
  refine g_istore_n (lv' := [some _, some _, some _, _]) h dX9_gainAt_1 (by decide) rfl ?_
  refine g_iconst (v := 0) h dX9_gainAt_2 (by decide) ?_
  refine g_istore_n (lv' := [some _, some _, some _, some _]) h dX9_gainAt_3 (by decide) rfl ?_
  have loop4 : ∀ (j : Nat) (k : Nat) (_ : k ≤ n), n - k < j → Γ 0 0 4 [some (.ref h0), some (.int p), some (.int (gsum fs fg p k)), some (.int (nI k))] [] (wTr E h0 h1 h2 h3 n fs fg) := by
    intro j
    induction j with
    | zero => intro k hk hj; exact absurd hj (Nat.not_lt_zero _)
    | succ j ih =>
      intro k hk hj
      refine g_iload_n h dX9_gainAt_4 rfl ?_
      refine g_aload_n h dX9_gainAt_5 rfl ?_
      refine g_get h flX9_14 dX9_gainAt_6 0 rfl rfl ?_
      refine g_cVr h kX3_length mX3_length lkX9_30 dX9_gainAt_9 rfl rfl ⟨Nat.zero_le _, Nat.zero_le _⟩ ⟨by decide, by decide⟩ (Nat.le_of_ble_eq_true rfl) [1, 2, 3] rfl rfl 1 rfl rfl ?_
      refine g_ic_ge h dX9_gainAt_12 rfl (fun c12 => ?_) (fun c12 => ?_)
      · replace c12 := (nI_leI (by omega) (by omega)).mp c12
        refine g_iload_n h dX9_gainAt_41 rfl ?_
        refine g_ireturn h dX9_gainAt_42 rfl rfl ⟨Nat.zero_le _, Nat.zero_le _, rfl, ?_, ?_⟩
        · rw [show k = n by omega]
        · rfl
      · replace c12 := (not_congr (nI_leI (by omega) (by omega))).mp c12
        have c12 : k < n := by omega
        refine g_aload_n h dX9_gainAt_15 rfl ?_
        refine g_iload_n h dX9_gainAt_16 rfl ?_
        refine g_iload_n h dX9_gainAt_17 rfl ?_
        refine g_cVr h (kX9_isAt c12 hn) mX9_isAt lkX9_34 dX9_gainAt_18 rfl rfl ⟨Nat.zero_le _, Nat.zero_le _⟩ ⟨by decide, by decide⟩ (Nat.le_of_ble_eq_true rfl) [0, 1, 2, 3] rfl rfl 0 rfl rfl ?_
        refine g_ifb_eq h dX9_gainAt_21 rfl (fun c21 => ?_) (fun c21 => ?_)
        · refine g_iinc (lv' := [some _, some _, some _, some _]) h dX9_gainAt_35 rfl (nI_inc1 _) (by decide) rfl ?_
          refine g_goto h dX9_gainAt_38 rfl ?_
          have e : gsum fs fg p (k + 1) = if atP fs p k then gsum fs fg p k + fg k else gsum fs fg p k := rfl
          rw [c21] at e
          refine g_as rfl (show _ = [some (.ref h0), some (.int p), some (.int (gsum fs fg p (k + 1))), some (.int (nI (k + 1)))] by rw [e] <;> rfl) rfl rfl ?_
          exact ih (k + 1) (by omega) (by omega)
        · refine g_iload_n h dX9_gainAt_24 rfl ?_
          refine g_aload_n h dX9_gainAt_25 rfl ?_
          refine g_get h flX9_14 dX9_gainAt_26 0 rfl rfl ?_
          refine g_iload_n h dX9_gainAt_29 rfl ?_
          refine g_cVr h (kX3_second hn (by omega)) mX3_second lkX9_38 dX9_gainAt_30 rfl rfl ⟨Nat.zero_le _, Nat.zero_le _⟩ ⟨by decide, by decide⟩ (Nat.le_of_ble_eq_true rfl) [1, 2, 3] rfl rfl 1 rfl rfl ?_
          rw [pget_lt c12 (by omega)]
          refine g_iadd h dX9_gainAt_33 ?_
          refine g_istore_n (lv' := [some _, some _, some _, some _]) h dX9_gainAt_34 (by decide) rfl ?_
          refine g_iinc (lv' := [some _, some _, some _, some _]) h dX9_gainAt_35 rfl (nI_inc1 _) (by decide) rfl ?_
          refine g_goto h dX9_gainAt_38 rfl ?_
          have e : gsum fs fg p (k + 1) = if atP fs p k then gsum fs fg p k + fg k else gsum fs fg p k := rfl
          rw [c21] at e
          refine g_as rfl (show _ = [some (.ref h0), some (.int p), some (.int (gsum fs fg p (k + 1))), some (.int (nI (k + 1)))] by rw [e] <;> rfl) rfl rfl ?_
          exact ih (k + 1) (by omega) (by omega)
  exact loop4 _ 0 (Nat.zero_le _) (Nat.lt_succ_self _)
