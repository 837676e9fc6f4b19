set_option maxHeartbeats 4000000 in
set_option maxRecDepth 100000 in
theorem kX10_isState {l : Launch} {E : gE} {s : Int32}  : CtrF l yX10_isState cX10_isState 1 (some .boolean) (gR 1 22) E [.int s] ([]) (some (.int (bI (wit s 0 35)))) ([]) := by
  refine ctr_of false (plainFor_of_name (by decide)) (Nat.le_of_ble_eq_true rfl) (fun q => by cases q) (fun Γ h => ?_)
  refine g_lv [some _] rfl ?_
  refine g_iload_n h dX10_isState_0 rfl ?_
  refine g_iconst (v := 0) h dX10_isState_1 (by decide) ?_
  refine g_bipush (v := 35) h dX10_isState_2 (by decide) ?_
  refine g_cSr h kX2_within mX2_within lkX10_129 dX10_isState_4 rfl rfl ⟨Nat.zero_le _, Nat.zero_le _⟩ ⟨by decide, by decide⟩ (Nat.le_of_ble_eq_true rfl) [] rfl rfl ?_
  refine g_ireturn h dX10_isState_7 rfl (bI_nar _) ⟨Nat.zero_le _, Nat.zero_le _, rfl, ?_, ?_⟩
  · rfl
  · rfl
set_option maxHeartbeats 4000000 in
set_option maxRecDepth 100000 in
theorem kX10_isRate {l : Launch} {E : gE} {s : Int32}  : CtrF l yX10_isRate cX10_isRate 1 (some .boolean) (gR 1 22) E [.int s] ([]) (some (.int (bI (wit s (-300) 300)))) ([]) := by
  refine ctr_of false (plainFor_of_name (by decide)) (Nat.le_of_ble_eq_true rfl) (fun q => by cases q) (fun Γ h => ?_)
  refine g_lv [some _] rfl ?_
  refine g_iload_n h dX10_isRate_0 rfl ?_
  refine g_sipush (v := (-300)) h dX10_isRate_1 (by decide) ?_
  refine g_sipush (v := 300) h dX10_isRate_4 (by decide) ?_
  refine g_cSr h kX2_within mX2_within lkX10_129 dX10_isRate_7 rfl rfl ⟨Nat.zero_le _, Nat.zero_le _⟩ ⟨by decide, by decide⟩ (Nat.le_of_ble_eq_true rfl) [] rfl rfl ?_
  refine g_ireturn h dX10_isRate_10 rfl (bI_nar _) ⟨Nat.zero_le _, Nat.zero_le _, rfl, ?_, ?_⟩
  · rfl
  · rfl
set_option maxHeartbeats 4000000 in
set_option maxRecDepth 100000 in
theorem kX10_isSteps {l : Launch} {E : gE} {s : Int32}  : CtrF l yX10_isSteps cX10_isSteps 1 (some .boolean) (gR 1 22) E [.int s] ([]) (some (.int (bI (wit s (-3) 3)))) ([]) := by
  refine ctr_of false (plainFor_of_name (by decide)) (Nat.le_of_ble_eq_true rfl) (fun q => by cases q) (fun Γ h => ?_)
  refine g_lv [some _] rfl ?_
  refine g_iload_n h dX10_isSteps_0 rfl ?_
  refine g_bipush (v := (-3)) h dX10_isSteps_1 (by decide) ?_
  refine g_iconst (v := 3) h dX10_isSteps_3 (by decide) ?_
  refine g_cSr h kX2_within mX2_within lkX10_129 dX10_isSteps_4 rfl rfl ⟨Nat.zero_le _, Nat.zero_le _⟩ ⟨by decide, by decide⟩ (Nat.le_of_ble_eq_true rfl) [] rfl rfl ?_
  refine g_ireturn h dX10_isSteps_7 rfl (bI_nar _) ⟨Nat.zero_le _, Nat.zero_le _, rfl, ?_, ?_⟩
  · rfl
  · rfl
set_option maxHeartbeats 4000000 in
set_option maxRecDepth 100000 in
theorem kX9_isPlace {l : Launch} {E : gE} {s : Int32}  : CtrF l yX9_isPlace cX9_isPlace 1 (some .boolean) (gR 1 22) E [.int s] ([]) (some (.int (bI (wit s (-1) 5)))) ([]) := by
  refine ctr_of false (plainFor_of_name (by decide)) (Nat.le_of_ble_eq_true rfl) (fun q => by cases q) (fun Γ h => ?_)
  refine g_lv [some _] rfl ?_
  refine g_iload_n h dX9_isPlace_0 rfl ?_
  refine g_iconst (v := (-1)) h dX9_isPlace_1 (by decide) ?_
  refine g_iconst (v := 5) h dX9_isPlace_2 (by decide) ?_
  refine g_cSr h kX2_within mX2_within lkX9_20 dX9_isPlace_3 rfl rfl ⟨Nat.zero_le _, Nat.zero_le _⟩ ⟨by decide, by decide⟩ (Nat.le_of_ble_eq_true rfl) [] rfl rfl ?_
  refine g_ireturn h dX9_isPlace_6 rfl (bI_nar _) ⟨Nat.zero_le _, Nat.zero_le _, rfl, ?_, ?_⟩
  · rfl
  · rfl
set_option maxHeartbeats 4000000 in
set_option maxRecDepth 100000 in
theorem kX0_isKind {l : Launch} {E : gE} {s : Int32}  : CtrF l yX0_isKind cX0_isKind 1 (some .boolean) (gR 1 22) E [.int s] ([]) (some (.int (bI (wit s 0 5)))) ([]) := by
  refine ctr_of false (plainFor_of_name (by decide)) (Nat.le_of_ble_eq_true rfl) (fun q => by cases q) (fun Γ h => ?_)
  refine g_lv [some _] rfl ?_
  refine g_iload_n h dX0_isKind_0 rfl ?_
  refine g_iconst (v := 0) h dX0_isKind_1 (by decide) ?_
  refine g_iconst (v := 5) h dX0_isKind_2 (by decide) ?_
  refine g_cSr h kX2_within mX2_within lkX0_24 dX0_isKind_3 rfl rfl ⟨Nat.zero_le _, Nat.zero_le _⟩ ⟨by decide, by decide⟩ (Nat.le_of_ble_eq_true rfl) [] rfl rfl ?_
  refine g_ireturn h dX0_isKind_6 rfl (bI_nar _) ⟨Nat.zero_le _, Nat.zero_le _, rfl, ?_, ?_⟩
  · rfl
  · rfl
set_option maxHeartbeats 4000000 in
set_option maxRecDepth 100000 in
theorem kX7_has {l : Launch} {E : gE} {h0 h1 h2 h3 : Nat} {th : Nat → Bool} {fr to : Nat → Int32} {s : Int32}  : CtrF l yX7_has cX7_has 2 (some .boolean) (gR 2 42) E [.ref h0, .int s] (wSp E h0 h1 h2 h3 th fr to) (some (.int (bI (spHas th s)))) (wSp E h0 h1 h2 h3 th fr to) := by
  refine ctr_of false (plainFor_of_name (by decide)) (Nat.le_of_ble_eq_true rfl) (fun q => by cases q) (fun Γ h => ?_)
  refine g_lv [some _, some _] rfl ?_
  refine g_iload_n h dX7_has_0 rfl ?_
  refine g_cNr h kX10_isState mX10_isState lkX7_22 dX7_has_1 rfl rfl ⟨Nat.zero_le _, Nat.zero_le _⟩ ⟨by decide, by decide⟩ (Nat.le_of_ble_eq_true rfl) [] rfl rfl ?_
  refine g_ifb_eq h dX7_has_4 rfl (fun c4 => ?_) (fun c4 => ?_)
  · refine g_iconst (v := 0) h dX7_has_20 (by decide) ?_
    refine g_ireturn h dX7_has_21 rfl (by first | rfl | exact bI_nar _) ⟨Nat.zero_le _, Nat.zero_le _, rfl, ?_, ?_⟩
    · first | (rw [spHas, c4]; rfl) | (rw [spHas_lt hk, c13]; rfl)
    · rfl
  · obtain ⟨k, hk, rfl⟩ := wit_st c4
    refine g_aload_n h dX7_has_7 rfl ?_
    refine g_get h flX7_9 dX7_has_8 0 rfl rfl ?_
    refine g_iload_n h dX7_has_11 rfl ?_
    refine g_zald h dX7_has_12 1 _ rfl rfl (by omega) (by omega) ?_
    refine g_ifb_eq h dX7_has_13 rfl (fun c13 => ?_) (fun c13 => ?_)
    · refine g_iconst (v := 0) h dX7_has_20 (by decide) ?_
      refine g_ireturn h dX7_has_21 rfl (by first | rfl | exact bI_nar _) ⟨Nat.zero_le _, Nat.zero_le _, rfl, ?_, ?_⟩
      · first | (rw [spHas, c4]; rfl) | (rw [spHas_lt hk, c13]; rfl)
      · rfl
    · refine g_iconst (v := 1) h dX7_has_16 (by decide) ?_
      refine g_goto h dX7_has_17 rfl ?_
      refine g_ireturn h dX7_has_21 rfl (by first | rfl | exact bI_nar _) ⟨Nat.zero_le _, Nat.zero_le _, rfl, ?_, ?_⟩
      · first | (rw [spHas, c4]; rfl) | (rw [spHas_lt hk, c13]; rfl)
      · rfl
set_option maxHeartbeats 4000000 in
set_option maxRecDepth 100000 in
theorem kX7_write {l : Launch} {E : gE} {h0 h1 h2 h3 : Nat} {th : Nat → Bool} {fr to : Nat → Int32} {k : Nat} {a b : Int32} (hk : k < 36) : CtrF l yX7_write cX7_write 4 none (gR 2 42) E [.ref h0, .int (nI k), .int a, .int b] (wSp E h0 h1 h2 h3 th fr to) none (wSp E h0 h1 h2 h3 (updB th k (decide (a ≤ b))) (upd fr k a) (upd to k b)) := by
  refine ctr_of false (plainFor_of_name (by decide)) (Nat.le_of_ble_eq_true rfl) (fun q => by cases q) (fun Γ h => ?_)
  refine g_lv [some _, some _, some _, some _] rfl ?_
  refine g_iload_n h dX7_write_0 rfl ?_
  refine g_cNr h kX10_isState mX10_isState lkX7_22 dX7_write_1 rfl rfl ⟨Nat.zero_le _, Nat.zero_le _⟩ ⟨by decide, by decide⟩ (Nat.le_of_ble_eq_true rfl) [] rfl rfl ?_
  refine g_ifb_eq h dX7_write_4 rfl (fun c4 => ?_) (fun c4 => ?_)
  · rw [st_ok hk] at c4; cases c4
  · refine g_aload_n h dX7_write_7 rfl ?_
    refine g_get h flX7_9 dX7_write_8 0 rfl rfl ?_
    refine g_iload_n h dX7_write_11 rfl ?_
    refine g_iload_n h dX7_write_12 rfl ?_
    refine g_iload_n h dX7_write_13 rfl ?_
    refine g_ic_gt h dX7_write_14 rfl (fun c14 => ?_) (fun c14 => ?_)
    · refine g_iconst (v := 0) h dX7_write_21 (by decide) ?_
      refine g_zast (ws' := [_, _, _, _]) h dX7_write_22 1 _ rfl rfl (by omega) (by omega) rfl ?_
      refine g_aload_n h dX7_write_23 rfl ?_
      refine g_get h flX7_15 dX7_write_24 0 rfl rfl ?_
      refine g_iload_n h dX7_write_27 rfl ?_
      refine g_iload_n h dX7_write_28 rfl ?_
      refine g_iast (ws' := [_, _, _, _]) h dX7_write_29 2 _ rfl rfl (by omega) (by omega) rfl ?_
      refine g_aload_n h dX7_write_30 rfl ?_
      refine g_get h flX7_19 dX7_write_31 0 rfl rfl ?_
      refine g_iload_n h dX7_write_34 rfl ?_
      refine g_iload_n h dX7_write_35 rfl ?_
      refine g_iast (ws' := [_, _, _, _]) h dX7_write_36 3 _ rfl rfl (by omega) (by omega) rfl ?_
      refine g_return h dX7_write_37 rfl ⟨Nat.zero_le _, Nat.zero_le _, rfl, ?_, ?_⟩
      · rfl
      · first | exact wSp_as (show upd (fun j => bI (th j)) k (vp_nar .boolean 0) = _ from by rw [le_f c14]; exact updB_eq th k false) | exact wSp_as (show upd (fun j => bI (th j)) k (vp_nar .boolean 1) = _ from by rw [le_t c14]; exact updB_eq th k true)
    · refine g_iconst (v := 1) h dX7_write_17 (by decide) ?_
      refine g_goto h dX7_write_18 rfl ?_
      refine g_zast (ws' := [_, _, _, _]) h dX7_write_22 1 _ rfl rfl (by omega) (by omega) rfl ?_
      refine g_aload_n h dX7_write_23 rfl ?_
      refine g_get h flX7_15 dX7_write_24 0 rfl rfl ?_
      refine g_iload_n h dX7_write_27 rfl ?_
      refine g_iload_n h dX7_write_28 rfl ?_
      refine g_iast (ws' := [_, _, _, _]) h dX7_write_29 2 _ rfl rfl (by omega) (by omega) rfl ?_
      refine g_aload_n h dX7_write_30 rfl ?_
      refine g_get h flX7_19 dX7_write_31 0 rfl rfl ?_
      refine g_iload_n h dX7_write_34 rfl ?_
      refine g_iload_n h dX7_write_35 rfl ?_
      refine g_iast (ws' := [_, _, _, _]) h dX7_write_36 3 _ rfl rfl (by omega) (by omega) rfl ?_
      refine g_return h dX7_write_37 rfl ⟨Nat.zero_le _, Nat.zero_le _, rfl, ?_, ?_⟩
      · rfl
      · first | exact wSp_as (show upd (fun j => bI (th j)) k (vp_nar .boolean 0) = _ from by rw [le_f c14]; exact updB_eq th k false) | exact wSp_as (show upd (fun j => bI (th j)) k (vp_nar .boolean 1) = _ from by rw [le_t c14]; exact updB_eq th k true)
set_option maxHeartbeats 4000000 in
set_option maxRecDepth 100000 in
theorem kX7_howMany {l : Launch} {E : gE} {h0 h1 h2 h3 : Nat} {th : Nat → Bool} {fr to : Nat → Int32}  : CtrF l yX7_howMany cX7_howMany 6 (some .int) (gR 0 0) E [.ref h0] (wSp E h0 h1 h2 h3 th fr to) (some (.int (nI (cnt th 36)))) (wSp E h0 h1 h2 h3 th fr to) := by
  refine ctr_of false (plainFor_of_name (by decide)) (Nat.le_of_ble_eq_true rfl) (fun q => by cases q) (fun Γ h => ?_)
  refine g_lv [some _, _, _, _, _, _] rfl ?_
  refine g_iconst (v := 0) h dX7_howMany_0 (by decide) ?_
  refine g_istore_n (lv' := [some _, some _, _, _, _, _]) h dX7_howMany_1 (by decide) rfl ?_
  refine g_aload_n h dX7_howMany_2 rfl ?_
  refine g_get h flX7_9 dX7_howMany_3 0 rfl rfl ?_
  refine g_astore_n (lv' := [some _, some _, some _, _, _, _]) h dX7_howMany_6 (by decide) rfl ?_
  refine g_aload_n h dX7_howMany_7 rfl ?_
  refine g_alen3 h dX7_howMany_8 1 rfl ?_
  refine g_istore_n (lv' := [some _, some _, some _, some _, _, _]) h dX7_howMany_9 (by decide) rfl ?_
  refine g_iconst (v := 0) h dX7_howMany_10 (by decide) ?_
  refine g_istore (lv' := [some _, some _, some _, some _, some _, _]) h dX7_howMany_11 (by decide) rfl ?_
  have loop13 : ∀ (j : Nat) (k : Nat) (o5 : Option Value) (_ : k ≤ 36), 36 - k < j → Γ 0 0 13 [some (.ref h0), some (.int (nI (cnt th k))), some (.ref h1), some (.int (nI 36)), some (.int (nI k)), o5] [] (wSp E h0 h1 h2 h3 th fr to) := by
    intro j
    induction j with
    | zero => intro k o5 hk hj; exact absurd hj (Nat.not_lt_zero _)
    | succ j ih =>
      intro k o5 hk hj
      refine g_iload h dX7_howMany_13 rfl ?_
      refine g_iload_n h dX7_howMany_15 rfl ?_
      refine g_ic_ge h dX7_howMany_16 rfl (fun c16 => ?_) (fun c16 => ?_)
      · replace c16 := (nI_leI (by omega) (by omega)).mp c16
        refine g_iload_n h dX7_howMany_39 rfl ?_
        refine g_ireturn h dX7_howMany_40 rfl rfl ⟨Nat.zero_le _, Nat.zero_le _, rfl, ?_, ?_⟩
        · rw [show k = 36 by omega]
        · rfl
      · replace c16 := (not_congr (nI_leI (by omega) (by omega))).mp c16
        refine g_aload_n h dX7_howMany_19 rfl ?_
        refine g_iload h dX7_howMany_20 rfl ?_
        refine g_zald h dX7_howMany_22 1 _ rfl rfl (by omega) (by omega) ?_
        refine g_istore (lv' := [some _, some _, some _, some _, some _, some _]) h dX7_howMany_23 (by decide) rfl ?_
        refine g_iload h dX7_howMany_25 rfl ?_
        refine g_ifb_eq h dX7_howMany_27 rfl (fun c27 => ?_) (fun c27 => ?_)
        · refine g_iinc (lv' := [some _, some _, some _, some _, some _, some _]) h dX7_howMany_33 rfl (nI_inc1 _) (by decide) rfl ?_
          refine g_goto h dX7_howMany_36 rfl ?_
          first
          | (refine g_as rfl (by rw [cnt_t c27]) rfl rfl ?_
             exact ih (k + 1) _ (by omega) (by omega))
          | (refine g_as rfl (by rw [cnt_f c27]) rfl rfl ?_
             exact ih (k + 1) _ (by omega) (by omega))
        · refine g_iinc (lv' := [some _, some _, some _, some _, some _, some _]) h dX7_howMany_30 rfl (nI_inc1 _) (by decide) rfl ?_
          refine g_iinc (lv' := [some _, some _, some _, some _, some _, some _]) h dX7_howMany_33 rfl (nI_inc1 _) (by decide) rfl ?_
          refine g_goto h dX7_howMany_36 rfl ?_
          first
          | (refine g_as rfl (by rw [cnt_t c27]) rfl rfl ?_
             exact ih (k + 1) _ (by omega) (by omega))
          | (refine g_as rfl (by rw [cnt_f c27]) rfl rfl ?_
             exact ih (k + 1) _ (by omega) (by omega))
  exact loop13 _ 0 none (by omega) (Nat.lt_succ_self _)
set_option maxHeartbeats 4000000 in
set_option maxRecDepth 100000 in
theorem kX7_holds {l : Launch} {E : gE} {h0 h1 h2 h3 : Nat} {th : Nat → Bool} {fr to : Nat → Int32} {k : Nat} {x y : Int64} (hk : k < 36) : CtrF l yX7_holds cX7_holds 6 (some .boolean) (gR 3 63) E [.ref h0, .int (nI k), .long x, .long y] (wSp E h0 h1 h2 h3 th fr to) (some (.int (bI (th k && decide ((fr k).toInt64 * y ≤ x) && decide (x ≤ (to k).toInt64 * y))))) (wSp E h0 h1 h2 h3 th fr to) := by
  refine ctr_of false (plainFor_of_name (by decide)) (Nat.le_of_ble_eq_true rfl) (fun q => by cases q) (fun Γ h => ?_)
  refine g_lv [some _, some _, some _, none, some _, none] rfl ?_
  refine g_aload_n h dX7_holds_0 rfl ?_
  refine g_iload_n h dX7_holds_1 rfl ?_
  refine g_cVr h kX7_has mX7_has lkX7_26 dX7_holds_2 rfl rfl ⟨Nat.zero_le _, Nat.zero_le _⟩ ⟨by decide, by decide⟩ (Nat.le_of_ble_eq_true rfl) [0, 1, 2, 3] rfl rfl 0 rfl rfl ?_
  refine g_ifb_eq h dX7_holds_5 rfl (fun c5 => ?_) (fun c5 => ?_)
  · rw [spHas_lt hk] at c5
    refine g_iconst (v := 0) h dX7_holds_42 (by decide) ?_
    refine g_ireturn h dX7_holds_43 rfl (by first | rfl | exact bI_nar _) ⟨Nat.zero_le _, Nat.zero_le _, rfl, ?_, ?_⟩
    · first | (rw [c5]; rfl) | (rw [c5, leL_f c20]; rfl) | (rw [c5, leL_t c20, leL_f c35]; rfl) | (rw [c5, leL_t c20, leL_t c35]; rfl)
    · rfl
  · rw [spHas_lt hk] at c5
    refine g_aload_n h dX7_holds_8 rfl ?_
    refine g_get h flX7_15 dX7_holds_9 0 rfl rfl ?_
    refine g_iload_n h dX7_holds_12 rfl ?_
    refine g_iald h dX7_holds_13 2 _ rfl rfl (by omega) (by omega) ?_
    refine g_i2l h dX7_holds_14 ?_
    refine g_lload h dX7_holds_15 rfl ?_
    refine g_lmul h dX7_holds_17 ?_
    refine g_lload_n h dX7_holds_18 rfl ?_
    refine g_lcmp h dX7_holds_19 ?_
    refine g_lif_gt h dX7_holds_20 rfl (fun c20 => ?_) (fun c20 => ?_)
    · refine g_iconst (v := 0) h dX7_holds_42 (by decide) ?_
      refine g_ireturn h dX7_holds_43 rfl (by first | rfl | exact bI_nar _) ⟨Nat.zero_le _, Nat.zero_le _, rfl, ?_, ?_⟩
      · first | (rw [c5]; rfl) | (rw [c5, leL_f c20]; rfl) | (rw [c5, leL_t c20, leL_f c35]; rfl) | (rw [c5, leL_t c20, leL_t c35]; rfl)
      · rfl
    · refine g_lload_n h dX7_holds_23 rfl ?_
      refine g_aload_n h dX7_holds_24 rfl ?_
      refine g_get h flX7_19 dX7_holds_25 0 rfl rfl ?_
      refine g_iload_n h dX7_holds_28 rfl ?_
      refine g_iald h dX7_holds_29 3 _ rfl rfl (by omega) (by omega) ?_
      refine g_i2l h dX7_holds_30 ?_
      refine g_lload h dX7_holds_31 rfl ?_
      refine g_lmul h dX7_holds_33 ?_
      refine g_lcmp h dX7_holds_34 ?_
      refine g_lif_gt h dX7_holds_35 rfl (fun c35 => ?_) (fun c35 => ?_)
      · refine g_iconst (v := 0) h dX7_holds_42 (by decide) ?_
        refine g_ireturn h dX7_holds_43 rfl (by first | rfl | exact bI_nar _) ⟨Nat.zero_le _, Nat.zero_le _, rfl, ?_, ?_⟩
        · first | (rw [c5]; rfl) | (rw [c5, leL_f c20]; rfl) | (rw [c5, leL_t c20, leL_f c35]; rfl) | (rw [c5, leL_t c20, leL_t c35]; rfl)
        · rfl
      · refine g_iconst (v := 1) h dX7_holds_38 (by decide) ?_
        refine g_goto h dX7_holds_39 rfl ?_
        refine g_ireturn h dX7_holds_43 rfl (by first | rfl | exact bI_nar _) ⟨Nat.zero_le _, Nat.zero_le _, rfl, ?_, ?_⟩
        · first | (rw [c5]; rfl) | (rw [c5, leL_f c20]; rfl) | (rw [c5, leL_t c20, leL_f c35]; rfl) | (rw [c5, leL_t c20, leL_t c35]; rfl)
        · rfl
set_option maxHeartbeats 4000000 in
set_option maxRecDepth 100000 in
theorem kX7_copyFrom {l : Launch} {E : gE} {h0 h1 h2 h3 h4 h5 h6 h7 : Nat} {th th2 : Nat → Bool} {fr to fr2 to2 : Nat → Int32}  : CtrF l yX7_copyFrom cX7_copyFrom 3 none (gR 0 0) E [.ref h0, .ref h4] (wSp E h0 h1 h2 h3 th fr to ++ wSp E h4 h5 h6 h7 th2 fr2 to2) none (wSp E h0 h1 h2 h3 (cpy th2 th 36) (cpy fr2 fr 36) (cpy to2 to 36) ++ wSp E h4 h5 h6 h7 th2 fr2 to2) := by
  refine ctr_of false (plainFor_of_name (by decide)) (Nat.le_of_ble_eq_true rfl) (fun q => by cases q) (fun Γ h => ?_)
  refine g_lv [some _, some _, _] rfl ?_
  refine g_iconst (v := 0) h dX7_copyFrom_0 (by decide) ?_
  refine g_istore_n (lv' := [some _, some _, some _]) h dX7_copyFrom_1 (by decide) rfl ?_
  have loop2 : ∀ (j : Nat) (t : Nat) (_ : t ≤ 36), 36 - t < j → Γ 0 0 2 [some (.ref h0), some (.ref h4), some (.int (nI t))] [] (wSp E h0 h1 h2 h3 (cpy th2 th t) (cpy fr2 fr t) (cpy to2 to t) ++ wSp E h4 h5 h6 h7 th2 fr2 to2) := by
    intro j
    induction j with
    | zero => intro t ht hj; exact absurd hj (Nat.not_lt_zero _)
    | succ j ih =>
      intro t ht hj
      refine g_iload_n h dX7_copyFrom_2 rfl ?_
      refine g_bipush (v := 36) h dX7_copyFrom_3 (by decide) ?_
      refine g_ic_ge h dX7_copyFrom_5 rfl (fun c5 => ?_) (fun c5 => ?_)
      · replace c5 := (nI_leI (a := 36) (by omega) (by omega)).mp c5
        refine g_return h dX7_copyFrom_50 rfl ⟨Nat.zero_le _, Nat.zero_le _, rfl, ?_, ?_⟩
        · rfl
        · rw [show t = 36 by omega]
      · replace c5 := (not_congr (nI_leI (a := 36) (by omega) (by omega))).mp c5
        refine g_aload_n h dX7_copyFrom_8 rfl ?_
        refine g_get h flX7_9 dX7_copyFrom_9 0 rfl rfl ?_
        refine g_iload_n h dX7_copyFrom_12 rfl ?_
        refine g_aload_n h dX7_copyFrom_13 rfl ?_
        refine g_get h flX7_9 dX7_copyFrom_14 4 rfl rfl ?_
        refine g_iload_n h dX7_copyFrom_17 rfl ?_
        refine g_zald h dX7_copyFrom_18 5 _ rfl rfl (by omega) (by omega) ?_
        refine g_zast (ws' := [_, _, _, _, _, _, _, _]) h dX7_copyFrom_19 1 _ rfl rfl (by omega) (by omega) rfl ?_
        refine g_aload_n h dX7_copyFrom_20 rfl ?_
        refine g_get h flX7_15 dX7_copyFrom_21 0 rfl rfl ?_
        refine g_iload_n h dX7_copyFrom_24 rfl ?_
        refine g_aload_n h dX7_copyFrom_25 rfl ?_
        refine g_get h flX7_15 dX7_copyFrom_26 4 rfl rfl ?_
        refine g_iload_n h dX7_copyFrom_29 rfl ?_
        refine g_iald h dX7_copyFrom_30 6 _ rfl rfl (by omega) (by omega) ?_
        refine g_iast (ws' := [_, _, _, _, _, _, _, _]) h dX7_copyFrom_31 2 _ rfl rfl (by omega) (by omega) rfl ?_
        refine g_aload_n h dX7_copyFrom_32 rfl ?_
        refine g_get h flX7_19 dX7_copyFrom_33 0 rfl rfl ?_
        refine g_iload_n h dX7_copyFrom_36 rfl ?_
        refine g_aload_n h dX7_copyFrom_37 rfl ?_
        refine g_get h flX7_19 dX7_copyFrom_38 4 rfl rfl ?_
        refine g_iload_n h dX7_copyFrom_41 rfl ?_
        refine g_iald h dX7_copyFrom_42 7 _ rfl rfl (by omega) (by omega) ?_
        refine g_iast (ws' := [_, _, _, _, _, _, _, _]) h dX7_copyFrom_43 3 _ rfl rfl (by omega) (by omega) rfl ?_
        refine g_iinc (lv' := [some _, some _, some _]) h dX7_copyFrom_44 rfl (nI_inc1 _) (by decide) rfl ?_
        refine g_goto h dX7_copyFrom_47 rfl ?_
        refine g_as rfl rfl rfl (show _ = wSp E h0 h1 h2 h3 (cpy th2 th (t + 1)) (cpy fr2 fr (t + 1)) (cpy to2 to (t + 1)) ++ wSp E h4 h5 h6 h7 th2 fr2 to2 from (by rw [← cpy_s, ← cpy_s]; exact congrArg (fun x => x ++ wSp E h4 h5 h6 h7 th2 fr2 to2) (wSp_as (cpyB_s th2 th t)))) ?_
        exact ih (t + 1) (by omega) (by omega)
  refine g_as rfl rfl rfl (show _ = wSp E h0 h1 h2 h3 (cpy th2 th 0) (cpy fr2 fr 0) (cpy to2 to 0) ++ wSp E h4 h5 h6 h7 th2 fr2 to2 by rw [cpy_0, cpy_0, cpy_0]) ?_
  exact loop2 _ 0 (Nat.zero_le _) (Nat.lt_succ_self _)
