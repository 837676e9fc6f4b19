def fX10_mend (fu : Nat) (S0 : sWB) (v1 : Int32) (v2 : Int32) : Option (Int64 × sWB) := ((fX0_has S0.1.1 v1).bind fun r8 => (if r8 = true then ((fX2_within v2 (-200 : Int32) (200 : Int32)).bind fun r21 => (if r21 = true then ((fX3_isFull 8 S0.1.2.2.1).bind fun r40 => (if r40 = true then ((fX10_refuse fu S0 (5 : Int32)).bind fun r48 => (some (r48.1, r48.2))) else ((fX3_append 8 S0.1.2.2.1 v1 v2).bind fun r61 => (some ((r61.1.toInt64), (st_X10_0_2 S0 r61.2)))))) else ((fX10_refuse fu S0 (1 : Int32)).bind fun r29 => (some (r29.1, r29.2))))) else ((fX10_refuse fu S0 (1 : Int32)).bind fun r29 => (some (r29.1, r29.2)))))
set_option maxRecDepth 100000 in
theorem mgX10_13 {E : gE} {S0 : sWB} {n0 : sPr} {a0 : Nat → Nat} : gmerge [10, 11, 12] (wPr E (a0 10) (a0 11) (a0 12) 8 n0.1 n0.2.1 n0.2.2) (wWB E a0 S0) = wWB E a0 (st_X10_0_2 S0 n0) := by
  have h0 : gmerge [10, 11, 12] (wPr E (a0 10) (a0 11) (a0 12) 8 n0.1 n0.2.1 n0.2.2) (wWB E a0 S0) = wWB E a0 (st_X10_0_2 S0 n0) := gmerge_cut 10 3 (Nat.le_of_ble_eq_true rfl) rfl rfl
  exact h0
set_option maxHeartbeats 4000000 in
set_option maxRecDepth 100000 in
theorem qX10_mend {l : Launch} {E : gE} {a0 : Nat → Nat} {fu : Nat} {S0 : sWB} {v1 : Int32} {v2 : Int32} {r : Int64 × sWB} (hf : fX10_mend fu S0 v1 v2 = some r) : CtrF l yX10_mend cX10_mend 3 (some .long) (gR 2 43) E [.ref (a0 0), .int v1, .int v2] (wWB E a0 S0) (some (.long r.1)) (wWB E a0 r.2) := by
  refine ctr_of false (plainFor_of_name (by decide)) (Nat.le_of_ble_eq_true rfl) (fun q => by cases q) (fun Γ h => ?_)
  refine g_lv [some _, some _, some _] rfl ?_
  rw [fX10_mend] at hf
  refine g_aload_n h dX10_mend_0 rfl ?_
  refine g_get h flX10_10 dX10_mend_1 0 rfl rfl ?_
  refine g_get h flX10_71 dX10_mend_4 1 rfl rfl ?_
  refine g_iload_n h dX10_mend_7 rfl ?_
  obtain ⟨r8, q8, hf⟩ := gbind hf
  refine g_cVr h (qX0_has (a0 := fun k => a0 (k + 2)) q8) mX0_has lkX10_86 dX10_mend_8 rfl rfl ⟨Nat.zero_le _, Nat.zero_le _⟩ ⟨by decide, by decide⟩ (Nat.le_of_ble_eq_true rfl) [2, 3, 4, 5, 6] rfl rfl 2 rfl rfl ?_
  refine g_ifb_eq h dX10_mend_11 rfl (fun c11 => ?_) (fun c11 => ?_)
  · replace hf := ifb_f c11 hf
    refine g_aload_n h dX10_mend_27 rfl ?_
    refine g_iconst (v := 1) h dX10_mend_28 (by decide) ?_
    obtain ⟨r29, q29, hf⟩ := gbind hf
    refine g_cVw (ws' := wWB E a0 r29.2) h (qX10_refuse (a0 := a0) q29) mX10_refuse lkX10_67 dX10_mend_29 rfl rfl ⟨Nat.zero_le _, Nat.zero_le _⟩ ⟨by decide, by decide⟩ (Nat.le_of_ble_eq_true rfl) [0, 1, 2, 3, 4, 5, 6, 7, 8, 9, 10, 11, 12, 13, 14, 15, 16, 17, 18, 19, 20, 21, 22, 23, 24, 25, 26, 27, 28, 29, 30, 31, 32, 33, 34, 35, 36, 37, 38, 39, 40, 41, 42, 43, 44, 45, 46, 47, 48, 49, 50, 51, 52, 53, 54] rfl rfl 0 rfl rfl mgX10_7 ?_
    have er := Option.some.inj hf
    subst er
    exact g_lreturn h dX10_mend_32 rfl ⟨Nat.zero_le _, Nat.zero_le _, rfl, rfl, rfl⟩
  · replace hf := ifb_t c11 hf
    refine g_iload_n h dX10_mend_14 rfl ?_
    refine g_sipush (v := (-200)) h dX10_mend_15 (by decide) ?_
    refine g_sipush (v := 200) h dX10_mend_18 (by decide) ?_
    obtain ⟨r21, q21, hf⟩ := gbind hf
    refine g_cSr h (qX2_within q21) mX2_within lkX10_129 dX10_mend_21 rfl rfl ⟨Nat.zero_le _, Nat.zero_le _⟩ ⟨by decide, by decide⟩ (Nat.le_of_ble_eq_true rfl) [] rfl rfl ?_
    refine g_ifb_ne h dX10_mend_24 rfl (fun c24 => ?_) (fun c24 => ?_)
    · replace hf := ifb_t c24 hf
      refine g_aload_n h dX10_mend_33 rfl ?_
      refine g_get h flX10_10 dX10_mend_34 0 rfl rfl ?_
      refine g_get h flX10_242 dX10_mend_37 1 rfl rfl ?_
      obtain ⟨r40, q40, hf⟩ := gbind hf
      refine g_cVr h (qX3_isFull (a0 := fun k => a0 (k + 10)) q40) mX3_isFull lkX10_115 dX10_mend_40 rfl rfl ⟨Nat.zero_le _, Nat.zero_le _⟩ ⟨by decide, by decide⟩ (Nat.le_of_ble_eq_true rfl) [10, 11, 12] rfl rfl 10 rfl rfl ?_
      refine g_ifb_eq h dX10_mend_43 rfl (fun c43 => ?_) (fun c43 => ?_)
      · replace hf := ifb_f c43 hf
        refine g_aload_n h dX10_mend_52 rfl ?_
        refine g_get h flX10_10 dX10_mend_53 0 rfl rfl ?_
        refine g_get h flX10_242 dX10_mend_56 1 rfl rfl ?_
        refine g_iload_n h dX10_mend_59 rfl ?_
        refine g_iload_n h dX10_mend_60 rfl ?_
        obtain ⟨r61, q61, hf⟩ := gbind hf
        refine g_cVw (ws' := wWB E a0 (st_X10_0_2 S0 r61.2)) h (qX3_append (a0 := fun k => a0 (k + 10)) q61) mX3_append lkX10_118 dX10_mend_61 rfl rfl ⟨Nat.zero_le _, Nat.zero_le _⟩ ⟨by decide, by decide⟩ (Nat.le_of_ble_eq_true rfl) [10, 11, 12] rfl rfl 10 rfl rfl mgX10_13 ?_
        refine g_i2l h dX10_mend_64 ?_
        have er := Option.some.inj hf
        subst er
        exact g_lreturn h dX10_mend_65 rfl ⟨Nat.zero_le _, Nat.zero_le _, rfl, rfl, rfl⟩
      · replace hf := ifb_t c43 hf
        refine g_aload_n h dX10_mend_46 rfl ?_
        refine g_iconst (v := 5) h dX10_mend_47 (by decide) ?_
        obtain ⟨r48, q48, hf⟩ := gbind hf
        refine g_cVw (ws' := wWB E a0 r48.2) h (qX10_refuse (a0 := a0) q48) mX10_refuse lkX10_67 dX10_mend_48 rfl rfl ⟨Nat.zero_le _, Nat.zero_le _⟩ ⟨by decide, by decide⟩ (Nat.le_of_ble_eq_true rfl) [0, 1, 2, 3, 4, 5, 6, 7, 8, 9, 10, 11, 12, 13, 14, 15, 16, 17, 18, 19, 20, 21, 22, 23, 24, 25, 26, 27, 28, 29, 30, 31, 32, 33, 34, 35, 36, 37, 38, 39, 40, 41, 42, 43, 44, 45, 46, 47, 48, 49, 50, 51, 52, 53, 54] rfl rfl 0 rfl rfl mgX10_7 ?_
        have er := Option.some.inj hf
        subst er
        exact g_lreturn h dX10_mend_51 rfl ⟨Nat.zero_le _, Nat.zero_le _, rfl, rfl, rfl⟩
    · replace hf := ifb_f c24 hf
      refine g_aload_n h dX10_mend_27 rfl ?_
      refine g_iconst (v := 1) h dX10_mend_28 (by decide) ?_
      obtain ⟨r29, q29, hf⟩ := gbind hf
      refine g_cVw (ws' := wWB E a0 r29.2) h (qX10_refuse (a0 := a0) q29) mX10_refuse lkX10_67 dX10_mend_29 rfl rfl ⟨Nat.zero_le _, Nat.zero_le _⟩ ⟨by decide, by decide⟩ (Nat.le_of_ble_eq_true rfl) [0, 1, 2, 3, 4, 5, 6, 7, 8, 9, 10, 11, 12, 13, 14, 15, 16, 17, 18, 19, 20, 21, 22, 23, 24, 25, 26, 27, 28, 29, 30, 31, 32, 33, 34, 35, 36, 37, 38, 39, 40, 41, 42, 43, 44, 45, 46, 47, 48, 49, 50, 51, 52, 53, 54] rfl rfl 0 rfl rfl mgX10_7 ?_
      have er := Option.some.inj hf
      subst er
      exact g_lreturn h dX10_mend_32 rfl ⟨Nat.zero_le _, Nat.zero_le _, rfl, rfl, rfl⟩
def jX10_span_31  (fu : Nat) (v1 : Int32) (v2 : Int32) (v3 : Int32) (s0 : Int32) (S0 : sWB) : Option (Int64 × sWB) := ((fX10_isState v1).bind fun r34 => (if r34 = true then (if s0 = 0 then ((fX10_refuse fu S0 (1 : Int32)).bind fun r47 => (some (r47.1, r47.2))) else ((fX7_write S0.1.2.2.2 v1 v2 v3).bind fun r61 => ((fX7_has (st_X10_0_3 S0 r61).1.2.2.2 v1).bind fun r72 => (if r72 = true then (some ((1 : Int64), (st_X10_0_3 S0 r61))) else (some ((0 : Int64), (st_X10_0_3 S0 r61))))))) else ((fX10_refuse fu S0 (1 : Int32)).bind fun r47 => (some (r47.1, r47.2)))))
def jX10_span_30  (fu : Nat) (v1 : Int32) (v2 : Int32) (v3 : Int32) (S0 : sWB) : Option (Int64 × sWB) := (jX10_span_31  fu v1 v2 v3 (0 : Int32) S0)
def fX10_span (fu : Nat) (S0 : sWB) (v1 : Int32) (v2 : Int32) (v3 : Int32) : Option (Int64 × sWB) := ((fX2_within v2 (-1000 : Int32) (1000 : Int32)).bind fun r7 => (if r7 = true then ((fX2_within v3 (-1000 : Int32) (1000 : Int32)).bind fun r20 => (if r20 = true then (jX10_span_31  fu v1 v2 v3 (1 : Int32) S0) else (jX10_span_30  fu v1 v2 v3 S0))) else (jX10_span_30  fu v1 v2 v3 S0)))
set_option maxRecDepth 100000 in
theorem mgX10_14 {E : gE} {S0 : sWB} {n0 : sSp} {a0 : Nat → Nat} : gmerge [13, 14, 15, 16] (wSp E (a0 13) (a0 14) (a0 15) (a0 16) n0.1 n0.2.1 n0.2.2) (wWB E a0 S0) = wWB E a0 (st_X10_0_3 S0 n0) := by
  have h0 : gmerge [13, 14, 15, 16] (wSp E (a0 13) (a0 14) (a0 15) (a0 16) n0.1 n0.2.1 n0.2.2) (wWB E a0 S0) = wWB E a0 (st_X10_0_3 S0 n0) := gmerge_cut 13 4 (Nat.le_of_ble_eq_true rfl) rfl rfl
  exact h0
set_option maxHeartbeats 4000000 in
set_option maxRecDepth 100000 in
theorem qX10_span {l : Launch} {E : gE} {a0 : Nat → Nat} {fu : Nat} {S0 : sWB} {v1 : Int32} {v2 : Int32} {v3 : Int32} {r : Int64 × sWB} (hf : fX10_span fu S0 v1 v2 v3 = some r) : CtrF l yX10_span cX10_span 5 (some .long) (gR 3 65) E [.ref (a0 0), .int v1, .int v2, .int v3] (wWB E a0 S0) (some (.long r.1)) (wWB E a0 r.2) := by
  refine ctr_of false (plainFor_of_name (by decide)) (Nat.le_of_ble_eq_true rfl) (fun q => by cases q) (fun Γ h => ?_)
  refine g_lv [some _, some _, some _, some _, _] rfl ?_
  rw [fX10_span] at hf
  have jn31 : ∀ (s0 : Int32) (S0 : sWB) (o4 : Option Value), jX10_span_31  fu v1 v2 v3 s0 S0 = some r → Γ 0 0 31 [some (.ref (a0 0)), some (.int v1), some (.int v2), some (.int v3), o4] [.int s0] (wWB E a0 S0) := by
    intro s0 S0 o4 hf
    rw [jX10_span_31] at hf
    refine g_istore (lv' := [some _, some _, some _, some _, some _]) h dX10_span_31 (by decide) rfl ?_
    refine g_iload_n h dX10_span_33 rfl ?_
    obtain ⟨r34, q34, hf⟩ := gbind hf
    refine g_cSr h (qX10_isState q34) mX10_isState lkX10_90 dX10_span_34 rfl rfl ⟨Nat.zero_le _, Nat.zero_le _⟩ ⟨by decide, by decide⟩ (Nat.le_of_ble_eq_true rfl) [] rfl rfl ?_
    refine g_ifb_eq h dX10_span_37 rfl (fun c37 => ?_) (fun c37 => ?_)
    · replace hf := ifb_f c37 hf
      refine g_aload_n h dX10_span_45 rfl ?_
      refine g_iconst (v := 1) h dX10_span_46 (by decide) ?_
      obtain ⟨r47, q47, hf⟩ := gbind hf
      refine g_cVw (ws' := wWB E a0 r47.2) h (qX10_refuse (a0 := a0) q47) mX10_refuse lkX10_67 dX10_span_47 rfl rfl ⟨Nat.zero_le _, Nat.zero_le _⟩ ⟨by decide, by decide⟩ (Nat.le_of_ble_eq_true rfl) [0, 1, 2, 3, 4, 5, 6, 7, 8, 9, 10, 11, 12, 13, 14, 15, 16, 17, 18, 19, 20, 21, 22, 23, 24, 25, 26, 27, 28, 29, 30, 31, 32, 33, 34, 35, 36, 37, 38, 39, 40, 41, 42, 43, 44, 45, 46, 47, 48, 49, 50, 51, 52, 53, 54] rfl rfl 0 rfl rfl mgX10_7 ?_
      have er := Option.some.inj hf
      subst er
      exact g_lreturn h dX10_span_50 rfl ⟨Nat.zero_le _, Nat.zero_le _, rfl, rfl, rfl⟩
    · replace hf := ifb_t c37 hf
      refine g_iload h dX10_span_40 rfl ?_
      refine g_if_ne h dX10_span_42 rfl (fun c42 => ?_) (fun c42 => ?_)
      · replace hf := ifp_f c42 hf
        refine g_aload_n h dX10_span_51 rfl ?_
        refine g_get h flX10_10 dX10_span_52 0 rfl rfl ?_
        refine g_get h flX10_245 dX10_span_55 1 rfl rfl ?_
        refine g_iload_n h dX10_span_58 rfl ?_
        refine g_iload_n h dX10_span_59 rfl ?_
        refine g_iload_n h dX10_span_60 rfl ?_
        obtain ⟨r61, q61, hf⟩ := gbind hf
        refine g_cVv (ws' := wWB E a0 (st_X10_0_3 S0 r61)) h (qX7_write (a0 := fun k => a0 (k + 13)) q61) mX7_write lkX10_249 dX10_span_61 rfl rfl ⟨Nat.zero_le _, Nat.zero_le _⟩ ⟨by decide, by decide⟩ (Nat.le_of_ble_eq_true rfl) [13, 14, 15, 16] rfl rfl 13 rfl rfl mgX10_14 ?_
        refine g_aload_n h dX10_span_64 rfl ?_
        refine g_get h flX10_10 dX10_span_65 0 rfl rfl ?_
        refine g_get h flX10_245 dX10_span_68 1 rfl rfl ?_
        refine g_iload_n h dX10_span_71 rfl ?_
        obtain ⟨r72, q72, hf⟩ := gbind hf
        refine g_cVr h (qX7_has (a0 := fun k => a0 (k + 13)) q72) mX7_has lkX10_254 dX10_span_72 rfl rfl ⟨Nat.zero_le _, Nat.zero_le _⟩ ⟨by decide, by decide⟩ (Nat.le_of_ble_eq_true rfl) [13, 14, 15, 16] rfl rfl 13 rfl rfl ?_
        refine g_ifb_eq h dX10_span_75 rfl (fun c75 => ?_) (fun c75 => ?_)
        · replace hf := ifb_f c75 hf
          refine g_lconst (v := 0) h dX10_span_82 (by decide) ?_
          have er := Option.some.inj hf
          subst er
          exact g_lreturn h dX10_span_83 rfl ⟨Nat.zero_le _, Nat.zero_le _, rfl, rfl, rfl⟩
        · replace hf := ifb_t c75 hf
          refine g_lconst (v := 1) h dX10_span_78 (by decide) ?_
          refine g_goto h dX10_span_79 rfl ?_
          have er := Option.some.inj hf
          subst er
          exact g_lreturn h dX10_span_83 rfl ⟨Nat.zero_le _, Nat.zero_le _, rfl, rfl, rfl⟩
      · replace hf := ifp_t c42 hf
        refine g_aload_n h dX10_span_45 rfl ?_
        refine g_iconst (v := 1) h dX10_span_46 (by decide) ?_
        obtain ⟨r47, q47, hf⟩ := gbind hf
        refine g_cVw (ws' := wWB E a0 r47.2) h (qX10_refuse (a0 := a0) q47) mX10_refuse lkX10_67 dX10_span_47 rfl rfl ⟨Nat.zero_le _, Nat.zero_le _⟩ ⟨by decide, by decide⟩ (Nat.le_of_ble_eq_true rfl) [0, 1, 2, 3, 4, 5, 6, 7, 8, 9, 10, 11, 12, 13, 14, 15, 16, 17, 18, 19, 20, 21, 22, 23, 24, 25, 26, 27, 28, 29, 30, 31, 32, 33, 34, 35, 36, 37, 38, 39, 40, 41, 42, 43, 44, 45, 46, 47, 48, 49, 50, 51, 52, 53, 54] rfl rfl 0 rfl rfl mgX10_7 ?_
        have er := Option.some.inj hf
        subst er
        exact g_lreturn h dX10_span_50 rfl ⟨Nat.zero_le _, Nat.zero_le _, rfl, rfl, rfl⟩
  have jn30 : ∀ (S0 : sWB) (o4 : Option Value), jX10_span_30  fu v1 v2 v3 S0 = some r → Γ 0 0 30 [some (.ref (a0 0)), some (.int v1), some (.int v2), some (.int v3), o4] [] (wWB E a0 S0) := by
    intro S0 o4 hf
    rw [jX10_span_30] at hf
    refine g_iconst (v := 0) h dX10_span_30 (by decide) ?_
    exact jn31 _ _ _ hf
  refine g_iload_n h dX10_span_0 rfl ?_
  refine g_sipush (v := (-1000)) h dX10_span_1 (by decide) ?_
  refine g_sipush (v := 1000) h dX10_span_4 (by decide) ?_
  obtain ⟨r7, q7, hf⟩ := gbind hf
  refine g_cSr h (qX2_within q7) mX2_within lkX10_129 dX10_span_7 rfl rfl ⟨Nat.zero_le _, Nat.zero_le _⟩ ⟨by decide, by decide⟩ (Nat.le_of_ble_eq_true rfl) [] rfl rfl ?_
  refine g_ifb_eq h dX10_span_10 rfl (fun c10 => ?_) (fun c10 => ?_)
  · replace hf := ifb_f c10 hf
    exact jn30 _ _ hf
  · replace hf := ifb_t c10 hf
    refine g_iload_n h dX10_span_13 rfl ?_
    refine g_sipush (v := (-1000)) h dX10_span_14 (by decide) ?_
    refine g_sipush (v := 1000) h dX10_span_17 (by decide) ?_
    obtain ⟨r20, q20, hf⟩ := gbind hf
    refine g_cSr h (qX2_within q20) mX2_within lkX10_129 dX10_span_20 rfl rfl ⟨Nat.zero_le _, Nat.zero_le _⟩ ⟨by decide, by decide⟩ (Nat.le_of_ble_eq_true rfl) [] rfl rfl ?_
    refine g_ifb_eq h dX10_span_23 rfl (fun c23 => ?_) (fun c23 => ?_)
    · replace hf := ifb_f c23 hf
      exact jn30 _ _ hf
    · replace hf := ifb_t c23 hf
      refine g_iconst (v := 1) h dX10_span_26 (by decide) ?_
      refine g_goto h dX10_span_27 rfl ?_
      exact jn31 _ _ _ hf
def jX10_behind_77  (fu : Nat) (v1 : Int32) (v2 : Int32) (v3 : Int32) (v4 : Int32) (v5 : Int32) (v6 : Bool) (v7 : Int32) (S0 : sWB) : Option (Int64 × sWB) := (if v7 = 0 then ((fX6_aboveIn S0.2.2.2.2.2.1 S0.1.1 v1).bind fun r101 => ((fX6_stepIn S0.2.2.2.2.2.1 S0.1 v1 v2).bind fun r120 => ((fX6_stepIn S0.2.2.2.2.2.1 S0.1 v1 v4).bind fun r143 => ((fX6_below S0.2.2.2.2.2.1).bind fun r156 => ((fX2_lowest ((r101 + ((v3.toInt64) * r120)) + ((v5.toInt64) * r143)) r156 v6).bind fun r161 => (some (r161, S0))))))) else ((fX10_refuse fu S0 v7).bind fun r85 => (some (r85.1, r85.2))))
def jX10_behind_74  (fu : Nat) (v1 : Int32) (v2 : Int32) (v3 : Int32) (v4 : Int32) (v5 : Int32) (v6 : Bool) (S0 : sWB) : Option (Int64 × sWB) := (jX10_behind_77  fu v1 v2 v3 v4 v5 v6 (1 : Int32) S0)
def jX10_behind_40  (fu : Nat) (v1 : Int32) (v2 : Int32) (v3 : Int32) (v4 : Int32) (v5 : Int32) (v6 : Bool) (v7 : Int32) (s0 : Int32) (S0 : sWB) : Option (Int64 × sWB) := (if v7 = 0 then ((fX10_isState v1).bind fun r48 => (if r48 = true then (if s0 = 0 then (jX10_behind_74  fu v1 v2 v3 v4 v5 v6 S0) else ((fX10_isSteps v3).bind fun r60 => (if r60 = true then ((fX10_isSteps v5).bind fun r68 => (if r68 = true then (jX10_behind_77  fu v1 v2 v3 v4 v5 v6 v7 S0) else (jX10_behind_74  fu v1 v2 v3 v4 v5 v6 S0))) else (jX10_behind_74  fu v1 v2 v3 v4 v5 v6 S0)))) else (jX10_behind_74  fu v1 v2 v3 v4 v5 v6 S0))) else (jX10_behind_77  fu v1 v2 v3 v4 v5 v6 v7 S0))
def jX10_behind_39  (fu : Nat) (v1 : Int32) (v2 : Int32) (v3 : Int32) (v4 : Int32) (v5 : Int32) (v6 : Bool) (v7 : Int32) (S0 : sWB) : Option (Int64 × sWB) := (jX10_behind_40  fu v1 v2 v3 v4 v5 v6 v7 (0 : Int32) S0)
def fX10_behind (fu : Nat) (S0 : sWB) (v1 : Int32) (v2 : Int32) (v3 : Int32) (v4 : Int32) (v5 : Int32) (v6 : Bool) : Option (Int64 × sWB) := ((fX10_whyNoSizes fu S0).bind fun r1 => ((fX3_has 8 S0.1.2.2.1 v2).bind fun r14 => (if r14 = true then ((fX3_has 8 S0.1.2.2.1 v4).bind fun r29 => (if r29 = true then (jX10_behind_40  fu v1 v2 v3 v4 v5 v6 r1 (1 : Int32) S0) else (jX10_behind_39  fu v1 v2 v3 v4 v5 v6 r1 S0))) else (jX10_behind_39  fu v1 v2 v3 v4 v5 v6 r1 S0))))
set_option maxHeartbeats 4000000 in
set_option maxRecDepth 100000 in
theorem qX10_behind {l : Launch} {E : gE} {a0 : Nat → Nat} {fu : Nat} {S0 : sWB} {v1 : Int32} {v2 : Int32} {v3 : Int32} {v4 : Int32} {v5 : Int32} {v6 : Bool} {r : Int64 × sWB} (hf : fX10_behind fu S0 v1 v2 v3 v4 v5 v6 = some r) : CtrF l yX10_behind cX10_behind 11 (some .long) (gR 4 94) E [.ref (a0 0), .int v1, .int v2, .int v3, .int v4, .int v5, .int (bI v6)] (wWB E a0 S0) (some (.long r.1)) (wWB E a0 r.2) := by
  refine ctr_of false (plainFor_of_name (by decide)) (Nat.le_of_ble_eq_true rfl) (fun q => by cases q) (fun Γ h => ?_)
  refine g_lv [some _, some _, some _, some _, some _, some _, some _, _, _, _, _] rfl ?_
  rw [fX10_behind] at hf
  have jn77 : ∀ (v7 : Int32) (S0 : sWB) (o8 : Option Value) (o9 : Option Value) (o10 : Option Value), jX10_behind_77  fu v1 v2 v3 v4 v5 v6 v7 S0 = some r → Γ 0 0 77 [some (.ref (a0 0)), some (.int v1), some (.int v2), some (.int v3), some (.int v4), some (.int v5), some (.int (bI v6)), some (.int v7), o8, o9, o10] [] (wWB E a0 S0) := by
    intro v7 S0 o8 o9 o10 hf
    rw [jX10_behind_77] at hf
    refine g_iload h dX10_behind_77 rfl ?_
    refine g_if_eq h dX10_behind_79 rfl (fun c79 => ?_) (fun c79 => ?_)
    · replace hf := ifp_t c79 hf
      refine g_aload_n h dX10_behind_89 rfl ?_
      refine g_get h flX10_36 dX10_behind_90 0 rfl rfl ?_
      refine g_iload_n h dX10_behind_93 rfl ?_
      refine g_aload_n h dX10_behind_94 rfl ?_
      refine g_get h flX10_10 dX10_behind_95 0 rfl rfl ?_
      refine g_get h flX10_71 dX10_behind_98 1 rfl rfl ?_
      obtain ⟨r101, q101, hf⟩ := gbind hf
      refine g_cVr h (qX6_aboveIn (a0 := fun k => a0 (k + 44)) (a1 := fun k => a0 (k + 2)) q101) mX6_aboveIn lkX10_215 dX10_behind_101 rfl rfl ⟨Nat.zero_le _, Nat.zero_le _⟩ ⟨by decide, by decide⟩ (Nat.le_of_ble_eq_true rfl) [44, 45, 2, 3, 4, 5, 6] rfl rfl 44 rfl rfl ?_
      refine g_lstore (lv' := [some _, some _, some _, some _, some _, some _, some _, some _, _, some _, none]) h dX10_behind_104 (by decide) rfl ?_
      refine g_lload h dX10_behind_106 rfl ?_
      refine g_iload_n h dX10_behind_108 rfl ?_
      refine g_i2l h dX10_behind_109 ?_
      refine g_aload_n h dX10_behind_110 rfl ?_
      refine g_get h flX10_36 dX10_behind_111 0 rfl rfl ?_
      refine g_iload_n h dX10_behind_114 rfl ?_
      refine g_iload_n h dX10_behind_115 rfl ?_
      refine g_aload_n h dX10_behind_116 rfl ?_
      refine g_get h flX10_10 dX10_behind_117 0 rfl rfl ?_
      obtain ⟨r120, q120, hf⟩ := gbind hf
      refine g_cVr h (qX6_stepIn (a0 := fun k => a0 (k + 44)) (a1 := fun k => a0 (k + 1)) q120) mX6_stepIn lkX10_258 dX10_behind_120 rfl rfl ⟨Nat.zero_le _, Nat.zero_le _⟩ ⟨by decide, by decide⟩ (Nat.le_of_ble_eq_true rfl) [44, 45, 1, 2, 3, 4, 5, 6, 7, 8, 9, 10, 11, 12, 13, 14, 15, 16] rfl rfl 44 rfl rfl ?_
      refine g_lmul h dX10_behind_123 ?_
      refine g_ladd h dX10_behind_124 ?_
      refine g_lstore (lv' := [some _, some _, some _, some _, some _, some _, some _, some _, _, some _, none]) h dX10_behind_125 (by decide) rfl ?_
      refine g_lload h dX10_behind_127 rfl ?_
      refine g_iload h dX10_behind_129 rfl ?_
      refine g_i2l h dX10_behind_131 ?_
      refine g_aload_n h dX10_behind_132 rfl ?_
      refine g_get h flX10_36 dX10_behind_133 0 rfl rfl ?_
      refine g_iload_n h dX10_behind_136 rfl ?_
      refine g_iload h dX10_behind_137 rfl ?_
      refine g_aload_n h dX10_behind_139 rfl ?_
      refine g_get h flX10_10 dX10_behind_140 0 rfl rfl ?_
      obtain ⟨r143, q143, hf⟩ := gbind hf
      refine g_cVr h (qX6_stepIn (a0 := fun k => a0 (k + 44)) (a1 := fun k => a0 (k + 1)) q143) mX6_stepIn lkX10_258 dX10_behind_143 rfl rfl ⟨Nat.zero_le _, Nat.zero_le _⟩ ⟨by decide, by decide⟩ (Nat.le_of_ble_eq_true rfl) [44, 45, 1, 2, 3, 4, 5, 6, 7, 8, 9, 10, 11, 12, 13, 14, 15, 16] rfl rfl 44 rfl rfl ?_
      refine g_lmul h dX10_behind_146 ?_
      refine g_ladd h dX10_behind_147 ?_
      refine g_lstore (lv' := [some _, some _, some _, some _, some _, some _, some _, some _, _, some _, none]) h dX10_behind_148 (by decide) rfl ?_
      refine g_lload h dX10_behind_150 rfl ?_
      refine g_aload_n h dX10_behind_152 rfl ?_
      refine g_get h flX10_36 dX10_behind_153 0 rfl rfl ?_
      obtain ⟨r156, q156, hf⟩ := gbind hf
      refine g_cVr h (qX6_below (a0 := fun k => a0 (k + 44)) q156) mX6_below lkX10_207 dX10_behind_156 rfl rfl ⟨Nat.zero_le _, Nat.zero_le _⟩ ⟨by decide, by decide⟩ (Nat.le_of_ble_eq_true rfl) [44, 45] rfl rfl 44 rfl rfl ?_
      refine g_iload h dX10_behind_159 rfl ?_
      obtain ⟨r161, q161, hf⟩ := gbind hf
      refine g_cSr h (qX2_lowest q161) mX2_lowest lkX10_211 dX10_behind_161 rfl rfl ⟨Nat.zero_le _, Nat.zero_le _⟩ ⟨by decide, by decide⟩ (Nat.le_of_ble_eq_true rfl) [] rfl rfl ?_
      have er := Option.some.inj hf
      subst er
      exact g_lreturn h dX10_behind_164 rfl ⟨Nat.zero_le _, Nat.zero_le _, rfl, rfl, rfl⟩
    · replace hf := ifp_f c79 hf
      refine g_aload_n h dX10_behind_82 rfl ?_
      refine g_iload h dX10_behind_83 rfl ?_
      obtain ⟨r85, q85, hf⟩ := gbind hf
      refine g_cVw (ws' := wWB E a0 r85.2) h (qX10_refuse (a0 := a0) q85) mX10_refuse lkX10_67 dX10_behind_85 rfl rfl ⟨Nat.zero_le _, Nat.zero_le _⟩ ⟨by decide, by decide⟩ (Nat.le_of_ble_eq_true rfl) [0, 1, 2, 3, 4, 5, 6, 7, 8, 9, 10, 11, 12, 13, 14, 15, 16, 17, 18, 19, 20, 21, 22, 23, 24, 25, 26, 27, 28, 29, 30, 31, 32, 33, 34, 35, 36, 37, 38, 39, 40, 41, 42, 43, 44, 45, 46, 47, 48, 49, 50, 51, 52, 53, 54] rfl rfl 0 rfl rfl mgX10_7 ?_
      have er := Option.some.inj hf
      subst er
      exact g_lreturn h dX10_behind_88 rfl ⟨Nat.zero_le _, Nat.zero_le _, rfl, rfl, rfl⟩
  have jn74 : ∀ (S0 : sWB) (o7 : Option Value) (o8 : Option Value) (o9 : Option Value) (o10 : Option Value), jX10_behind_74  fu v1 v2 v3 v4 v5 v6 S0 = some r → Γ 0 0 74 [some (.ref (a0 0)), some (.int v1), some (.int v2), some (.int v3), some (.int v4), some (.int v5), some (.int (bI v6)), o7, o8, o9, o10] [] (wWB E a0 S0) := by
    intro S0 o7 o8 o9 o10 hf
    rw [jX10_behind_74] at hf
    refine g_iconst (v := 1) h dX10_behind_74 (by decide) ?_
    refine g_istore (lv' := [some _, some _, some _, some _, some _, some _, some _, some _, _, _, _]) h dX10_behind_75 (by decide) rfl ?_
    exact jn77 _ _ _ _ _ hf
  have jn40 : ∀ (v7 : Int32) (s0 : Int32) (S0 : sWB) (o8 : Option Value) (o9 : Option Value) (o10 : Option Value), jX10_behind_40  fu v1 v2 v3 v4 v5 v6 v7 s0 S0 = some r → Γ 0 0 40 [some (.ref (a0 0)), some (.int v1), some (.int v2), some (.int v3), some (.int v4), some (.int v5), some (.int (bI v6)), some (.int v7), o8, o9, o10] [.int s0] (wWB E a0 S0) := by
    intro v7 s0 S0 o8 o9 o10 hf
    rw [jX10_behind_40] at hf
    refine g_istore (lv' := [some _, some _, some _, some _, some _, some _, some _, some _, some _, _, _]) h dX10_behind_40 (by decide) rfl ?_
    refine g_iload h dX10_behind_42 rfl ?_
    refine g_if_ne h dX10_behind_44 rfl (fun c44 => ?_) (fun c44 => ?_)
    · replace hf := ifp_f c44 hf
      exact jn77 _ _ _ _ _ hf
    · replace hf := ifp_t c44 hf
      refine g_iload_n h dX10_behind_47 rfl ?_
      obtain ⟨r48, q48, hf⟩ := gbind hf
      refine g_cSr h (qX10_isState q48) mX10_isState lkX10_90 dX10_behind_48 rfl rfl ⟨Nat.zero_le _, Nat.zero_le _⟩ ⟨by decide, by decide⟩ (Nat.le_of_ble_eq_true rfl) [] rfl rfl ?_
      refine g_ifb_eq h dX10_behind_51 rfl (fun c51 => ?_) (fun c51 => ?_)
      · replace hf := ifb_f c51 hf
        exact jn74 _ _ _ _ _ hf
      · replace hf := ifb_t c51 hf
        refine g_iload h dX10_behind_54 rfl ?_
        refine g_if_eq h dX10_behind_56 rfl (fun c56 => ?_) (fun c56 => ?_)
        · replace hf := ifp_t c56 hf
          exact jn74 _ _ _ _ _ hf
        · replace hf := ifp_f c56 hf
          refine g_iload_n h dX10_behind_59 rfl ?_
          obtain ⟨r60, q60, hf⟩ := gbind hf
          refine g_cSr h (qX10_isSteps q60) mX10_isSteps lkX10_255 dX10_behind_60 rfl rfl ⟨Nat.zero_le _, Nat.zero_le _⟩ ⟨by decide, by decide⟩ (Nat.le_of_ble_eq_true rfl) [] rfl rfl ?_
          refine g_ifb_eq h dX10_behind_63 rfl (fun c63 => ?_) (fun c63 => ?_)
          · replace hf := ifb_f c63 hf
            exact jn74 _ _ _ _ _ hf
          · replace hf := ifb_t c63 hf
            refine g_iload h dX10_behind_66 rfl ?_
            obtain ⟨r68, q68, hf⟩ := gbind hf
            refine g_cSr h (qX10_isSteps q68) mX10_isSteps lkX10_255 dX10_behind_68 rfl rfl ⟨Nat.zero_le _, Nat.zero_le _⟩ ⟨by decide, by decide⟩ (Nat.le_of_ble_eq_true rfl) [] rfl rfl ?_
            refine g_ifb_ne h dX10_behind_71 rfl (fun c71 => ?_) (fun c71 => ?_)
            · replace hf := ifb_t c71 hf
              exact jn77 _ _ _ _ _ hf
            · replace hf := ifb_f c71 hf
              exact jn74 _ _ _ _ _ hf
  have jn39 : ∀ (v7 : Int32) (S0 : sWB) (o8 : Option Value) (o9 : Option Value) (o10 : Option Value), jX10_behind_39  fu v1 v2 v3 v4 v5 v6 v7 S0 = some r → Γ 0 0 39 [some (.ref (a0 0)), some (.int v1), some (.int v2), some (.int v3), some (.int v4), some (.int v5), some (.int (bI v6)), some (.int v7), o8, o9, o10] [] (wWB E a0 S0) := by
    intro v7 S0 o8 o9 o10 hf
    rw [jX10_behind_39] at hf
    refine g_iconst (v := 0) h dX10_behind_39 (by decide) ?_
    exact jn40 _ _ _ _ _ _ hf
  refine g_aload_n h dX10_behind_0 rfl ?_
  obtain ⟨r1, q1, hf⟩ := gbind hf
  refine g_cVr h (qX10_whyNoSizes (a0 := a0) q1) mX10_whyNoSizes lkX10_200 dX10_behind_1 rfl rfl ⟨Nat.zero_le _, Nat.zero_le _⟩ ⟨by decide, by decide⟩ (Nat.le_of_ble_eq_true rfl) [0, 1, 2, 3, 4, 5, 6, 7, 8, 9, 10, 11, 12, 13, 14, 15, 16, 17, 18, 19, 20, 21, 22, 23, 24, 25, 26, 27, 28, 29, 30, 31, 32, 33, 34, 35, 36, 37, 38, 39, 40, 41, 42, 43, 44, 45, 46, 47, 48, 49, 50, 51, 52, 53, 54] rfl rfl 0 rfl rfl ?_
  refine g_istore (lv' := [some _, some _, some _, some _, some _, some _, some _, some _, _, _, _]) h dX10_behind_4 (by decide) rfl ?_
  refine g_aload_n h dX10_behind_6 rfl ?_
  refine g_get h flX10_10 dX10_behind_7 0 rfl rfl ?_
  refine g_get h flX10_242 dX10_behind_10 1 rfl rfl ?_
  refine g_iload_n h dX10_behind_13 rfl ?_
  obtain ⟨r14, q14, hf⟩ := gbind hf
  refine g_cVr h (qX3_has (a0 := fun k => a0 (k + 10)) q14) mX3_has lkX10_120 dX10_behind_14 rfl rfl ⟨Nat.zero_le _, Nat.zero_le _⟩ ⟨by decide, by decide⟩ (Nat.le_of_ble_eq_true rfl) [10, 11, 12] rfl rfl 10 rfl rfl ?_
  refine g_ifb_eq h dX10_behind_17 rfl (fun c17 => ?_) (fun c17 => ?_)
  · replace hf := ifb_f c17 hf
    exact jn39 _ _ _ _ _ hf
  · replace hf := ifb_t c17 hf
    refine g_aload_n h dX10_behind_20 rfl ?_
    refine g_get h flX10_10 dX10_behind_21 0 rfl rfl ?_
    refine g_get h flX10_242 dX10_behind_24 1 rfl rfl ?_
    refine g_iload h dX10_behind_27 rfl ?_
    obtain ⟨r29, q29, hf⟩ := gbind hf
    refine g_cVr h (qX3_has (a0 := fun k => a0 (k + 10)) q29) mX3_has lkX10_120 dX10_behind_29 rfl rfl ⟨Nat.zero_le _, Nat.zero_le _⟩ ⟨by decide, by decide⟩ (Nat.le_of_ble_eq_true rfl) [10, 11, 12] rfl rfl 10 rfl rfl ?_
    refine g_ifb_eq h dX10_behind_32 rfl (fun c32 => ?_) (fun c32 => ?_)
    · replace hf := ifb_f c32 hf
      exact jn39 _ _ _ _ _ hf
    · replace hf := ifb_t c32 hf
      refine g_iconst (v := 1) h dX10_behind_35 (by decide) ?_
      refine g_goto h dX10_behind_36 rfl ?_
      exact jn40 _ _ _ _ _ _ hf
def lX10_worst_20  (fu : Nat) (v1 : Bool) : Nat → (Int64) → (Int32) → (sWB) → Option (Int64 × sWB)
  | 0, _, _, _ => none
  | j + 1, v3, v5, S0 => (if (36 : Int32) ≤ v5 then ((fX6_below S0.2.2.2.2.2.1).bind fun r77 => ((fX2_lowest v3 r77 v1).bind fun r81 => (some (r81, S0)))) else ((fX7_has S0.1.2.2.2 v5).bind fun r36 => (if r36 = true then ((fX6_aboveIn S0.2.2.2.2.2.1 S0.1.1 v5).bind fun r56 => ((fJ9_abs_067f4 r56).bind fun r59 => ((fJ9_max_f86c9 v3 r59).bind fun r62 => ((lX10_worst_20  fu v1 j) r62 (v5 + 1) S0)))) else ((lX10_worst_20  fu v1 j) v3 (v5 + 1) S0))))
def fX10_worst (fu : Nat) (S0 : sWB) (v1 : Bool) : Option (Int64 × sWB) := ((fX10_whyNoPaper fu S0).bind fun r1 => (if r1 = 0 then (lX10_worst_20  fu v1 fu (0 : Int64) (0 : Int32) S0) else ((fX10_refuse fu S0 r1).bind fun r11 => (some (r11.1, r11.2)))))
set_option maxHeartbeats 4000000 in
set_option maxRecDepth 100000 in
theorem qX10_worst {l : Launch} {E : gE} {a0 : Nat → Nat} {fu : Nat} {S0 : sWB} {v1 : Bool} {r : Int64 × sWB} (hf : fX10_worst fu S0 v1 = some r) : CtrF l yX10_worst cX10_worst 6 (some .long) (gR 4 94) E [.ref (a0 0), .int (bI v1)] (wWB E a0 S0) (some (.long r.1)) (wWB E a0 r.2) := by
  refine ctr_of false (plainFor_of_name (by decide)) (Nat.le_of_ble_eq_true rfl) (fun q => by cases q) (fun Γ h => ?_)
  refine g_lv [some _, some _, _, _, _, _] rfl ?_
  rw [fX10_worst] at hf
  have loop20 : ∀ (j20 : Nat) (v3 : Int64) (v5 : Int32) (S0 : sWB) (o2 : Option Value), lX10_worst_20  fu v1 j20 v3 v5 S0 = some r → Γ 0 0 20 [some (.ref (a0 0)), some (.int (bI v1)), o2, some (.long v3), none, some (.int v5)] [] (wWB E a0 S0) := by
    intro j20
    induction j20 with
    | zero => intro v3 v5 S0 o2 hf; exact gno hf
    | succ j20 ih20 =>
      intro v3 v5 S0 o2 hf
      rw [lX10_worst_20] at hf
      refine g_iload h dX10_worst_20 rfl ?_
      refine g_bipush (v := 36) h dX10_worst_22 (by decide) ?_
      refine g_ic_ge h dX10_worst_24 rfl (fun c24 => ?_) (fun c24 => ?_)
      · replace hf := ifp_t c24 hf
        refine g_lload_n h dX10_worst_72 rfl ?_
        refine g_aload_n h dX10_worst_73 rfl ?_
        refine g_get h flX10_36 dX10_worst_74 0 rfl rfl ?_
        obtain ⟨r77, q77, hf⟩ := gbind hf
        refine g_cVr h (qX6_below (a0 := fun k => a0 (k + 44)) q77) mX6_below lkX10_207 dX10_worst_77 rfl rfl ⟨Nat.zero_le _, Nat.zero_le _⟩ ⟨by decide, by decide⟩ (Nat.le_of_ble_eq_true rfl) [44, 45] rfl rfl 44 rfl rfl ?_
        refine g_iload_n h dX10_worst_80 rfl ?_
        obtain ⟨r81, q81, hf⟩ := gbind hf
        refine g_cSr h (qX2_lowest q81) mX2_lowest lkX10_211 dX10_worst_81 rfl rfl ⟨Nat.zero_le _, Nat.zero_le _⟩ ⟨by decide, by decide⟩ (Nat.le_of_ble_eq_true rfl) [] rfl rfl ?_
        have er := Option.some.inj hf
        subst er
        exact g_lreturn h dX10_worst_84 rfl ⟨Nat.zero_le _, Nat.zero_le _, rfl, rfl, rfl⟩
      · replace hf := ifp_f c24 hf
        refine g_aload_n h dX10_worst_27 rfl ?_
        refine g_get h flX10_10 dX10_worst_28 0 rfl rfl ?_
        refine g_get h flX10_245 dX10_worst_31 1 rfl rfl ?_
        refine g_iload h dX10_worst_34 rfl ?_
        obtain ⟨r36, q36, hf⟩ := gbind hf
        refine g_cVr h (qX7_has (a0 := fun k => a0 (k + 13)) q36) mX7_has lkX10_254 dX10_worst_36 rfl rfl ⟨Nat.zero_le _, Nat.zero_le _⟩ ⟨by decide, by decide⟩ (Nat.le_of_ble_eq_true rfl) [13, 14, 15, 16] rfl rfl 13 rfl rfl ?_
        refine g_ifb_eq h dX10_worst_39 rfl (fun c39 => ?_) (fun c39 => ?_)
        · replace hf := ifb_f c39 hf
          refine g_iinc (v := (v5 + 1)) (lv' := [some _, some _, _, some _, none, some _]) h dX10_worst_66 rfl rfl (by decide) rfl ?_
          refine g_goto h dX10_worst_69 rfl ?_
          exact ih20 _ _ _ _ hf
        · replace hf := ifb_t c39 hf
          refine g_lload_n h dX10_worst_42 rfl ?_
          refine g_aload_n h dX10_worst_43 rfl ?_
          refine g_get h flX10_36 dX10_worst_44 0 rfl rfl ?_
          refine g_iload h dX10_worst_47 rfl ?_
          refine g_aload_n h dX10_worst_49 rfl ?_
          refine g_get h flX10_10 dX10_worst_50 0 rfl rfl ?_
          refine g_get h flX10_71 dX10_worst_53 1 rfl rfl ?_
          obtain ⟨r56, q56, hf⟩ := gbind hf
          refine g_cVr h (qX6_aboveIn (a0 := fun k => a0 (k + 44)) (a1 := fun k => a0 (k + 2)) q56) mX6_aboveIn lkX10_215 dX10_worst_56 rfl rfl ⟨Nat.zero_le _, Nat.zero_le _⟩ ⟨by decide, by decide⟩ (Nat.le_of_ble_eq_true rfl) [44, 45, 2, 3, 4, 5, 6] rfl rfl 44 rfl rfl ?_
          obtain ⟨r59, q59, hf⟩ := gbind hf
          refine g_cSr h (qJ9_abs_067f4 q59) mJ9_abs_067f4 lkX10_265 dX10_worst_59 rfl rfl ⟨Nat.zero_le _, Nat.zero_le _⟩ ⟨by decide, by decide⟩ (Nat.le_of_ble_eq_true rfl) [] rfl rfl ?_
          obtain ⟨r62, q62, hf⟩ := gbind hf
          refine g_cSr h (qJ9_max_f86c9 q62) mJ9_max_f86c9 lkX10_271 dX10_worst_62 rfl rfl ⟨Nat.zero_le _, Nat.zero_le _⟩ ⟨by decide, by decide⟩ (Nat.le_of_ble_eq_true rfl) [] rfl rfl ?_
          refine g_lstore_n (lv' := [some _, some _, _, some _, none, some _]) h dX10_worst_65 (by decide) rfl ?_
          refine g_iinc (v := (v5 + 1)) (lv' := [some _, some _, _, some _, none, some _]) h dX10_worst_66 rfl rfl (by decide) rfl ?_
          refine g_goto h dX10_worst_69 rfl ?_
          exact ih20 _ _ _ _ hf
  refine g_aload_n h dX10_worst_0 rfl ?_
  obtain ⟨r1, q1, hf⟩ := gbind hf
  refine g_cVr h (qX10_whyNoPaper (a0 := a0) q1) mX10_whyNoPaper lkX10_262 dX10_worst_1 rfl rfl ⟨Nat.zero_le _, Nat.zero_le _⟩ ⟨by decide, by decide⟩ (Nat.le_of_ble_eq_true rfl) [0, 1, 2, 3, 4, 5, 6, 7, 8, 9, 10, 11, 12, 13, 14, 15, 16, 17, 18, 19, 20, 21, 22, 23, 24, 25, 26, 27, 28, 29, 30, 31, 32, 33, 34, 35, 36, 37, 38, 39, 40, 41, 42, 43, 44, 45, 46, 47, 48, 49, 50, 51, 52, 53, 54] rfl rfl 0 rfl rfl ?_
  refine g_istore_n (lv' := [some _, some _, some _, _, _, _]) h dX10_worst_4 (by decide) rfl ?_
  refine g_iload_n h dX10_worst_5 rfl ?_
  refine g_if_eq h dX10_worst_6 rfl (fun c6 => ?_) (fun c6 => ?_)
  · replace hf := ifp_t c6 hf
    refine g_lconst (v := 0) h dX10_worst_15 (by decide) ?_
    refine g_lstore_n (lv' := [some _, some _, some _, some _, none, _]) h dX10_worst_16 (by decide) rfl ?_
    refine g_iconst (v := 0) h dX10_worst_17 (by decide) ?_
    refine g_istore (lv' := [some _, some _, some _, some _, none, some _]) h dX10_worst_18 (by decide) rfl ?_
    exact loop20 _ _ _ _ _ hf
  · replace hf := ifp_f c6 hf
    refine g_aload_n h dX10_worst_9 rfl ?_
    refine g_iload_n h dX10_worst_10 rfl ?_
    obtain ⟨r11, q11, hf⟩ := gbind hf
    refine g_cVw (ws' := wWB E a0 r11.2) h (qX10_refuse (a0 := a0) q11) mX10_refuse lkX10_67 dX10_worst_11 rfl rfl ⟨Nat.zero_le _, Nat.zero_le _⟩ ⟨by decide, by decide⟩ (Nat.le_of_ble_eq_true rfl) [0, 1, 2, 3, 4, 5, 6, 7, 8, 9, 10, 11, 12, 13, 14, 15, 16, 17, 18, 19, 20, 21, 22, 23, 24, 25, 26, 27, 28, 29, 30, 31, 32, 33, 34, 35, 36, 37, 38, 39, 40, 41, 42, 43, 44, 45, 46, 47, 48, 49, 50, 51, 52, 53, 54] rfl rfl 0 rfl rfl mgX10_7 ?_
    have er := Option.some.inj hf
    subst er
    exact g_lreturn h dX10_worst_14 rfl ⟨Nat.zero_le _, Nat.zero_le _, rfl, rfl, rfl⟩
def fX10_best (fu : Nat) (S0 : sWB)  : Option (Int64 × sWB) := ((fX10_whyNoPaper fu S0).bind fun r1 => (if r1 = 0 then ((fX1_prepare fu S0.2.2.2.2.2.2.2.1 S0.1 S0.2.2.2.2.2.1).bind fun r27 => ((fX1_run fu (st_X10_7 S0 r27).2.2.2.2.2.2.2.1).bind fun r34 => (some (r34.1, (st_X10_7 (st_X10_7 S0 r27) r34.2))))) else ((fX10_refuse fu S0 r1).bind fun r11 => (some (r11.1, r11.2)))))
set_option maxRecDepth 100000 in
theorem mgX10_15 {E : gE} {S0 : sWB} {n0 : sMs} {a0 : Nat → Nat} : gmerge [46, 47, 48, 1, 2, 3, 4, 5, 6, 7, 8, 9, 10, 11, 12, 13, 14, 15, 16, 44, 45] (wMs E (a0 46) (a0 47) (a0 48) n0.1 n0.2.1 n0.2.2.1 n0.2.2.2.1 n0.2.2.2.2.1 n0.2.2.2.2.2 ++ wSt E (a0 1) (a0 2) (a0 3) (a0 4) (a0 5) (a0 6) (a0 7) (a0 8) (a0 9) (a0 10) (a0 11) (a0 12) (a0 13) (a0 14) (a0 15) (a0 16) (st_X10_7 S0 n0).1.1.1 (st_X10_7 S0 n0).1.1.2.1 (st_X10_7 S0 n0).1.1.2.2.1 (st_X10_7 S0 n0).1.1.2.2.2 (st_X10_7 S0 n0).1.2.1.1 (st_X10_7 S0 n0).1.2.1.2.1 (st_X10_7 S0 n0).1.2.1.2.2 (st_X10_7 S0 n0).1.2.2.1.1 (st_X10_7 S0 n0).1.2.2.1.2.1 (st_X10_7 S0 n0).1.2.2.1.2.2 (st_X10_7 S0 n0).1.2.2.2.1 (st_X10_7 S0 n0).1.2.2.2.2.1 (st_X10_7 S0 n0).1.2.2.2.2.2 ++ wSz E (a0 44) (a0 45) (st_X10_7 S0 n0).2.2.2.2.2.1.1 (st_X10_7 S0 n0).2.2.2.2.2.1.2.1 (st_X10_7 S0 n0).2.2.2.2.2.1.2.2.1 (st_X10_7 S0 n0).2.2.2.2.2.1.2.2.2.1 (st_X10_7 S0 n0).2.2.2.2.2.1.2.2.2.2.1 (st_X10_7 S0 n0).2.2.2.2.2.1.2.2.2.2.2) (wWB E a0 S0) = wWB E a0 (st_X10_7 S0 n0) := by
  have h0 : gmerge [46, 47, 48] (wMs E (a0 46) (a0 47) (a0 48) n0.1 n0.2.1 n0.2.2.1 n0.2.2.2.1 n0.2.2.2.2.1 n0.2.2.2.2.2) (wWB E a0 S0) = wWB E a0 (st_X10_7 S0 n0) := gmerge_cut 46 3 (Nat.le_of_ble_eq_true rfl) rfl rfl
  have h1 : gmerge [1, 2, 3, 4, 5, 6, 7, 8, 9, 10, 11, 12, 13, 14, 15, 16] (wSt E (a0 1) (a0 2) (a0 3) (a0 4) (a0 5) (a0 6) (a0 7) (a0 8) (a0 9) (a0 10) (a0 11) (a0 12) (a0 13) (a0 14) (a0 15) (a0 16) (st_X10_7 S0 n0).1.1.1 (st_X10_7 S0 n0).1.1.2.1 (st_X10_7 S0 n0).1.1.2.2.1 (st_X10_7 S0 n0).1.1.2.2.2 (st_X10_7 S0 n0).1.2.1.1 (st_X10_7 S0 n0).1.2.1.2.1 (st_X10_7 S0 n0).1.2.1.2.2 (st_X10_7 S0 n0).1.2.2.1.1 (st_X10_7 S0 n0).1.2.2.1.2.1 (st_X10_7 S0 n0).1.2.2.1.2.2 (st_X10_7 S0 n0).1.2.2.2.1 (st_X10_7 S0 n0).1.2.2.2.2.1 (st_X10_7 S0 n0).1.2.2.2.2.2) (wWB E a0 (st_X10_7 S0 n0)) = wWB E a0 (st_X10_7 S0 n0) := gmerge_self _ _ _ rfl
  have h2 : gmerge [44, 45] (wSz E (a0 44) (a0 45) (st_X10_7 S0 n0).2.2.2.2.2.1.1 (st_X10_7 S0 n0).2.2.2.2.2.1.2.1 (st_X10_7 S0 n0).2.2.2.2.2.1.2.2.1 (st_X10_7 S0 n0).2.2.2.2.2.1.2.2.2.1 (st_X10_7 S0 n0).2.2.2.2.2.1.2.2.2.2.1 (st_X10_7 S0 n0).2.2.2.2.2.1.2.2.2.2.2) (wWB E a0 (st_X10_7 S0 n0)) = wWB E a0 (st_X10_7 S0 n0) := gmerge_self _ _ _ rfl
  exact gmerge_app3 h0 h1 h2 rfl rfl rfl
set_option maxRecDepth 100000 in
theorem mgX10_16 {E : gE} {S0 : sWB} {n0 : sMs} {a0 : Nat → Nat} : gmerge [46, 47, 48] (wMs E (a0 46) (a0 47) (a0 48) n0.1 n0.2.1 n0.2.2.1 n0.2.2.2.1 n0.2.2.2.2.1 n0.2.2.2.2.2) (wWB E a0 S0) = wWB E a0 (st_X10_7 S0 n0) := by
  have h0 : gmerge [46, 47, 48] (wMs E (a0 46) (a0 47) (a0 48) n0.1 n0.2.1 n0.2.2.1 n0.2.2.2.1 n0.2.2.2.2.1 n0.2.2.2.2.2) (wWB E a0 S0) = wWB E a0 (st_X10_7 S0 n0) := gmerge_cut 46 3 (Nat.le_of_ble_eq_true rfl) rfl rfl
  exact h0
set_option maxHeartbeats 4000000 in
set_option maxRecDepth 100000 in
theorem qX10_best {l : Launch} {E : gE} {a0 : Nat → Nat} {fu : Nat} {S0 : sWB}  {r : Int64 × sWB} (hf : fX10_best fu S0  = some r) : CtrF l yX10_best cX10_best 2 (some .long) (gR 5 118) E [.ref (a0 0)] (wWB E a0 S0) (some (.long r.1)) (wWB E a0 r.2) := by
  refine ctr_of false (plainFor_of_name (by decide)) (Nat.le_of_ble_eq_true rfl) (fun q => by cases q) (fun Γ h => ?_)
  refine g_lv [some _, _] rfl ?_
  rw [fX10_best] at hf
  refine g_aload_n h dX10_best_0 rfl ?_
  obtain ⟨r1, q1, hf⟩ := gbind hf
  refine g_cVr h (qX10_whyNoPaper (a0 := a0) q1) mX10_whyNoPaper lkX10_262 dX10_best_1 rfl rfl ⟨Nat.zero_le _, Nat.zero_le _⟩ ⟨by decide, by decide⟩ (Nat.le_of_ble_eq_true rfl) [0, 1, 2, 3, 4, 5, 6, 7, 8, 9, 10, 11, 12, 13, 14, 15, 16, 17, 18, 19, 20, 21, 22, 23, 24, 25, 26, 27, 28, 29, 30, 31, 32, 33, 34, 35, 36, 37, 38, 39, 40, 41, 42, 43, 44, 45, 46, 47, 48, 49, 50, 51, 52, 53, 54] rfl rfl 0 rfl rfl ?_
  refine g_istore_n (lv' := [some _, some _]) h dX10_best_4 (by decide) rfl ?_
  refine g_iload_n h dX10_best_5 rfl ?_
  refine g_if_eq h dX10_best_6 rfl (fun c6 => ?_) (fun c6 => ?_)
  · replace hf := ifp_t c6 hf
    refine g_aload_n h dX10_best_15 rfl ?_
    refine g_get h flX10_43 dX10_best_16 0 rfl rfl ?_
    refine g_aload_n h dX10_best_19 rfl ?_
    refine g_get h flX10_10 dX10_best_20 0 rfl rfl ?_
    refine g_aload_n h dX10_best_23 rfl ?_
    refine g_get h flX10_36 dX10_best_24 0 rfl rfl ?_
    obtain ⟨r27, q27, hf⟩ := gbind hf
    refine g_cVv (ws' := wWB E a0 (st_X10_7 S0 r27)) h (qX1_prepare (a0 := fun k => a0 (k + 46)) (a1 := fun k => a0 (k + 1)) (a2 := fun k => a0 (k + 44)) q27) mX1_prepare lkX10_275 dX10_best_27 rfl rfl ⟨Nat.zero_le _, Nat.zero_le _⟩ ⟨by decide, by decide⟩ (Nat.le_of_ble_eq_true rfl) [46, 47, 48, 1, 2, 3, 4, 5, 6, 7, 8, 9, 10, 11, 12, 13, 14, 15, 16, 44, 45] rfl rfl 46 rfl rfl mgX10_15 ?_
    refine g_aload_n h dX10_best_30 rfl ?_
    refine g_get h flX10_43 dX10_best_31 0 rfl rfl ?_
    obtain ⟨r34, q34, hf⟩ := gbind hf
    refine g_cVw (ws' := wWB E a0 (st_X10_7 (st_X10_7 S0 r27) r34.2)) h (qX1_run (a0 := fun k => a0 (k + 46)) q34) mX1_run lkX10_279 dX10_best_34 rfl rfl ⟨Nat.zero_le _, Nat.zero_le _⟩ ⟨by decide, by decide⟩ (Nat.le_of_ble_eq_true rfl) [46, 47, 48] rfl rfl 46 rfl rfl mgX10_16 ?_
    have er := Option.some.inj hf
    subst er
    exact g_lreturn h dX10_best_37 rfl ⟨Nat.zero_le _, Nat.zero_le _, rfl, rfl, rfl⟩
  · replace hf := ifp_f c6 hf
    refine g_aload_n h dX10_best_9 rfl ?_
    refine g_iload_n h dX10_best_10 rfl ?_
    obtain ⟨r11, q11, hf⟩ := gbind hf
    refine g_cVw (ws' := wWB E a0 r11.2) h (qX10_refuse (a0 := a0) q11) mX10_refuse lkX10_67 dX10_best_11 rfl rfl ⟨Nat.zero_le _, Nat.zero_le _⟩ ⟨by decide, by decide⟩ (Nat.le_of_ble_eq_true rfl) [0, 1, 2, 3, 4, 5, 6, 7, 8, 9, 10, 11, 12, 13, 14, 15, 16, 17, 18, 19, 20, 21, 22, 23, 24, 25, 26, 27, 28, 29, 30, 31, 32, 33, 34, 35, 36, 37, 38, 39, 40, 41, 42, 43, 44, 45, 46, 47, 48, 49, 50, 51, 52, 53, 54] rfl rfl 0 rfl rfl mgX10_7 ?_
    have er := Option.some.inj hf
    subst er
    exact g_lreturn h dX10_best_14 rfl ⟨Nat.zero_le _, Nat.zero_le _, rfl, rfl, rfl⟩
def lX10_paper_17  (fu : Nat)  : Nat → (Int32) → (sWB) → Option (Int64 × sWB)
  | 0, _, _ => none
  | j + 1, v2, S0 => (if (36 : Int32) ≤ v2 then (some ((1 : Int64), S0)) else ((fX7_has S0.1.2.2.2 v2).bind fun r31 => (if r31 = true then ((fX6_aboveIn S0.2.2.2.2.2.1 S0.1.1 v2).bind fun r49 => ((fX6_below S0.2.2.2.2.2.1).bind fun r66 => ((fX7_holds S0.1.2.2.2 v2 r49 r66).bind fun r69 => (if r69 = true then ((lX10_paper_17  fu  j) (v2 + 1) S0) else (some (((v2 - (1000 : Int32)).toInt64), S0)))))) else ((lX10_paper_17  fu  j) (v2 + 1) S0))))
def fX10_paper (fu : Nat) (S0 : sWB)  : Option (Int64 × sWB) := ((fX10_whyNoPaper fu S0).bind fun r1 => (if r1 = 0 then (lX10_paper_17  fu  fu (0 : Int32) S0) else ((fX10_refuse fu S0 r1).bind fun r11 => (some (r11.1, r11.2)))))
set_option maxHeartbeats 4000000 in
set_option maxRecDepth 100000 in
theorem qX10_paper {l : Launch} {E : gE} {a0 : Nat → Nat} {fu : Nat} {S0 : sWB}  {r : Int64 × sWB} (hf : fX10_paper fu S0  = some r) : CtrF l yX10_paper cX10_paper 5 (some .long) (gR 4 94) E [.ref (a0 0)] (wWB E a0 S0) (some (.long r.1)) (wWB E a0 r.2) := by
  refine ctr_of false (plainFor_of_name (by decide)) (Nat.le_of_ble_eq_true rfl) (fun q => by cases q) (fun Γ h => ?_)
  refine g_lv [some _, _, _, _, _] rfl ?_
  rw [fX10_paper] at hf
  have loop17 : ∀ (j17 : Nat) (v2 : Int32) (S0 : sWB) (o1 : Option Value) (o3 : Option Value) (o4 : Option Value), lX10_paper_17  fu  j17 v2 S0 = some r → Γ 0 0 17 [some (.ref (a0 0)), o1, some (.int v2), o3, o4] [] (wWB E a0 S0) := by
    intro j17
    induction j17 with
    | zero => intro v2 S0 o1 o3 o4 hf; exact gno hf
    | succ j17 ih17 =>
      intro v2 S0 o1 o3 o4 hf
      rw [lX10_paper_17] at hf
      refine g_iload_n h dX10_paper_17 rfl ?_
      refine g_bipush (v := 36) h dX10_paper_18 (by decide) ?_
      refine g_ic_ge h dX10_paper_20 rfl (fun c20 => ?_) (fun c20 => ?_)
      · replace hf := ifp_t c20 hf
        refine g_lconst (v := 1) h dX10_paper_88 (by decide) ?_
        have er := Option.some.inj hf
        subst er
        exact g_lreturn h dX10_paper_89 rfl ⟨Nat.zero_le _, Nat.zero_le _, rfl, rfl, rfl⟩
      · replace hf := ifp_f c20 hf
        refine g_aload_n h dX10_paper_23 rfl ?_
        refine g_get h flX10_10 dX10_paper_24 0 rfl rfl ?_
        refine g_get h flX10_245 dX10_paper_27 1 rfl rfl ?_
        refine g_iload_n h dX10_paper_30 rfl ?_
        obtain ⟨r31, q31, hf⟩ := gbind hf
        refine g_cVr h (qX7_has (a0 := fun k => a0 (k + 13)) q31) mX7_has lkX10_254 dX10_paper_31 rfl rfl ⟨Nat.zero_le _, Nat.zero_le _⟩ ⟨by decide, by decide⟩ (Nat.le_of_ble_eq_true rfl) [13, 14, 15, 16] rfl rfl 13 rfl rfl ?_
        refine g_ifb_eq h dX10_paper_34 rfl (fun c34 => ?_) (fun c34 => ?_)
        · replace hf := ifb_f c34 hf
          refine g_iinc (v := (v2 + 1)) (lv' := [some _, _, some _, _, _]) h dX10_paper_82 rfl rfl (by decide) rfl ?_
          refine g_goto h dX10_paper_85 rfl ?_
          exact ih17 _ _ _ _ _ hf
        · replace hf := ifb_t c34 hf
          refine g_aload_n h dX10_paper_37 rfl ?_
          refine g_get h flX10_36 dX10_paper_38 0 rfl rfl ?_
          refine g_iload_n h dX10_paper_41 rfl ?_
          refine g_aload_n h dX10_paper_42 rfl ?_
          refine g_get h flX10_10 dX10_paper_43 0 rfl rfl ?_
          refine g_get h flX10_71 dX10_paper_46 1 rfl rfl ?_
          obtain ⟨r49, q49, hf⟩ := gbind hf
          refine g_cVr h (qX6_aboveIn (a0 := fun k => a0 (k + 44)) (a1 := fun k => a0 (k + 2)) q49) mX6_aboveIn lkX10_215 dX10_paper_49 rfl rfl ⟨Nat.zero_le _, Nat.zero_le _⟩ ⟨by decide, by decide⟩ (Nat.le_of_ble_eq_true rfl) [44, 45, 2, 3, 4, 5, 6] rfl rfl 44 rfl rfl ?_
          refine g_lstore_n (lv' := [some _, _, some _, some _, none]) h dX10_paper_52 (by decide) rfl ?_
          refine g_aload_n h dX10_paper_53 rfl ?_
          refine g_get h flX10_10 dX10_paper_54 0 rfl rfl ?_
          refine g_get h flX10_245 dX10_paper_57 1 rfl rfl ?_
          refine g_iload_n h dX10_paper_60 rfl ?_
          refine g_lload_n h dX10_paper_61 rfl ?_
          refine g_aload_n h dX10_paper_62 rfl ?_
          refine g_get h flX10_36 dX10_paper_63 0 rfl rfl ?_
          obtain ⟨r66, q66, hf⟩ := gbind hf
          refine g_cVr h (qX6_below (a0 := fun k => a0 (k + 44)) q66) mX6_below lkX10_207 dX10_paper_66 rfl rfl ⟨Nat.zero_le _, Nat.zero_le _⟩ ⟨by decide, by decide⟩ (Nat.le_of_ble_eq_true rfl) [44, 45] rfl rfl 44 rfl rfl ?_
          obtain ⟨r69, q69, hf⟩ := gbind hf
          refine g_cVr h (qX7_holds (a0 := fun k => a0 (k + 13)) q69) mX7_holds lkX10_282 dX10_paper_69 rfl rfl ⟨Nat.zero_le _, Nat.zero_le _⟩ ⟨by decide, by decide⟩ (Nat.le_of_ble_eq_true rfl) [13, 14, 15, 16] rfl rfl 13 rfl rfl ?_
          refine g_ifb_ne h dX10_paper_72 rfl (fun c72 => ?_) (fun c72 => ?_)
          · replace hf := ifb_t c72 hf
            refine g_iinc (v := (v2 + 1)) (lv' := [some _, _, some _, some _, none]) h dX10_paper_82 rfl rfl (by decide) rfl ?_
            refine g_goto h dX10_paper_85 rfl ?_
            exact ih17 _ _ _ _ _ hf
          · replace hf := ifb_f c72 hf
            refine g_iload_n h dX10_paper_75 rfl ?_
            refine g_sipush (v := 1000) h dX10_paper_76 (by decide) ?_
            refine g_isub h dX10_paper_79 ?_
            refine g_i2l h dX10_paper_80 ?_
            have er := Option.some.inj hf
            subst er
            exact g_lreturn h dX10_paper_81 rfl ⟨Nat.zero_le _, Nat.zero_le _, rfl, rfl, rfl⟩
  refine g_aload_n h dX10_paper_0 rfl ?_
  obtain ⟨r1, q1, hf⟩ := gbind hf
  refine g_cVr h (qX10_whyNoPaper (a0 := a0) q1) mX10_whyNoPaper lkX10_262 dX10_paper_1 rfl rfl ⟨Nat.zero_le _, Nat.zero_le _⟩ ⟨by decide, by decide⟩ (Nat.le_of_ble_eq_true rfl) [0, 1, 2, 3, 4, 5, 6, 7, 8, 9, 10, 11, 12, 13, 14, 15, 16, 17, 18, 19, 20, 21, 22, 23, 24, 25, 26, 27, 28, 29, 30, 31, 32, 33, 34, 35, 36, 37, 38, 39, 40, 41, 42, 43, 44, 45, 46, 47, 48, 49, 50, 51, 52, 53, 54] rfl rfl 0 rfl rfl ?_
  refine g_istore_n (lv' := [some _, some _, _, _, _]) h dX10_paper_4 (by decide) rfl ?_
  refine g_iload_n h dX10_paper_5 rfl ?_
  refine g_if_eq h dX10_paper_6 rfl (fun c6 => ?_) (fun c6 => ?_)
  · replace hf := ifp_t c6 hf
    refine g_iconst (v := 0) h dX10_paper_15 (by decide) ?_
    refine g_istore_n (lv' := [some _, some _, some _, _, _]) h dX10_paper_16 (by decide) rfl ?_
    exact loop17 _ _ _ _ _ _ hf
  · replace hf := ifp_f c6 hf
    refine g_aload_n h dX10_paper_9 rfl ?_
    refine g_iload_n h dX10_paper_10 rfl ?_
    obtain ⟨r11, q11, hf⟩ := gbind hf
    refine g_cVw (ws' := wWB E a0 r11.2) h (qX10_refuse (a0 := a0) q11) mX10_refuse lkX10_67 dX10_paper_11 rfl rfl ⟨Nat.zero_le _, Nat.zero_le _⟩ ⟨by decide, by decide⟩ (Nat.le_of_ble_eq_true rfl) [0, 1, 2, 3, 4, 5, 6, 7, 8, 9, 10, 11, 12, 13, 14, 15, 16, 17, 18, 19, 20, 21, 22, 23, 24, 25, 26, 27, 28, 29, 30, 31, 32, 33, 34, 35, 36, 37, 38, 39, 40, 41, 42, 43, 44, 45, 46, 47, 48, 49, 50, 51, 52, 53, 54] rfl rfl 0 rfl rfl mgX10_7 ?_
    have er := Option.some.inj hf
    subst er
    exact g_lreturn h dX10_paper_14 rfl ⟨Nat.zero_le _, Nat.zero_le _, rfl, rfl, rfl⟩
def fX10_day (fu : Nat) (S0 : sWB) (v1 : Int32) (v2 : Int32) : Option (Int64 × sWB) := ((fX10_isState v1).bind fun r1 => (if r1 = true then ((fX2_within v2 (-1000 : Int32) (1000 : Int32)).bind fun r14 => (if r14 = true then ((fX3_isFull 60 S0.2.2.2.2.2.2.2.2.1).bind fun r33 => (if r33 = true then ((fX10_refuse fu S0 (5 : Int32)).bind fun r41 => (some (r41.1, r41.2))) else ((fX3_append 60 S0.2.2.2.2.2.2.2.2.1 v1 v2).bind fun r54 => (some (((r54.1 + (1 : Int32)).toInt64), (st_X10_8_0 S0 r54.2)))))) else ((fX10_refuse fu S0 (1 : Int32)).bind fun r22 => (some (r22.1, r22.2))))) else ((fX10_refuse fu S0 (1 : Int32)).bind fun r22 => (some (r22.1, r22.2)))))
set_option maxRecDepth 100000 in
theorem mgX10_17 {E : gE} {S0 : sWB} {n0 : sPr} {a0 : Nat → Nat} : gmerge [50, 51, 52] (wPr E (a0 50) (a0 51) (a0 52) 60 n0.1 n0.2.1 n0.2.2) (wWB E a0 S0) = wWB E a0 (st_X10_8_0 S0 n0) := by
  have h0 : gmerge [50, 51, 52] (wPr E (a0 50) (a0 51) (a0 52) 60 n0.1 n0.2.1 n0.2.2) (wWB E a0 S0) = wWB E a0 (st_X10_8_0 S0 n0) := gmerge_cut 50 3 (Nat.le_of_ble_eq_true rfl) rfl rfl
  exact h0
set_option maxHeartbeats 4000000 in
set_option maxRecDepth 100000 in
theorem qX10_day {l : Launch} {E : gE} {a0 : Nat → Nat} {fu : Nat} {S0 : sWB} {v1 : Int32} {v2 : Int32} {r : Int64 × sWB} (hf : fX10_day fu S0 v1 v2 = some r) : CtrF l yX10_day cX10_day 3 (some .long) (gR 2 43) E [.ref (a0 0), .int v1, .int v2] (wWB E a0 S0) (some (.long r.1)) (wWB E a0 r.2) := by
  refine ctr_of false (plainFor_of_name (by decide)) (Nat.le_of_ble_eq_true rfl) (fun q => by cases q) (fun Γ h => ?_)
  refine g_lv [some _, some _, some _] rfl ?_
  rw [fX10_day] at hf
  refine g_iload_n h dX10_day_0 rfl ?_
  obtain ⟨r1, q1, hf⟩ := gbind hf
  refine g_cSr h (qX10_isState q1) mX10_isState lkX10_90 dX10_day_1 rfl rfl ⟨Nat.zero_le _, Nat.zero_le _⟩ ⟨by decide, by decide⟩ (Nat.le_of_ble_eq_true rfl) [] rfl rfl ?_
  refine g_ifb_eq h dX10_day_4 rfl (fun c4 => ?_) (fun c4 => ?_)
  · replace hf := ifb_f c4 hf
    refine g_aload_n h dX10_day_20 rfl ?_
    refine g_iconst (v := 1) h dX10_day_21 (by decide) ?_
    obtain ⟨r22, q22, hf⟩ := gbind hf
    refine g_cVw (ws' := wWB E a0 r22.2) h (qX10_refuse (a0 := a0) q22) mX10_refuse lkX10_67 dX10_day_22 rfl rfl ⟨Nat.zero_le _, Nat.zero_le _⟩ ⟨by decide, by decide⟩ (Nat.le_of_ble_eq_true rfl) [0, 1, 2, 3, 4, 5, 6, 7, 8, 9, 10, 11, 12, 13, 14, 15, 16, 17, 18, 19, 20, 21, 22, 23, 24, 25, 26, 27, 28, 29, 30, 31, 32, 33, 34, 35, 36, 37, 38, 39, 40, 41, 42, 43, 44, 45, 46, 47, 48, 49, 50, 51, 52, 53, 54] rfl rfl 0 rfl rfl mgX10_7 ?_
    have er := Option.some.inj hf
    subst er
    exact g_lreturn h dX10_day_25 rfl ⟨Nat.zero_le _, Nat.zero_le _, rfl, rfl, rfl⟩
  · replace hf := ifb_t c4 hf
    refine g_iload_n h dX10_day_7 rfl ?_
    refine g_sipush (v := (-1000)) h dX10_day_8 (by decide) ?_
    refine g_sipush (v := 1000) h dX10_day_11 (by decide) ?_
    obtain ⟨r14, q14, hf⟩ := gbind hf
    refine g_cSr h (qX2_within q14) mX2_within lkX10_129 dX10_day_14 rfl rfl ⟨Nat.zero_le _, Nat.zero_le _⟩ ⟨by decide, by decide⟩ (Nat.le_of_ble_eq_true rfl) [] rfl rfl ?_
    refine g_ifb_ne h dX10_day_17 rfl (fun c17 => ?_) (fun c17 => ?_)
    · replace hf := ifb_t c17 hf
      refine g_aload_n h dX10_day_26 rfl ?_
      refine g_get h flX10_50 dX10_day_27 0 rfl rfl ?_
      refine g_get h flX10_286 dX10_day_30 49 rfl rfl ?_
      obtain ⟨r33, q33, hf⟩ := gbind hf
      refine g_cVr h (qX3_isFull (a0 := fun k => a0 (k + 50)) q33) mX3_isFull lkX10_115 dX10_day_33 rfl rfl ⟨Nat.zero_le _, Nat.zero_le _⟩ ⟨by decide, by decide⟩ (Nat.le_of_ble_eq_true rfl) [50, 51, 52] rfl rfl 50 rfl rfl ?_
      refine g_ifb_eq h dX10_day_36 rfl (fun c36 => ?_) (fun c36 => ?_)
      · replace hf := ifb_f c36 hf
        refine g_aload_n h dX10_day_45 rfl ?_
        refine g_get h flX10_50 dX10_day_46 0 rfl rfl ?_
        refine g_get h flX10_286 dX10_day_49 49 rfl rfl ?_
        refine g_iload_n h dX10_day_52 rfl ?_
        refine g_iload_n h dX10_day_53 rfl ?_
        obtain ⟨r54, q54, hf⟩ := gbind hf
        refine g_cVw (ws' := wWB E a0 (st_X10_8_0 S0 r54.2)) h (qX3_append (a0 := fun k => a0 (k + 50)) q54) mX3_append lkX10_118 dX10_day_54 rfl rfl ⟨Nat.zero_le _, Nat.zero_le _⟩ ⟨by decide, by decide⟩ (Nat.le_of_ble_eq_true rfl) [50, 51, 52] rfl rfl 50 rfl rfl mgX10_17 ?_
        refine g_iconst (v := 1) h dX10_day_57 (by decide) ?_
        refine g_iadd h dX10_day_58 ?_
        refine g_i2l h dX10_day_59 ?_
        have er := Option.some.inj hf
        subst er
        exact g_lreturn h dX10_day_60 rfl ⟨Nat.zero_le _, Nat.zero_le _, rfl, rfl, rfl⟩
      · replace hf := ifb_t c36 hf
        refine g_aload_n h dX10_day_39 rfl ?_
        refine g_iconst (v := 5) h dX10_day_40 (by decide) ?_
        obtain ⟨r41, q41, hf⟩ := gbind hf
        refine g_cVw (ws' := wWB E a0 r41.2) h (qX10_refuse (a0 := a0) q41) mX10_refuse lkX10_67 dX10_day_41 rfl rfl ⟨Nat.zero_le _, Nat.zero_le _⟩ ⟨by decide, by decide⟩ (Nat.le_of_ble_eq_true rfl) [0, 1, 2, 3, 4, 5, 6, 7, 8, 9, 10, 11, 12, 13, 14, 15, 16, 17, 18, 19, 20, 21, 22, 23, 24, 25, 26, 27, 28, 29, 30, 31, 32, 33, 34, 35, 36, 37, 38, 39, 40, 41, 42, 43, 44, 45, 46, 47, 48, 49, 50, 51, 52, 53, 54] rfl rfl 0 rfl rfl mgX10_7 ?_
        have er := Option.some.inj hf
        subst er
        exact g_lreturn h dX10_day_44 rfl ⟨Nat.zero_le _, Nat.zero_le _, rfl, rfl, rfl⟩
    · replace hf := ifb_f c17 hf
      refine g_aload_n h dX10_day_20 rfl ?_
      refine g_iconst (v := 1) h dX10_day_21 (by decide) ?_
      obtain ⟨r22, q22, hf⟩ := gbind hf
      refine g_cVw (ws' := wWB E a0 r22.2) h (qX10_refuse (a0 := a0) q22) mX10_refuse lkX10_67 dX10_day_22 rfl rfl ⟨Nat.zero_le _, Nat.zero_le _⟩ ⟨by decide, by decide⟩ (Nat.le_of_ble_eq_true rfl) [0, 1, 2, 3, 4, 5, 6, 7, 8, 9, 10, 11, 12, 13, 14, 15, 16, 17, 18, 19, 20, 21, 22, 23, 24, 25, 26, 27, 28, 29, 30, 31, 32, 33, 34, 35, 36, 37, 38, 39, 40, 41, 42, 43, 44, 45, 46, 47, 48, 49, 50, 51, 52, 53, 54] rfl rfl 0 rfl rfl mgX10_7 ?_
      have er := Option.some.inj hf
      subst er
      exact g_lreturn h dX10_day_25 rfl ⟨Nat.zero_le _, Nat.zero_le _, rfl, rfl, rfl⟩
def fX10_anew (fu : Nat) (S0 : sWB)  : Option (Int64 × sWB) := ((fX3_length 60 S0.2.2.2.2.2.2.2.2.1).bind fun r7 => ((fX3_clear 60 S0.2.2.2.2.2.2.2.2.1).bind fun r18 => (some ((r7.toInt64), (st_X10_8_0 S0 r18)))))
set_option maxHeartbeats 4000000 in
set_option maxRecDepth 100000 in
theorem qX10_anew {l : Launch} {E : gE} {a0 : Nat → Nat} {fu : Nat} {S0 : sWB}  {r : Int64 × sWB} (hf : fX10_anew fu S0  = some r) : CtrF l yX10_anew cX10_anew 2 (some .long) (gR 1 20) E [.ref (a0 0)] (wWB E a0 S0) (some (.long r.1)) (wWB E a0 r.2) := by
  refine ctr_of false (plainFor_of_name (by decide)) (Nat.le_of_ble_eq_true rfl) (fun q => by cases q) (fun Γ h => ?_)
  refine g_lv [some _, _] rfl ?_
  rw [fX10_anew] at hf
  refine g_aload_n h dX10_anew_0 rfl ?_
  refine g_get h flX10_50 dX10_anew_1 0 rfl rfl ?_
  refine g_get h flX10_286 dX10_anew_4 49 rfl rfl ?_
  obtain ⟨r7, q7, hf⟩ := gbind hf
  refine g_cVr h (qX3_length (a0 := fun k => a0 (k + 50)) q7) mX3_length lkX10_125 dX10_anew_7 rfl rfl ⟨Nat.zero_le _, Nat.zero_le _⟩ ⟨by decide, by decide⟩ (Nat.le_of_ble_eq_true rfl) [50, 51, 52] rfl rfl 50 rfl rfl ?_
  refine g_istore_n (lv' := [some _, some _]) h dX10_anew_10 (by decide) rfl ?_
  refine g_aload_n h dX10_anew_11 rfl ?_
  refine g_get h flX10_50 dX10_anew_12 0 rfl rfl ?_
  refine g_get h flX10_286 dX10_anew_15 49 rfl rfl ?_
  obtain ⟨r18, q18, hf⟩ := gbind hf
  refine g_cVv (ws' := wWB E a0 (st_X10_8_0 S0 r18)) h (qX3_clear (a0 := fun k => a0 (k + 50)) q18) mX3_clear lkX10_289 dX10_anew_18 rfl rfl ⟨Nat.zero_le _, Nat.zero_le _⟩ ⟨by decide, by decide⟩ (Nat.le_of_ble_eq_true rfl) [50, 51, 52] rfl rfl 50 rfl rfl mgX10_17 ?_
  refine g_iload_n h dX10_anew_21 rfl ?_
  refine g_i2l h dX10_anew_22 ?_
  have er := Option.some.inj hf
  subst er
  exact g_lreturn h dX10_anew_23 rfl ⟨Nat.zero_le _, Nat.zero_le _, rfl, rfl, rfl⟩
