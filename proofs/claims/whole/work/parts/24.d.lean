def fX10_mean (fu : Nat) (S0 : sWB) (v1 : Int32) (v2 : Bool) : Option (Int64 × sWB) := ((fX9_isPlace v1).bind fun r1 => (if r1 = true then ((fX9_daysAt S0.2.2.2.2.2.2.2.2.1 v1).bind fun r18 => (if r18 = 0 then ((fX10_refuse fu S0 (6 : Int32)).bind fun r29 => (some (r29.1, r29.2))) else ((fX9_gainAt S0.2.2.2.2.2.2.2.2.1 v1).bind fun r38 => ((fX2_lowest (r38.toInt64) (r18.toInt64) v2).bind fun r45 => (some (r45, S0)))))) else ((fX10_refuse fu S0 (1 : Int32)).bind fun r9 => (some (r9.1, r9.2)))))
set_option maxHeartbeats 4000000 in
set_option maxRecDepth 100000 in
theorem qX10_mean {l : Launch} {E : gE} {a0 : Nat → Nat} {fu : Nat} {S0 : sWB} {v1 : Int32} {v2 : Bool} {r : Int64 × sWB} (hf : fX10_mean fu S0 v1 v2 = some r) : CtrF l yX10_mean cX10_mean 4 (some .long) (gR 4 87) E [.ref (a0 0), .int v1, .int (bI v2)] (wWB E a0 S0) (some (.long r.1)) (wWB E a0 r.2) := by
  refine ctr_of false (plainFor_of_name (by decide)) (Nat.le_of_ble_eq_true rfl) (fun q => by cases q) (fun Γ h => ?_)
  refine g_lv [some _, some _, some _, _] rfl ?_
  rw [fX10_mean] at hf
  refine g_iload_n h dX10_mean_0 rfl ?_
  obtain ⟨r1, q1, hf⟩ := gbind hf
  refine g_cSr h (qX9_isPlace q1) mX9_isPlace lkX10_292 dX10_mean_1 rfl rfl ⟨Nat.zero_le _, Nat.zero_le _⟩ ⟨by decide, by decide⟩ (Nat.le_of_ble_eq_true rfl) [] rfl rfl ?_
  refine g_ifb_ne h dX10_mean_4 rfl (fun c4 => ?_) (fun c4 => ?_)
  · replace hf := ifb_t c4 hf
    refine g_aload_n h dX10_mean_13 rfl ?_
    refine g_get h flX10_50 dX10_mean_14 0 rfl rfl ?_
    refine g_iload_n h dX10_mean_17 rfl ?_
    obtain ⟨r18, q18, hf⟩ := gbind hf
    refine g_cVr h (qX9_daysAt (a0 := fun k => a0 (k + 49)) q18) mX9_daysAt lkX10_295 dX10_mean_18 rfl rfl ⟨Nat.zero_le _, Nat.zero_le _⟩ ⟨by decide, by decide⟩ (Nat.le_of_ble_eq_true rfl) [49, 50, 51, 52] rfl rfl 49 rfl rfl ?_
    refine g_istore_n (lv' := [some _, some _, some _, some _]) h dX10_mean_21 (by decide) rfl ?_
    refine g_iload_n h dX10_mean_22 rfl ?_
    refine g_if_ne h dX10_mean_23 rfl (fun c23 => ?_) (fun c23 => ?_)
    · replace hf := ifp_f c23 hf
      refine g_aload_n h dX10_mean_33 rfl ?_
      refine g_get h flX10_50 dX10_mean_34 0 rfl rfl ?_
      refine g_iload_n h dX10_mean_37 rfl ?_
      obtain ⟨r38, q38, hf⟩ := gbind hf
      refine g_cVr h (qX9_gainAt (a0 := fun k => a0 (k + 49)) q38) mX9_gainAt lkX10_298 dX10_mean_38 rfl rfl ⟨Nat.zero_le _, Nat.zero_le _⟩ ⟨by decide, by decide⟩ (Nat.le_of_ble_eq_true rfl) [49, 50, 51, 52] rfl rfl 49 rfl rfl ?_
      refine g_i2l h dX10_mean_41 ?_
      refine g_iload_n h dX10_mean_42 rfl ?_
      refine g_i2l h dX10_mean_43 ?_
      refine g_iload_n h dX10_mean_44 rfl ?_
      obtain ⟨r45, q45, hf⟩ := gbind hf
      refine g_cSr h (qX2_lowest q45) mX2_lowest lkX10_211 dX10_mean_45 rfl rfl ⟨Nat.zero_le _, Nat.zero_le _⟩ ⟨by decide, by decide⟩ (Nat.le_of_ble_eq_true rfl) [] rfl rfl ?_
      have er := Option.some.inj hf
      subst er
      exact g_lreturn h dX10_mean_48 rfl ⟨Nat.zero_le _, Nat.zero_le _, rfl, rfl, rfl⟩
    · replace hf := ifp_t c23 hf
      refine g_aload_n h dX10_mean_26 rfl ?_
      refine g_bipush (v := 6) h dX10_mean_27 (by decide) ?_
      obtain ⟨r29, q29, hf⟩ := gbind hf
      refine g_cVw (ws' := wWB E a0 r29.2) h (qX10_refuse (a0 := a0) q29) mX10_refuse lkX10_67 dX10_mean_29 rfl rfl ⟨Nat.zero_le _, Nat.zero_le _⟩ ⟨by decide, by decide⟩ (Nat.le_of_ble_eq_true rfl) [0, 1, 2, 3, 4, 5, 6, 7, 8, 9, 10, 11, 12, 13, 14, 15, 16, 17, 18, 19, 20, 21, 22, 23, 24, 25, 26, 27, 28, 29, 30, 31, 32, 33, 34, 35, 36, 37, 38, 39, 40, 41, 42, 43, 44, 45, 46, 47, 48, 49, 50, 51, 52, 53, 54] rfl rfl 0 rfl rfl mgX10_7 ?_
      have er := Option.some.inj hf
      subst er
      exact g_lreturn h dX10_mean_32 rfl ⟨Nat.zero_le _, Nat.zero_le _, rfl, rfl, rfl⟩
  · replace hf := ifb_f c4 hf
    refine g_aload_n h dX10_mean_7 rfl ?_
    refine g_iconst (v := 1) h dX10_mean_8 (by decide) ?_
    obtain ⟨r9, q9, hf⟩ := gbind hf
    refine g_cVw (ws' := wWB E a0 r9.2) h (qX10_refuse (a0 := a0) q9) mX10_refuse lkX10_67 dX10_mean_9 rfl rfl ⟨Nat.zero_le _, Nat.zero_le _⟩ ⟨by decide, by decide⟩ (Nat.le_of_ble_eq_true rfl) [0, 1, 2, 3, 4, 5, 6, 7, 8, 9, 10, 11, 12, 13, 14, 15, 16, 17, 18, 19, 20, 21, 22, 23, 24, 25, 26, 27, 28, 29, 30, 31, 32, 33, 34, 35, 36, 37, 38, 39, 40, 41, 42, 43, 44, 45, 46, 47, 48, 49, 50, 51, 52, 53, 54] rfl rfl 0 rfl rfl mgX10_7 ?_
    have er := Option.some.inj hf
    subst er
    exact g_lreturn h dX10_mean_12 rfl ⟨Nat.zero_le _, Nat.zero_le _, rfl, rfl, rfl⟩
def fX10_change (fu : Nat) (S0 : sWB) (v1 : Int32) : Option (Int64 × sWB) := ((fX9_isPlace v1).bind fun r1 => (if r1 = true then ((fX9_daysAt S0.2.2.2.2.2.2.2.2.1 v1).bind fun r18 => (if (2 : Int32) ≤ r18 then ((fX9_greatestTurnAt S0.2.2.2.2.2.2.2.2.1 v1).bind fun r37 => (some ((r37.toInt64), S0))) else ((fX10_refuse fu S0 (6 : Int32)).bind fun r28 => (some (r28.1, r28.2))))) else ((fX10_refuse fu S0 (1 : Int32)).bind fun r9 => (some (r9.1, r9.2)))))
set_option maxHeartbeats 4000000 in
set_option maxRecDepth 100000 in
theorem qX10_change {l : Launch} {E : gE} {a0 : Nat → Nat} {fu : Nat} {S0 : sWB} {v1 : Int32} {r : Int64 × sWB} (hf : fX10_change fu S0 v1 = some r) : CtrF l yX10_change cX10_change 2 (some .long) (gR 4 90) E [.ref (a0 0), .int v1] (wWB E a0 S0) (some (.long r.1)) (wWB E a0 r.2) := by
  refine ctr_of false (plainFor_of_name (by decide)) (Nat.le_of_ble_eq_true rfl) (fun q => by cases q) (fun Γ h => ?_)
  refine g_lv [some _, some _] rfl ?_
  rw [fX10_change] at hf
  refine g_iload_n h dX10_change_0 rfl ?_
  obtain ⟨r1, q1, hf⟩ := gbind hf
  refine g_cSr h (qX9_isPlace q1) mX9_isPlace lkX10_292 dX10_change_1 rfl rfl ⟨Nat.zero_le _, Nat.zero_le _⟩ ⟨by decide, by decide⟩ (Nat.le_of_ble_eq_true rfl) [] rfl rfl ?_
  refine g_ifb_ne h dX10_change_4 rfl (fun c4 => ?_) (fun c4 => ?_)
  · replace hf := ifb_t c4 hf
    refine g_aload_n h dX10_change_13 rfl ?_
    refine g_get h flX10_50 dX10_change_14 0 rfl rfl ?_
    refine g_iload_n h dX10_change_17 rfl ?_
    obtain ⟨r18, q18, hf⟩ := gbind hf
    refine g_cVr h (qX9_daysAt (a0 := fun k => a0 (k + 49)) q18) mX9_daysAt lkX10_295 dX10_change_18 rfl rfl ⟨Nat.zero_le _, Nat.zero_le _⟩ ⟨by decide, by decide⟩ (Nat.le_of_ble_eq_true rfl) [49, 50, 51, 52] rfl rfl 49 rfl rfl ?_
    refine g_iconst (v := 2) h dX10_change_21 (by decide) ?_
    refine g_ic_ge h dX10_change_22 rfl (fun c22 => ?_) (fun c22 => ?_)
    · replace hf := ifp_t c22 hf
      refine g_aload_n h dX10_change_32 rfl ?_
      refine g_get h flX10_50 dX10_change_33 0 rfl rfl ?_
      refine g_iload_n h dX10_change_36 rfl ?_
      obtain ⟨r37, q37, hf⟩ := gbind hf
      refine g_cVr h (qX9_greatestTurnAt (a0 := fun k => a0 (k + 49)) q37) mX9_greatestTurnAt lkX10_301 dX10_change_37 rfl rfl ⟨Nat.zero_le _, Nat.zero_le _⟩ ⟨by decide, by decide⟩ (Nat.le_of_ble_eq_true rfl) [49, 50, 51, 52] rfl rfl 49 rfl rfl ?_
      refine g_i2l h dX10_change_40 ?_
      have er := Option.some.inj hf
      subst er
      exact g_lreturn h dX10_change_41 rfl ⟨Nat.zero_le _, Nat.zero_le _, rfl, rfl, rfl⟩
    · replace hf := ifp_f c22 hf
      refine g_aload_n h dX10_change_25 rfl ?_
      refine g_bipush (v := 6) h dX10_change_26 (by decide) ?_
      obtain ⟨r28, q28, hf⟩ := gbind hf
      refine g_cVw (ws' := wWB E a0 r28.2) h (qX10_refuse (a0 := a0) q28) mX10_refuse lkX10_67 dX10_change_28 rfl rfl ⟨Nat.zero_le _, Nat.zero_le _⟩ ⟨by decide, by decide⟩ (Nat.le_of_ble_eq_true rfl) [0, 1, 2, 3, 4, 5, 6, 7, 8, 9, 10, 11, 12, 13, 14, 15, 16, 17, 18, 19, 20, 21, 22, 23, 24, 25, 26, 27, 28, 29, 30, 31, 32, 33, 34, 35, 36, 37, 38, 39, 40, 41, 42, 43, 44, 45, 46, 47, 48, 49, 50, 51, 52, 53, 54] rfl rfl 0 rfl rfl mgX10_7 ?_
      have er := Option.some.inj hf
      subst er
      exact g_lreturn h dX10_change_31 rfl ⟨Nat.zero_le _, Nat.zero_le _, rfl, rfl, rfl⟩
  · replace hf := ifb_f c4 hf
    refine g_aload_n h dX10_change_7 rfl ?_
    refine g_iconst (v := 1) h dX10_change_8 (by decide) ?_
    obtain ⟨r9, q9, hf⟩ := gbind hf
    refine g_cVw (ws' := wWB E a0 r9.2) h (qX10_refuse (a0 := a0) q9) mX10_refuse lkX10_67 dX10_change_9 rfl rfl ⟨Nat.zero_le _, Nat.zero_le _⟩ ⟨by decide, by decide⟩ (Nat.le_of_ble_eq_true rfl) [0, 1, 2, 3, 4, 5, 6, 7, 8, 9, 10, 11, 12, 13, 14, 15, 16, 17, 18, 19, 20, 21, 22, 23, 24, 25, 26, 27, 28, 29, 30, 31, 32, 33, 34, 35, 36, 37, 38, 39, 40, 41, 42, 43, 44, 45, 46, 47, 48, 49, 50, 51, 52, 53, 54] rfl rfl 0 rfl rfl mgX10_7 ?_
    have er := Option.some.inj hf
    subst er
    exact g_lreturn h dX10_change_12 rfl ⟨Nat.zero_le _, Nat.zero_le _, rfl, rfl, rfl⟩
def fX10_tell (fu : Nat) (S0 : sWB) (v1 : Int32) : Option (Int64 × sWB) := (if S0.2.2.2.2.2.2.2.2.2.2.1 < (16 : Int32) then ((gIx S0.2.2.2.2.2.2.2.2.2.2.1 16).bind fun k24 => ((some (st_X10_9 S0 (upd S0.2.2.2.2.2.2.2.2.2.1 k24 v1))).bind fun S0x24 => ((some (st_X10_10 S0x24 (S0x24.2.2.2.2.2.2.2.2.2.2.1 + (1 : Int32)))).bind fun S0x32 => (some ((S0x32.2.2.2.2.2.2.2.2.2.2.1.toInt64), S0x32))))) else ((fX10_refuse fu S0 (5 : Int32)).bind fun r11 => (some (r11.1, r11.2))))
set_option maxHeartbeats 4000000 in
set_option maxRecDepth 100000 in
theorem qX10_tell {l : Launch} {E : gE} {a0 : Nat → Nat} {fu : Nat} {S0 : sWB} {v1 : Int32} {r : Int64 × sWB} (hf : fX10_tell fu S0 v1 = some r) : CtrF l yX10_tell cX10_tell 2 (some .long) (gR 2 43) E [.ref (a0 0), .int v1] (wWB E a0 S0) (some (.long r.1)) (wWB E a0 r.2) := by
  refine ctr_of false (plainFor_of_name (by decide)) (Nat.le_of_ble_eq_true rfl) (fun q => by cases q) (fun Γ h => ?_)
  refine g_lv [some _, some _] rfl ?_
  rw [fX10_tell] at hf
  refine g_aload_n h dX10_tell_0 rfl ?_
  refine g_get h flX10_304 dX10_tell_1 0 rfl rfl ?_
  refine g_bipush (v := 16) h dX10_tell_4 (by decide) ?_
  refine g_ic_lt h dX10_tell_6 rfl (fun c6 => ?_) (fun c6 => ?_)
  · replace hf := ifp_t c6 hf
    refine g_aload_n h dX10_tell_15 rfl ?_
    refine g_get h flX10_54 dX10_tell_16 0 rfl rfl ?_
    refine g_aload_n h dX10_tell_19 rfl ?_
    refine g_get h flX10_304 dX10_tell_20 0 rfl rfl ?_
    refine g_iload_n h dX10_tell_23 rfl ?_
    obtain ⟨k24, q24, hf⟩ := gbind hf
    have e24 := (gIx_s q24).1
    have b24 := (gIx_s q24).2
    obtain ⟨S0x24, w24, hf⟩ := gbind hf
    refine g_iast (ws' := wWB E a0 S0x24) h dX10_tell_24 53 k24 rfl e24 b24 (by decide) (by cases w24; rfl) ?_
    refine g_aload_n h dX10_tell_25 rfl ?_
    refine g_dup h dX10_tell_26 rfl ?_
    refine g_get h flX10_304 dX10_tell_27 0 rfl rfl ?_
    refine g_iconst (v := 1) h dX10_tell_30 (by decide) ?_
    refine g_iadd h dX10_tell_31 ?_
    obtain ⟨S0x32, q32, hf⟩ := gbind hf
    refine g_put (ws' := wWB E a0 S0x32) (ty := .int) h flX10_304 gftX10 rfl (by decide +kernel) dX10_tell_32 0 rfl rfl rfl (Nat.le_of_ble_eq_true rfl) (by cases q32; rfl) ?_
    refine g_aload_n h dX10_tell_35 rfl ?_
    refine g_get h flX10_304 dX10_tell_36 0 rfl rfl ?_
    refine g_i2l h dX10_tell_39 ?_
    have er := Option.some.inj hf
    subst er
    exact g_lreturn h dX10_tell_40 rfl ⟨Nat.zero_le _, Nat.zero_le _, rfl, rfl, rfl⟩
  · replace hf := ifp_f c6 hf
    refine g_aload_n h dX10_tell_9 rfl ?_
    refine g_iconst (v := 5) h dX10_tell_10 (by decide) ?_
    obtain ⟨r11, q11, hf⟩ := gbind hf
    refine g_cVw (ws' := wWB E a0 r11.2) h (qX10_refuse (a0 := a0) q11) mX10_refuse lkX10_67 dX10_tell_11 rfl rfl ⟨Nat.zero_le _, Nat.zero_le _⟩ ⟨by decide, by decide⟩ (Nat.le_of_ble_eq_true rfl) [0, 1, 2, 3, 4, 5, 6, 7, 8, 9, 10, 11, 12, 13, 14, 15, 16, 17, 18, 19, 20, 21, 22, 23, 24, 25, 26, 27, 28, 29, 30, 31, 32, 33, 34, 35, 36, 37, 38, 39, 40, 41, 42, 43, 44, 45, 46, 47, 48, 49, 50, 51, 52, 53, 54] rfl rfl 0 rfl rfl mgX10_7 ?_
    have er := Option.some.inj hf
    subst er
    exact g_lreturn h dX10_tell_14 rfl ⟨Nat.zero_le _, Nat.zero_le _, rfl, rfl, rfl⟩
def lX10_judge_7  (fu : Nat) (S0 : sWB) (v1 : Int32) : Nat → (Int32) → (Int32) → (Int32) → Option (Int32)
  | 0, _, _, _ => none
  | j + 1, v2, v3, v4 => (if (8 : Int32) ≤ v4 then (if v1 ≤ v3 then (some (0 : Int32)) else (some (100 : Int32))) else ((fX6_has S0.2.2.2.2.2.1 v4).bind fun r20 => (if r20 = true then (if v1 ≤ (v3 + (1 : Int32)) then (some ((1 : Int32) + v2)) else (if (16 : Int32) ≤ (v3 + (1 : Int32)) then (some ((1 : Int32) + v2)) else ((gIx v3 16).bind fun k52 => ((gIx (v3 + (1 : Int32)) 16).bind fun k60 => ((fX6_isSize S0.2.2.2.2.2.1 v4 (S0.2.2.2.2.2.2.2.2.2.1 k52) (S0.2.2.2.2.2.2.2.2.2.1 k60)).bind fun r61 => (if r61 = true then ((lX10_judge_7  fu S0 v1 j) (v2 + 1) (v3 + 2) (v4 + 1)) else (some ((1 : Int32) + v2)))))))) else ((lX10_judge_7  fu S0 v1 j) v2 v3 (v4 + 1)))))
def fX10_judge (fu : Nat) (S0 : sWB) (v1 : Int32) : Option (Int32) := (lX10_judge_7  fu S0 v1 fu (0 : Int32) (0 : Int32) (0 : Int32))
set_option maxHeartbeats 4000000 in
set_option maxRecDepth 100000 in
theorem qX10_judge {l : Launch} {E : gE} {a0 : Nat → Nat} {fu : Nat} {S0 : sWB} {v1 : Int32} {r : Int32} (hf : fX10_judge fu S0 v1 = some r) : CtrF l yX10_judge cX10_judge 5 (some .int) (gR 3 88) E [.ref (a0 0), .int v1] (wWB E a0 S0) (some (.int r)) (wWB E a0 S0) := by
  refine ctr_of false (plainFor_of_name (by decide)) (Nat.le_of_ble_eq_true rfl) (fun q => by cases q) (fun Γ h => ?_)
  refine g_lv [some _, some _, _, _, _] rfl ?_
  rw [fX10_judge] at hf
  have loop7 : ∀ (j7 : Nat) (v2 : Int32) (v3 : Int32) (v4 : Int32) , lX10_judge_7  fu S0 v1 j7 v2 v3 v4 = some r → Γ 0 0 7 [some (.ref (a0 0)), some (.int v1), some (.int v2), some (.int v3), some (.int v4)] [] (wWB E a0 S0) := by
    intro j7
    induction j7 with
    | zero => intro v2 v3 v4 hf; exact gno hf
    | succ j7 ih7 =>
      intro v2 v3 v4 hf
      rw [lX10_judge_7] at hf
      refine g_iload h dX10_judge_7 rfl ?_
      refine g_bipush (v := 8) h dX10_judge_9 (by decide) ?_
      refine g_ic_ge h dX10_judge_11 rfl (fun c11 => ?_) (fun c11 => ?_)
      · replace hf := ifp_t c11 hf
        refine g_iload_n h dX10_judge_83 rfl ?_
        refine g_iload_n h dX10_judge_84 rfl ?_
        refine g_ic_ge h dX10_judge_85 rfl (fun c85 => ?_) (fun c85 => ?_)
        · replace hf := ifp_t c85 hf
          refine g_iconst (v := 0) h dX10_judge_93 (by decide) ?_
          have er := Option.some.inj hf
          subst er
          exact g_ireturn h dX10_judge_94 rfl rfl ⟨Nat.zero_le _, Nat.zero_le _, rfl, rfl, rfl⟩
        · replace hf := ifp_f c85 hf
          refine g_bipush (v := 100) h dX10_judge_88 (by decide) ?_
          refine g_goto h dX10_judge_90 rfl ?_
          have er := Option.some.inj hf
          subst er
          exact g_ireturn h dX10_judge_94 rfl rfl ⟨Nat.zero_le _, Nat.zero_le _, rfl, rfl, rfl⟩
      · replace hf := ifp_f c11 hf
        refine g_aload_n h dX10_judge_14 rfl ?_
        refine g_get h flX10_36 dX10_judge_15 0 rfl rfl ?_
        refine g_iload h dX10_judge_18 rfl ?_
        obtain ⟨r20, q20, hf⟩ := gbind hf
        refine g_cVr h (qX6_has (a0 := fun k => a0 (k + 44)) q20) mX6_has lkX10_203 dX10_judge_20 rfl rfl ⟨Nat.zero_le _, Nat.zero_le _⟩ ⟨by decide, by decide⟩ (Nat.le_of_ble_eq_true rfl) [44, 45] rfl rfl 44 rfl rfl ?_
        refine g_ifb_eq h dX10_judge_23 rfl (fun c23 => ?_) (fun c23 => ?_)
        · replace hf := ifb_f c23 hf
          refine g_iinc (v := (v4 + 1)) (lv' := [some _, some _, some _, some _, some _]) h dX10_judge_77 rfl rfl (by decide) rfl ?_
          refine g_goto h dX10_judge_80 rfl ?_
          exact ih7 _ _ _ hf
        · replace hf := ifb_t c23 hf
          refine g_iload_n h dX10_judge_26 rfl ?_
          refine g_iconst (v := 1) h dX10_judge_27 (by decide) ?_
          refine g_iadd h dX10_judge_28 ?_
          refine g_iload_n h dX10_judge_29 rfl ?_
          refine g_ic_ge h dX10_judge_30 rfl (fun c30 => ?_) (fun c30 => ?_)
          · replace hf := ifp_t c30 hf
            refine g_iconst (v := 1) h dX10_judge_67 (by decide) ?_
            refine g_iload_n h dX10_judge_68 rfl ?_
            refine g_iadd h dX10_judge_69 ?_
            have er := Option.some.inj hf
            subst er
            exact g_ireturn h dX10_judge_70 rfl rfl ⟨Nat.zero_le _, Nat.zero_le _, rfl, rfl, rfl⟩
          · replace hf := ifp_f c30 hf
            refine g_iload_n h dX10_judge_33 rfl ?_
            refine g_iconst (v := 1) h dX10_judge_34 (by decide) ?_
            refine g_iadd h dX10_judge_35 ?_
            refine g_bipush (v := 16) h dX10_judge_36 (by decide) ?_
            refine g_ic_ge h dX10_judge_38 rfl (fun c38 => ?_) (fun c38 => ?_)
            · replace hf := ifp_t c38 hf
              refine g_iconst (v := 1) h dX10_judge_67 (by decide) ?_
              refine g_iload_n h dX10_judge_68 rfl ?_
              refine g_iadd h dX10_judge_69 ?_
              have er := Option.some.inj hf
              subst er
              exact g_ireturn h dX10_judge_70 rfl rfl ⟨Nat.zero_le _, Nat.zero_le _, rfl, rfl, rfl⟩
            · replace hf := ifp_f c38 hf
              refine g_aload_n h dX10_judge_41 rfl ?_
              refine g_get h flX10_36 dX10_judge_42 0 rfl rfl ?_
              refine g_iload h dX10_judge_45 rfl ?_
              refine g_aload_n h dX10_judge_47 rfl ?_
              refine g_get h flX10_54 dX10_judge_48 0 rfl rfl ?_
              refine g_iload_n h dX10_judge_51 rfl ?_
              obtain ⟨k52, q52, hf⟩ := gbind hf
              have e52 := (gIx_s q52).1
              have b52 := (gIx_s q52).2
              refine g_iald h dX10_judge_52 53 k52 rfl e52 b52 (by decide) ?_
              refine g_aload_n h dX10_judge_53 rfl ?_
              refine g_get h flX10_54 dX10_judge_54 0 rfl rfl ?_
              refine g_iload_n h dX10_judge_57 rfl ?_
              refine g_iconst (v := 1) h dX10_judge_58 (by decide) ?_
              refine g_iadd h dX10_judge_59 ?_
              obtain ⟨k60, q60, hf⟩ := gbind hf
              have e60 := (gIx_s q60).1
              have b60 := (gIx_s q60).2
              refine g_iald h dX10_judge_60 53 k60 rfl e60 b60 (by decide) ?_
              obtain ⟨r61, q61, hf⟩ := gbind hf
              refine g_cVr h (qX6_isSize (a0 := fun k => a0 (k + 44)) q61) mX6_isSize lkX10_310 dX10_judge_61 rfl rfl ⟨Nat.zero_le _, Nat.zero_le _⟩ ⟨by decide, by decide⟩ (Nat.le_of_ble_eq_true rfl) [44, 45] rfl rfl 44 rfl rfl ?_
              refine g_ifb_ne h dX10_judge_64 rfl (fun c64 => ?_) (fun c64 => ?_)
              · replace hf := ifb_t c64 hf
                refine g_iinc (v := (v2 + 1)) (lv' := [some _, some _, some _, some _, some _]) h dX10_judge_71 rfl rfl (by decide) rfl ?_
                refine g_iinc (v := (v3 + 2)) (lv' := [some _, some _, some _, some _, some _]) h dX10_judge_74 rfl rfl (by decide) rfl ?_
                refine g_iinc (v := (v4 + 1)) (lv' := [some _, some _, some _, some _, some _]) h dX10_judge_77 rfl rfl (by decide) rfl ?_
                refine g_goto h dX10_judge_80 rfl ?_
                exact ih7 _ _ _ hf
              · replace hf := ifb_f c64 hf
                refine g_iconst (v := 1) h dX10_judge_67 (by decide) ?_
                refine g_iload_n h dX10_judge_68 rfl ?_
                refine g_iadd h dX10_judge_69 ?_
                have er := Option.some.inj hf
                subst er
                exact g_ireturn h dX10_judge_70 rfl rfl ⟨Nat.zero_le _, Nat.zero_le _, rfl, rfl, rfl⟩
  refine g_iconst (v := 0) h dX10_judge_0 (by decide) ?_
  refine g_istore_n (lv' := [some _, some _, some _, _, _]) h dX10_judge_1 (by decide) rfl ?_
  refine g_iconst (v := 0) h dX10_judge_2 (by decide) ?_
  refine g_istore_n (lv' := [some _, some _, some _, some _, _]) h dX10_judge_3 (by decide) rfl ?_
  refine g_iconst (v := 0) h dX10_judge_4 (by decide) ?_
  refine g_istore (lv' := [some _, some _, some _, some _, some _]) h dX10_judge_5 (by decide) rfl ?_
  exact loop7 _ _ _ _  hf
def fX10_check (fu : Nat) (S0 : sWB)  : Option (Int64 × sWB) := ((some (st_X10_10 S0 (0 : Int32))).bind fun S0x7 => ((fX10_whyNoSizes fu S0x7).bind fun r11 => (if r11 = 0 then ((fX10_judge fu S0x7 S0.2.2.2.2.2.2.2.2.2.2.1).bind fun r27 => (some ((r27.toInt64), S0x7))) else ((fX10_refuse fu S0x7 r11).bind fun r21 => (some (r21.1, r21.2))))))
set_option maxHeartbeats 4000000 in
set_option maxRecDepth 100000 in
theorem qX10_check {l : Launch} {E : gE} {a0 : Nat → Nat} {fu : Nat} {S0 : sWB}  {r : Int64 × sWB} (hf : fX10_check fu S0  = some r) : CtrF l yX10_check cX10_check 3 (some .long) (gR 4 112) E [.ref (a0 0)] (wWB E a0 S0) (some (.long r.1)) (wWB E a0 r.2) := by
  refine ctr_of false (plainFor_of_name (by decide)) (Nat.le_of_ble_eq_true rfl) (fun q => by cases q) (fun Γ h => ?_)
  refine g_lv [some _, _, _] rfl ?_
  rw [fX10_check] at hf
  refine g_aload_n h dX10_check_0 rfl ?_
  refine g_get h flX10_304 dX10_check_1 0 rfl rfl ?_
  refine g_istore_n (lv' := [some _, some _, _]) h dX10_check_4 (by decide) rfl ?_
  refine g_aload_n h dX10_check_5 rfl ?_
  refine g_iconst (v := 0) h dX10_check_6 (by decide) ?_
  obtain ⟨S0x7, q7, hf⟩ := gbind hf
  refine g_put (ws' := wWB E a0 S0x7) (ty := .int) h flX10_304 gftX10 rfl (by decide +kernel) dX10_check_7 0 rfl rfl rfl (Nat.le_of_ble_eq_true rfl) (by cases q7; rfl) ?_
  refine g_aload_n h dX10_check_10 rfl ?_
  obtain ⟨r11, q11, hf⟩ := gbind hf
  refine g_cVr h (qX10_whyNoSizes (a0 := a0) q11) mX10_whyNoSizes lkX10_200 dX10_check_11 rfl rfl ⟨Nat.zero_le _, Nat.zero_le _⟩ ⟨by decide, by decide⟩ (Nat.le_of_ble_eq_true rfl) [0, 1, 2, 3, 4, 5, 6, 7, 8, 9, 10, 11, 12, 13, 14, 15, 16, 17, 18, 19, 20, 21, 22, 23, 24, 25, 26, 27, 28, 29, 30, 31, 32, 33, 34, 35, 36, 37, 38, 39, 40, 41, 42, 43, 44, 45, 46, 47, 48, 49, 50, 51, 52, 53, 54] rfl rfl 0 rfl rfl ?_
  refine g_istore_n (lv' := [some _, some _, some _]) h dX10_check_14 (by decide) rfl ?_
  refine g_iload_n h dX10_check_15 rfl ?_
  refine g_if_eq h dX10_check_16 rfl (fun c16 => ?_) (fun c16 => ?_)
  · replace hf := ifp_t c16 hf
    refine g_aload_n h dX10_check_25 rfl ?_
    refine g_iload_n h dX10_check_26 rfl ?_
    obtain ⟨r27, q27, hf⟩ := gbind hf
    refine g_cVr h (qX10_judge (a0 := a0) q27) mX10_judge lkX10_307 dX10_check_27 rfl rfl ⟨Nat.zero_le _, Nat.zero_le _⟩ ⟨by decide, by decide⟩ (Nat.le_of_ble_eq_true rfl) [0, 1, 2, 3, 4, 5, 6, 7, 8, 9, 10, 11, 12, 13, 14, 15, 16, 17, 18, 19, 20, 21, 22, 23, 24, 25, 26, 27, 28, 29, 30, 31, 32, 33, 34, 35, 36, 37, 38, 39, 40, 41, 42, 43, 44, 45, 46, 47, 48, 49, 50, 51, 52, 53, 54] rfl rfl 0 rfl rfl ?_
    refine g_i2l h dX10_check_30 ?_
    have er := Option.some.inj hf
    subst er
    exact g_lreturn h dX10_check_31 rfl ⟨Nat.zero_le _, Nat.zero_le _, rfl, rfl, rfl⟩
  · replace hf := ifp_f c16 hf
    refine g_aload_n h dX10_check_19 rfl ?_
    refine g_iload_n h dX10_check_20 rfl ?_
    obtain ⟨r21, q21, hf⟩ := gbind hf
    refine g_cVw (ws' := wWB E a0 r21.2) h (qX10_refuse (a0 := a0) q21) mX10_refuse lkX10_67 dX10_check_21 rfl rfl ⟨Nat.zero_le _, Nat.zero_le _⟩ ⟨by decide, by decide⟩ (Nat.le_of_ble_eq_true rfl) [0, 1, 2, 3, 4, 5, 6, 7, 8, 9, 10, 11, 12, 13, 14, 15, 16, 17, 18, 19, 20, 21, 22, 23, 24, 25, 26, 27, 28, 29, 30, 31, 32, 33, 34, 35, 36, 37, 38, 39, 40, 41, 42, 43, 44, 45, 46, 47, 48, 49, 50, 51, 52, 53, 54] rfl rfl 0 rfl rfl mgX10_7 ?_
    have er := Option.some.inj hf
    subst er
    exact g_lreturn h dX10_check_24 rfl ⟨Nat.zero_le _, Nat.zero_le _, rfl, rfl, rfl⟩
def fX10_keep (fu : Nat) (S0 : sWB)  : Option (Int64 × sWB) := ((fX8_copyFrom S0.2.1 S0.1).bind fun r8 => ((some (st_X10_2 (st_X10_1 S0 r8) true)).bind fun S0x13 => (some ((1 : Int64), S0x13))))
set_option maxRecDepth 100000 in
theorem mgX10_18 {E : gE} {S0 : sWB} {n0 : sSt} {a0 : Nat → Nat} : gmerge [17, 18, 19, 20, 21, 22, 23, 24, 25, 26, 27, 28, 29, 30, 31, 32, 1, 2, 3, 4, 5, 6, 7, 8, 9, 10, 11, 12, 13, 14, 15, 16] (wSt E (a0 17) (a0 18) (a0 19) (a0 20) (a0 21) (a0 22) (a0 23) (a0 24) (a0 25) (a0 26) (a0 27) (a0 28) (a0 29) (a0 30) (a0 31) (a0 32) n0.1.1 n0.1.2.1 n0.1.2.2.1 n0.1.2.2.2 n0.2.1.1 n0.2.1.2.1 n0.2.1.2.2 n0.2.2.1.1 n0.2.2.1.2.1 n0.2.2.1.2.2 n0.2.2.2.1 n0.2.2.2.2.1 n0.2.2.2.2.2 ++ wSt E (a0 1) (a0 2) (a0 3) (a0 4) (a0 5) (a0 6) (a0 7) (a0 8) (a0 9) (a0 10) (a0 11) (a0 12) (a0 13) (a0 14) (a0 15) (a0 16) (st_X10_1 S0 n0).1.1.1 (st_X10_1 S0 n0).1.1.2.1 (st_X10_1 S0 n0).1.1.2.2.1 (st_X10_1 S0 n0).1.1.2.2.2 (st_X10_1 S0 n0).1.2.1.1 (st_X10_1 S0 n0).1.2.1.2.1 (st_X10_1 S0 n0).1.2.1.2.2 (st_X10_1 S0 n0).1.2.2.1.1 (st_X10_1 S0 n0).1.2.2.1.2.1 (st_X10_1 S0 n0).1.2.2.1.2.2 (st_X10_1 S0 n0).1.2.2.2.1 (st_X10_1 S0 n0).1.2.2.2.2.1 (st_X10_1 S0 n0).1.2.2.2.2.2) (wWB E a0 S0) = wWB E a0 (st_X10_1 S0 n0) := by
  have h0 : gmerge [17, 18, 19, 20, 21, 22, 23, 24, 25, 26, 27, 28, 29, 30, 31, 32] (wSt E (a0 17) (a0 18) (a0 19) (a0 20) (a0 21) (a0 22) (a0 23) (a0 24) (a0 25) (a0 26) (a0 27) (a0 28) (a0 29) (a0 30) (a0 31) (a0 32) n0.1.1 n0.1.2.1 n0.1.2.2.1 n0.1.2.2.2 n0.2.1.1 n0.2.1.2.1 n0.2.1.2.2 n0.2.2.1.1 n0.2.2.1.2.1 n0.2.2.1.2.2 n0.2.2.2.1 n0.2.2.2.2.1 n0.2.2.2.2.2) (wWB E a0 S0) = wWB E a0 (st_X10_1 S0 n0) := gmerge_cut 17 16 (Nat.le_of_ble_eq_true rfl) rfl rfl
  have h1 : gmerge [1, 2, 3, 4, 5, 6, 7, 8, 9, 10, 11, 12, 13, 14, 15, 16] (wSt E (a0 1) (a0 2) (a0 3) (a0 4) (a0 5) (a0 6) (a0 7) (a0 8) (a0 9) (a0 10) (a0 11) (a0 12) (a0 13) (a0 14) (a0 15) (a0 16) (st_X10_1 S0 n0).1.1.1 (st_X10_1 S0 n0).1.1.2.1 (st_X10_1 S0 n0).1.1.2.2.1 (st_X10_1 S0 n0).1.1.2.2.2 (st_X10_1 S0 n0).1.2.1.1 (st_X10_1 S0 n0).1.2.1.2.1 (st_X10_1 S0 n0).1.2.1.2.2 (st_X10_1 S0 n0).1.2.2.1.1 (st_X10_1 S0 n0).1.2.2.1.2.1 (st_X10_1 S0 n0).1.2.2.1.2.2 (st_X10_1 S0 n0).1.2.2.2.1 (st_X10_1 S0 n0).1.2.2.2.2.1 (st_X10_1 S0 n0).1.2.2.2.2.2) (wWB E a0 (st_X10_1 S0 n0)) = wWB E a0 (st_X10_1 S0 n0) := gmerge_self _ _ _ rfl
  exact gmerge_app2 h0 h1 rfl rfl
set_option maxHeartbeats 4000000 in
set_option maxRecDepth 100000 in
theorem qX10_keep {l : Launch} {E : gE} {a0 : Nat → Nat} {fu : Nat} {S0 : sWB}  {r : Int64 × sWB} (hf : fX10_keep fu S0  = some r) : CtrF l yX10_keep cX10_keep 1 (some .long) (gR 5 106) E [.ref (a0 0)] (wWB E a0 S0) (some (.long r.1)) (wWB E a0 r.2) := by
  refine ctr_of false (plainFor_of_name (by decide)) (Nat.le_of_ble_eq_true rfl) (fun q => by cases q) (fun Γ h => ?_)
  refine g_lv [some _] rfl ?_
  rw [fX10_keep] at hf
  refine g_aload_n h dX10_keep_0 rfl ?_
  refine g_get h flX10_16 dX10_keep_1 0 rfl rfl ?_
  refine g_aload_n h dX10_keep_4 rfl ?_
  refine g_get h flX10_10 dX10_keep_5 0 rfl rfl ?_
  obtain ⟨r8, q8, hf⟩ := gbind hf
  refine g_cVv (ws' := wWB E a0 (st_X10_1 S0 r8)) h (qX8_copyFrom (a0 := fun k => a0 (k + 17)) (a1 := fun k => a0 (k + 1)) q8) mX8_copyFrom lkX10_313 dX10_keep_8 rfl rfl ⟨Nat.zero_le _, Nat.zero_le _⟩ ⟨by decide, by decide⟩ (Nat.le_of_ble_eq_true rfl) [17, 18, 19, 20, 21, 22, 23, 24, 25, 26, 27, 28, 29, 30, 31, 32, 1, 2, 3, 4, 5, 6, 7, 8, 9, 10, 11, 12, 13, 14, 15, 16] rfl rfl 17 rfl rfl mgX10_18 ?_
  refine g_aload_n h dX10_keep_11 rfl ?_
  refine g_iconst (v := 1) h dX10_keep_12 (by decide) ?_
  obtain ⟨S0x13, q13, hf⟩ := gbind hf
  refine g_put (ws' := wWB E a0 S0x13) (ty := .boolean) h flX10_316 gftX10 rfl (by decide +kernel) dX10_keep_13 0 rfl rfl rfl (Nat.le_of_ble_eq_true rfl) (by cases q13; rfl) ?_
  refine g_lconst (v := 1) h dX10_keep_16 (by decide) ?_
  have er := Option.some.inj hf
  subst er
  exact g_lreturn h dX10_keep_17 rfl ⟨Nat.zero_le _, Nat.zero_le _, rfl, rfl, rfl⟩
def fX10_back (fu : Nat) (S0 : sWB)  : Option (Int64 × sWB) := (if S0.2.2.1 = true then ((fX8_copyFrom S0.1 S0.2.1).bind fun r21 => ((fX6_forget (st_X10_0 S0 r21).2.2.2.2.2.1).bind fun r28 => (some ((1 : Int64), (st_X10_5 (st_X10_0 S0 r21) r28))))) else ((fX10_refuse fu S0 (2 : Int32)).bind fun r9 => (some (r9.1, r9.2))))
set_option maxRecDepth 100000 in
theorem mgX10_19 {E : gE} {S0 : sWB} {n0 : sSt} {a0 : Nat → Nat} : gmerge [1, 2, 3, 4, 5, 6, 7, 8, 9, 10, 11, 12, 13, 14, 15, 16, 17, 18, 19, 20, 21, 22, 23, 24, 25, 26, 27, 28, 29, 30, 31, 32] (wSt E (a0 1) (a0 2) (a0 3) (a0 4) (a0 5) (a0 6) (a0 7) (a0 8) (a0 9) (a0 10) (a0 11) (a0 12) (a0 13) (a0 14) (a0 15) (a0 16) n0.1.1 n0.1.2.1 n0.1.2.2.1 n0.1.2.2.2 n0.2.1.1 n0.2.1.2.1 n0.2.1.2.2 n0.2.2.1.1 n0.2.2.1.2.1 n0.2.2.1.2.2 n0.2.2.2.1 n0.2.2.2.2.1 n0.2.2.2.2.2 ++ wSt E (a0 17) (a0 18) (a0 19) (a0 20) (a0 21) (a0 22) (a0 23) (a0 24) (a0 25) (a0 26) (a0 27) (a0 28) (a0 29) (a0 30) (a0 31) (a0 32) (st_X10_0 S0 n0).2.1.1.1 (st_X10_0 S0 n0).2.1.1.2.1 (st_X10_0 S0 n0).2.1.1.2.2.1 (st_X10_0 S0 n0).2.1.1.2.2.2 (st_X10_0 S0 n0).2.1.2.1.1 (st_X10_0 S0 n0).2.1.2.1.2.1 (st_X10_0 S0 n0).2.1.2.1.2.2 (st_X10_0 S0 n0).2.1.2.2.1.1 (st_X10_0 S0 n0).2.1.2.2.1.2.1 (st_X10_0 S0 n0).2.1.2.2.1.2.2 (st_X10_0 S0 n0).2.1.2.2.2.1 (st_X10_0 S0 n0).2.1.2.2.2.2.1 (st_X10_0 S0 n0).2.1.2.2.2.2.2) (wWB E a0 S0) = wWB E a0 (st_X10_0 S0 n0) := by
  have h0 : gmerge [1, 2, 3, 4, 5, 6, 7, 8, 9, 10, 11, 12, 13, 14, 15, 16] (wSt E (a0 1) (a0 2) (a0 3) (a0 4) (a0 5) (a0 6) (a0 7) (a0 8) (a0 9) (a0 10) (a0 11) (a0 12) (a0 13) (a0 14) (a0 15) (a0 16) n0.1.1 n0.1.2.1 n0.1.2.2.1 n0.1.2.2.2 n0.2.1.1 n0.2.1.2.1 n0.2.1.2.2 n0.2.2.1.1 n0.2.2.1.2.1 n0.2.2.1.2.2 n0.2.2.2.1 n0.2.2.2.2.1 n0.2.2.2.2.2) (wWB E a0 S0) = wWB E a0 (st_X10_0 S0 n0) := gmerge_cut 1 16 (Nat.le_of_ble_eq_true rfl) rfl rfl
  have h1 : gmerge [17, 18, 19, 20, 21, 22, 23, 24, 25, 26, 27, 28, 29, 30, 31, 32] (wSt E (a0 17) (a0 18) (a0 19) (a0 20) (a0 21) (a0 22) (a0 23) (a0 24) (a0 25) (a0 26) (a0 27) (a0 28) (a0 29) (a0 30) (a0 31) (a0 32) (st_X10_0 S0 n0).2.1.1.1 (st_X10_0 S0 n0).2.1.1.2.1 (st_X10_0 S0 n0).2.1.1.2.2.1 (st_X10_0 S0 n0).2.1.1.2.2.2 (st_X10_0 S0 n0).2.1.2.1.1 (st_X10_0 S0 n0).2.1.2.1.2.1 (st_X10_0 S0 n0).2.1.2.1.2.2 (st_X10_0 S0 n0).2.1.2.2.1.1 (st_X10_0 S0 n0).2.1.2.2.1.2.1 (st_X10_0 S0 n0).2.1.2.2.1.2.2 (st_X10_0 S0 n0).2.1.2.2.2.1 (st_X10_0 S0 n0).2.1.2.2.2.2.1 (st_X10_0 S0 n0).2.1.2.2.2.2.2) (wWB E a0 (st_X10_0 S0 n0)) = wWB E a0 (st_X10_0 S0 n0) := gmerge_self _ _ _ rfl
  exact gmerge_app2 h0 h1 rfl rfl
set_option maxHeartbeats 4000000 in
set_option maxRecDepth 100000 in
theorem qX10_back {l : Launch} {E : gE} {a0 : Nat → Nat} {fu : Nat} {S0 : sWB}  {r : Int64 × sWB} (hf : fX10_back fu S0  = some r) : CtrF l yX10_back cX10_back 1 (some .long) (gR 5 106) E [.ref (a0 0)] (wWB E a0 S0) (some (.long r.1)) (wWB E a0 r.2) := by
  refine ctr_of false (plainFor_of_name (by decide)) (Nat.le_of_ble_eq_true rfl) (fun q => by cases q) (fun Γ h => ?_)
  refine g_lv [some _] rfl ?_
  rw [fX10_back] at hf
  refine g_aload_n h dX10_back_0 rfl ?_
  refine g_get h flX10_316 dX10_back_1 0 rfl rfl ?_
  refine g_ifb_ne h dX10_back_4 rfl (fun c4 => ?_) (fun c4 => ?_)
  · replace hf := ifb_t c4 hf
    refine g_aload_n h dX10_back_13 rfl ?_
    refine g_get h flX10_10 dX10_back_14 0 rfl rfl ?_
    refine g_aload_n h dX10_back_17 rfl ?_
    refine g_get h flX10_16 dX10_back_18 0 rfl rfl ?_
    obtain ⟨r21, q21, hf⟩ := gbind hf
    refine g_cVv (ws' := wWB E a0 (st_X10_0 S0 r21)) h (qX8_copyFrom (a0 := fun k => a0 (k + 1)) (a1 := fun k => a0 (k + 17)) q21) mX8_copyFrom lkX10_313 dX10_back_21 rfl rfl ⟨Nat.zero_le _, Nat.zero_le _⟩ ⟨by decide, by decide⟩ (Nat.le_of_ble_eq_true rfl) [1, 2, 3, 4, 5, 6, 7, 8, 9, 10, 11, 12, 13, 14, 15, 16, 17, 18, 19, 20, 21, 22, 23, 24, 25, 26, 27, 28, 29, 30, 31, 32] rfl rfl 1 rfl rfl mgX10_19 ?_
    refine g_aload_n h dX10_back_24 rfl ?_
    refine g_get h flX10_36 dX10_back_25 0 rfl rfl ?_
    obtain ⟨r28, q28, hf⟩ := gbind hf
    refine g_cVv (ws' := wWB E a0 (st_X10_5 (st_X10_0 S0 r21) r28)) h (qX6_forget (a0 := fun k => a0 (k + 44)) q28) mX6_forget lkX10_320 dX10_back_28 rfl rfl ⟨Nat.zero_le _, Nat.zero_le _⟩ ⟨by decide, by decide⟩ (Nat.le_of_ble_eq_true rfl) [44, 45] rfl rfl 44 rfl rfl mgX10_5 ?_
    refine g_lconst (v := 1) h dX10_back_31 (by decide) ?_
    have er := Option.some.inj hf
    subst er
    exact g_lreturn h dX10_back_32 rfl ⟨Nat.zero_le _, Nat.zero_le _, rfl, rfl, rfl⟩
  · replace hf := ifb_f c4 hf
    refine g_aload_n h dX10_back_7 rfl ?_
    refine g_iconst (v := 2) h dX10_back_8 (by decide) ?_
    obtain ⟨r9, q9, hf⟩ := gbind hf
    refine g_cVw (ws' := wWB E a0 r9.2) h (qX10_refuse (a0 := a0) q9) mX10_refuse lkX10_67 dX10_back_9 rfl rfl ⟨Nat.zero_le _, Nat.zero_le _⟩ ⟨by decide, by decide⟩ (Nat.le_of_ble_eq_true rfl) [0, 1, 2, 3, 4, 5, 6, 7, 8, 9, 10, 11, 12, 13, 14, 15, 16, 17, 18, 19, 20, 21, 22, 23, 24, 25, 26, 27, 28, 29, 30, 31, 32, 33, 34, 35, 36, 37, 38, 39, 40, 41, 42, 43, 44, 45, 46, 47, 48, 49, 50, 51, 52, 53, 54] rfl rfl 0 rfl rfl mgX10_7 ?_
    have er := Option.some.inj hf
    subst er
    exact g_lreturn h dX10_back_12 rfl ⟨Nat.zero_le _, Nat.zero_le _, rfl, rfl, rfl⟩
def fX10_count (fu : Nat) (S0 : sWB) (v1 : Int32) : Option (Int64 × sWB) := (if v1 = 0 then ((fX0_length S0.1.1).bind fun r47 => (some ((r47.toInt64), S0))) else (if v1 = 1 then ((fX3_length 20 S0.1.2.1).bind fun r59 => (some ((r59.toInt64), S0))) else (if v1 = 2 then ((fX3_length 8 S0.1.2.2.1).bind fun r71 => (some ((r71.toInt64), S0))) else (if v1 = 3 then ((fX7_howMany S0.1.2.2.2).bind fun r83 => (some ((r83.toInt64), S0))) else (if v1 = 4 then ((fX3_length 60 S0.2.2.2.2.2.2.2.2.1).bind fun r95 => (some ((r95.toInt64), S0))) else (if v1 = 5 then (some ((S0.2.2.2.2.2.2.2.2.2.2.1.toInt64), S0)) else ((fX10_refuse fu S0 (1 : Int32)).bind fun r108 => (some (r108.1, r108.2)))))))))
set_option maxHeartbeats 4000000 in
set_option maxRecDepth 100000 in
theorem qX10_count {l : Launch} {E : gE} {a0 : Nat → Nat} {fu : Nat} {S0 : sWB} {v1 : Int32} {r : Int64 × sWB} (hf : fX10_count fu S0 v1 = some r) : CtrF l yX10_count cX10_count 2 (some .long) (gR 2 43) E [.ref (a0 0), .int v1] (wWB E a0 S0) (some (.long r.1)) (wWB E a0 r.2) := by
  refine ctr_of false (plainFor_of_name (by decide)) (Nat.le_of_ble_eq_true rfl) (fun q => by cases q) (fun Γ h => ?_)
  refine g_lv [some _, some _] rfl ?_
  rw [fX10_count] at hf
  refine g_iload_n h dX10_count_0 rfl ?_
  refine g_ts6_0 h dX10_count_1 rfl rfl rfl rfl rfl rfl rfl (fun c1 => ?_) (fun c1 => ?_) (fun c1 => ?_) (fun c1 => ?_) (fun c1 => ?_) (fun c1 => ?_) (fun c1 => ?_)
  · replace hf := ifp_t (ts_eq (k := 0) c1 (by decide)) hf
    refine g_aload_n h dX10_count_40 rfl ?_
    refine g_get h flX10_10 dX10_count_41 0 rfl rfl ?_
    refine g_get h flX10_71 dX10_count_44 1 rfl rfl ?_
    obtain ⟨r47, q47, hf⟩ := gbind hf
    refine g_cVr h (qX0_length (a0 := fun k => a0 (k + 2)) q47) mX0_length lkX10_225 dX10_count_47 rfl rfl ⟨Nat.zero_le _, Nat.zero_le _⟩ ⟨by decide, by decide⟩ (Nat.le_of_ble_eq_true rfl) [2, 3, 4, 5, 6] rfl rfl 2 rfl rfl ?_
    refine g_i2l h dX10_count_50 ?_
    have er := Option.some.inj hf
    subst er
    exact g_lreturn h dX10_count_51 rfl ⟨Nat.zero_le _, Nat.zero_le _, rfl, rfl, rfl⟩
  · replace hf := ifp_f (ts_ne (k := 0) c1 (by decide)) hf
    replace hf := ifp_t (ts_eq (k := 1) c1 (by decide)) hf
    refine g_aload_n h dX10_count_52 rfl ?_
    refine g_get h flX10_10 dX10_count_53 0 rfl rfl ?_
    refine g_get h flX10_111 dX10_count_56 1 rfl rfl ?_
    obtain ⟨r59, q59, hf⟩ := gbind hf
    refine g_cVr h (qX3_length (a0 := fun k => a0 (k + 7)) q59) mX3_length lkX10_125 dX10_count_59 rfl rfl ⟨Nat.zero_le _, Nat.zero_le _⟩ ⟨by decide, by decide⟩ (Nat.le_of_ble_eq_true rfl) [7, 8, 9] rfl rfl 7 rfl rfl ?_
    refine g_i2l h dX10_count_62 ?_
    have er := Option.some.inj hf
    subst er
    exact g_lreturn h dX10_count_63 rfl ⟨Nat.zero_le _, Nat.zero_le _, rfl, rfl, rfl⟩
  · replace hf := ifp_f (ts_ne (k := 0) c1 (by decide)) hf
    replace hf := ifp_f (ts_ne (k := 1) c1 (by decide)) hf
    replace hf := ifp_t (ts_eq (k := 2) c1 (by decide)) hf
    refine g_aload_n h dX10_count_64 rfl ?_
    refine g_get h flX10_10 dX10_count_65 0 rfl rfl ?_
    refine g_get h flX10_242 dX10_count_68 1 rfl rfl ?_
    obtain ⟨r71, q71, hf⟩ := gbind hf
    refine g_cVr h (qX3_length (a0 := fun k => a0 (k + 10)) q71) mX3_length lkX10_125 dX10_count_71 rfl rfl ⟨Nat.zero_le _, Nat.zero_le _⟩ ⟨by decide, by decide⟩ (Nat.le_of_ble_eq_true rfl) [10, 11, 12] rfl rfl 10 rfl rfl ?_
    refine g_i2l h dX10_count_74 ?_
    have er := Option.some.inj hf
    subst er
    exact g_lreturn h dX10_count_75 rfl ⟨Nat.zero_le _, Nat.zero_le _, rfl, rfl, rfl⟩
  · replace hf := ifp_f (ts_ne (k := 0) c1 (by decide)) hf
    replace hf := ifp_f (ts_ne (k := 1) c1 (by decide)) hf
    replace hf := ifp_f (ts_ne (k := 2) c1 (by decide)) hf
    replace hf := ifp_t (ts_eq (k := 3) c1 (by decide)) hf
    refine g_aload_n h dX10_count_76 rfl ?_
    refine g_get h flX10_10 dX10_count_77 0 rfl rfl ?_
    refine g_get h flX10_245 dX10_count_80 1 rfl rfl ?_
    obtain ⟨r83, q83, hf⟩ := gbind hf
    refine g_cVr h (qX7_howMany (a0 := fun k => a0 (k + 13)) q83) mX7_howMany lkX10_323 dX10_count_83 rfl rfl ⟨Nat.zero_le _, Nat.zero_le _⟩ ⟨by decide, by decide⟩ (Nat.le_of_ble_eq_true rfl) [13, 14, 15, 16] rfl rfl 13 rfl rfl ?_
    refine g_i2l h dX10_count_86 ?_
    have er := Option.some.inj hf
    subst er
    exact g_lreturn h dX10_count_87 rfl ⟨Nat.zero_le _, Nat.zero_le _, rfl, rfl, rfl⟩
  · replace hf := ifp_f (ts_ne (k := 0) c1 (by decide)) hf
    replace hf := ifp_f (ts_ne (k := 1) c1 (by decide)) hf
    replace hf := ifp_f (ts_ne (k := 2) c1 (by decide)) hf
    replace hf := ifp_f (ts_ne (k := 3) c1 (by decide)) hf
    replace hf := ifp_t (ts_eq (k := 4) c1 (by decide)) hf
    refine g_aload_n h dX10_count_88 rfl ?_
    refine g_get h flX10_50 dX10_count_89 0 rfl rfl ?_
    refine g_get h flX10_286 dX10_count_92 49 rfl rfl ?_
    obtain ⟨r95, q95, hf⟩ := gbind hf
    refine g_cVr h (qX3_length (a0 := fun k => a0 (k + 50)) q95) mX3_length lkX10_125 dX10_count_95 rfl rfl ⟨Nat.zero_le _, Nat.zero_le _⟩ ⟨by decide, by decide⟩ (Nat.le_of_ble_eq_true rfl) [50, 51, 52] rfl rfl 50 rfl rfl ?_
    refine g_i2l h dX10_count_98 ?_
    have er := Option.some.inj hf
    subst er
    exact g_lreturn h dX10_count_99 rfl ⟨Nat.zero_le _, Nat.zero_le _, rfl, rfl, rfl⟩
  · replace hf := ifp_f (ts_ne (k := 0) c1 (by decide)) hf
    replace hf := ifp_f (ts_ne (k := 1) c1 (by decide)) hf
    replace hf := ifp_f (ts_ne (k := 2) c1 (by decide)) hf
    replace hf := ifp_f (ts_ne (k := 3) c1 (by decide)) hf
    replace hf := ifp_f (ts_ne (k := 4) c1 (by decide)) hf
    replace hf := ifp_t (ts_eq (k := 5) c1 (by decide)) hf
    refine g_aload_n h dX10_count_100 rfl ?_
    refine g_get h flX10_304 dX10_count_101 0 rfl rfl ?_
    refine g_i2l h dX10_count_104 ?_
    have er := Option.some.inj hf
    subst er
    exact g_lreturn h dX10_count_105 rfl ⟨Nat.zero_le _, Nat.zero_le _, rfl, rfl, rfl⟩
  · replace hf := ifp_f (ts_out (k := 0) c1 (by decide)) hf
    replace hf := ifp_f (ts_out (k := 1) c1 (by decide)) hf
    replace hf := ifp_f (ts_out (k := 2) c1 (by decide)) hf
    replace hf := ifp_f (ts_out (k := 3) c1 (by decide)) hf
    replace hf := ifp_f (ts_out (k := 4) c1 (by decide)) hf
    replace hf := ifp_f (ts_out (k := 5) c1 (by decide)) hf
    refine g_aload_n h dX10_count_106 rfl ?_
    refine g_iconst (v := 1) h dX10_count_107 (by decide) ?_
    obtain ⟨r108, q108, hf⟩ := gbind hf
    refine g_cVw (ws' := wWB E a0 r108.2) h (qX10_refuse (a0 := a0) q108) mX10_refuse lkX10_67 dX10_count_108 rfl rfl ⟨Nat.zero_le _, Nat.zero_le _⟩ ⟨by decide, by decide⟩ (Nat.le_of_ble_eq_true rfl) [0, 1, 2, 3, 4, 5, 6, 7, 8, 9, 10, 11, 12, 13, 14, 15, 16, 17, 18, 19, 20, 21, 22, 23, 24, 25, 26, 27, 28, 29, 30, 31, 32, 33, 34, 35, 36, 37, 38, 39, 40, 41, 42, 43, 44, 45, 46, 47, 48, 49, 50, 51, 52, 53, 54] rfl rfl 0 rfl rfl mgX10_7 ?_
    have er := Option.some.inj hf
    subst er
    exact g_lreturn h dX10_count_111 rfl ⟨Nat.zero_le _, Nat.zero_le _, rfl, rfl, rfl⟩
def fX10_found (fu : Nat) (S0 : sWB) (v1 : Int32) : Option (Int64 × sWB) := ((fX2_within v1 (1 : Int32) (7 : Int32)).bind fun r4 => (if r4 = true then ((gIx v1 8).bind fun k21 => (some (((S0.2.2.2.2.2.2.2.2.2.2.2 k21).toInt64), S0))) else ((fX10_refuse fu S0 (1 : Int32)).bind fun r12 => (some (r12.1, r12.2)))))
set_option maxHeartbeats 4000000 in
set_option maxRecDepth 100000 in
theorem qX10_found {l : Launch} {E : gE} {a0 : Nat → Nat} {fu : Nat} {S0 : sWB} {v1 : Int32} {r : Int64 × sWB} (hf : fX10_found fu S0 v1 = some r) : CtrF l yX10_found cX10_found 2 (some .long) (gR 2 43) E [.ref (a0 0), .int v1] (wWB E a0 S0) (some (.long r.1)) (wWB E a0 r.2) := by
  refine ctr_of false (plainFor_of_name (by decide)) (Nat.le_of_ble_eq_true rfl) (fun q => by cases q) (fun Γ h => ?_)
  refine g_lv [some _, some _] rfl ?_
  rw [fX10_found] at hf
  refine g_iload_n h dX10_found_0 rfl ?_
  refine g_iconst (v := 1) h dX10_found_1 (by decide) ?_
  refine g_bipush (v := 7) h dX10_found_2 (by decide) ?_
  obtain ⟨r4, q4, hf⟩ := gbind hf
  refine g_cSr h (qX2_within q4) mX2_within lkX10_129 dX10_found_4 rfl rfl ⟨Nat.zero_le _, Nat.zero_le _⟩ ⟨by decide, by decide⟩ (Nat.le_of_ble_eq_true rfl) [] rfl rfl ?_
  refine g_ifb_ne h dX10_found_7 rfl (fun c7 => ?_) (fun c7 => ?_)
  · replace hf := ifb_t c7 hf
    refine g_aload_n h dX10_found_16 rfl ?_
    refine g_get h flX10_58 dX10_found_17 0 rfl rfl ?_
    refine g_iload_n h dX10_found_20 rfl ?_
    obtain ⟨k21, q21, hf⟩ := gbind hf
    have e21 := (gIx_s q21).1
    have b21 := (gIx_s q21).2
    refine g_iald h dX10_found_21 54 k21 rfl e21 b21 (by decide) ?_
    refine g_i2l h dX10_found_22 ?_
    have er := Option.some.inj hf
    subst er
    exact g_lreturn h dX10_found_23 rfl ⟨Nat.zero_le _, Nat.zero_le _, rfl, rfl, rfl⟩
  · replace hf := ifb_f c7 hf
    refine g_aload_n h dX10_found_10 rfl ?_
    refine g_iconst (v := 1) h dX10_found_11 (by decide) ?_
    obtain ⟨r12, q12, hf⟩ := gbind hf
    refine g_cVw (ws' := wWB E a0 r12.2) h (qX10_refuse (a0 := a0) q12) mX10_refuse lkX10_67 dX10_found_12 rfl rfl ⟨Nat.zero_le _, Nat.zero_le _⟩ ⟨by decide, by decide⟩ (Nat.le_of_ble_eq_true rfl) [0, 1, 2, 3, 4, 5, 6, 7, 8, 9, 10, 11, 12, 13, 14, 15, 16, 17, 18, 19, 20, 21, 22, 23, 24, 25, 26, 27, 28, 29, 30, 31, 32, 33, 34, 35, 36, 37, 38, 39, 40, 41, 42, 43, 44, 45, 46, 47, 48, 49, 50, 51, 52, 53, 54] rfl rfl 0 rfl rfl mgX10_7 ?_
    have er := Option.some.inj hf
    subst er
    exact g_lreturn h dX10_found_15 rfl ⟨Nat.zero_le _, Nat.zero_le _, rfl, rfl, rfl⟩
