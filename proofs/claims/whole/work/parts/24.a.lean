def fX10_refuse (fu : Nat) (S0 : sWB) (v1 : Int32) : Option (Int64 × sWB) := ((fX2_within v1 (1 : Int32) (7 : Int32)).bind fun r4 => (if r4 = true then ((gIx v1 8).bind fun k16 => ((some (st_X10_11 S0 (upd S0.2.2.2.2.2.2.2.2.2.2.2 k16 ((S0.2.2.2.2.2.2.2.2.2.2.2 k16) + (1 : Int32))))).bind fun S0x19 => (some (((-9000000000000000000 : Int64) - (v1.toInt64)), S0x19)))) else (some (((-9000000000000000000 : Int64) - (v1.toInt64)), S0))))
set_option maxHeartbeats 4000000 in
set_option maxRecDepth 100000 in
theorem qX10_refuse {l : Launch} {E : gE} {a0 : Nat → Nat} {fu : Nat} {S0 : sWB} {v1 : Int32} {r : Int64 × sWB} (hf : fX10_refuse fu S0 v1 = some r) : CtrF l yX10_refuse cX10_refuse 2 (some .long) (gR 1 22) E [.ref (a0 0), .int v1] (wWB E a0 S0) (some (.long r.1)) (wWB E a0 r.2) := by
  refine ctr_of false (plainFor_of_name (by decide)) (Nat.le_of_ble_eq_true rfl) (fun q => by cases q) (fun Γ h => ?_)
  refine g_lv [some _, some _] rfl ?_
  rw [fX10_refuse] at hf
  refine g_iload_n h dX10_refuse_0 rfl ?_
  refine g_iconst (v := 1) h dX10_refuse_1 (by decide) ?_
  refine g_bipush (v := 7) h dX10_refuse_2 (by decide) ?_
  obtain ⟨r4, q4, hf⟩ := gbind hf
  refine g_cSr h (qX2_within q4) mX2_within lkX10_129 dX10_refuse_4 rfl rfl ⟨Nat.zero_le _, Nat.zero_le _⟩ ⟨by decide, by decide⟩ (Nat.le_of_ble_eq_true rfl) [] rfl rfl ?_
  refine g_ifb_eq h dX10_refuse_7 rfl (fun c7 => ?_) (fun c7 => ?_)
  · replace hf := ifb_f c7 hf
    refine g_ldc2 (v := (-9000000000000000000)) h dX10_refuse_20 gcX10_326 ?_
    refine g_iload_n h dX10_refuse_23 rfl ?_
    refine g_i2l h dX10_refuse_24 ?_
    refine g_lsub h dX10_refuse_25 ?_
    have er := Option.some.inj hf
    subst er
    exact g_lreturn h dX10_refuse_26 rfl ⟨Nat.zero_le _, Nat.zero_le _, rfl, rfl, rfl⟩
  · replace hf := ifb_t c7 hf
    refine g_aload_n h dX10_refuse_10 rfl ?_
    refine g_get h flX10_58 dX10_refuse_11 0 rfl rfl ?_
    refine g_iload_n h dX10_refuse_14 rfl ?_
    refine g_dup2_11 h dX10_refuse_15 rfl rfl ?_
    obtain ⟨k16, q16, hf⟩ := gbind hf
    have e16 := (gIx_s q16).1
    have b16 := (gIx_s q16).2
    refine g_iald h dX10_refuse_16 54 k16 rfl e16 b16 (by decide) ?_
    refine g_iconst (v := 1) h dX10_refuse_17 (by decide) ?_
    refine g_iadd h dX10_refuse_18 ?_
    obtain ⟨S0x19, w19, hf⟩ := gbind hf
    refine g_iast (ws' := wWB E a0 S0x19) h dX10_refuse_19 54 k16 rfl e16 b16 (by decide) (by cases w19; rfl) ?_
    refine g_ldc2 (v := (-9000000000000000000)) h dX10_refuse_20 gcX10_326 ?_
    refine g_iload_n h dX10_refuse_23 rfl ?_
    refine g_i2l h dX10_refuse_24 ?_
    refine g_lsub h dX10_refuse_25 ?_
    have er := Option.some.inj hf
    subst er
    exact g_lreturn h dX10_refuse_26 rfl ⟨Nat.zero_le _, Nat.zero_le _, rfl, rfl, rfl⟩
def fX10_whyNoSizes (fu : Nat) (S0 : sWB)  : Option (Int32) := ((fX6_areFound S0.2.2.2.2.2.1).bind fun r4 => (if r4 = true then ((fX6_areStale S0.2.2.2.2.2.1).bind fun r16 => (if r16 = true then (some (7 : Int32)) else (some (0 : Int32)))) else (some (2 : Int32))))
set_option maxHeartbeats 4000000 in
set_option maxRecDepth 100000 in
theorem qX10_whyNoSizes {l : Launch} {E : gE} {a0 : Nat → Nat} {fu : Nat} {S0 : sWB}  {r : Int32} (hf : fX10_whyNoSizes fu S0  = some r) : CtrF l yX10_whyNoSizes cX10_whyNoSizes 1 (some .int) (gR 1 20) E [.ref (a0 0)] (wWB E a0 S0) (some (.int r)) (wWB E a0 S0) := by
  refine ctr_of false (plainFor_of_name (by decide)) (Nat.le_of_ble_eq_true rfl) (fun q => by cases q) (fun Γ h => ?_)
  refine g_lv [some _] rfl ?_
  rw [fX10_whyNoSizes] at hf
  refine g_aload_n h dX10_whyNoSizes_0 rfl ?_
  refine g_get h flX10_36 dX10_whyNoSizes_1 0 rfl rfl ?_
  obtain ⟨r4, q4, hf⟩ := gbind hf
  refine g_cVr h (qX6_areFound (a0 := fun k => a0 (k + 44)) q4) mX6_areFound lkX10_328 dX10_whyNoSizes_4 rfl rfl ⟨Nat.zero_le _, Nat.zero_le _⟩ ⟨by decide, by decide⟩ (Nat.le_of_ble_eq_true rfl) [44, 45] rfl rfl 44 rfl rfl ?_
  refine g_ifb_ne h dX10_whyNoSizes_7 rfl (fun c7 => ?_) (fun c7 => ?_)
  · replace hf := ifb_t c7 hf
    refine g_aload_n h dX10_whyNoSizes_12 rfl ?_
    refine g_get h flX10_36 dX10_whyNoSizes_13 0 rfl rfl ?_
    obtain ⟨r16, q16, hf⟩ := gbind hf
    refine g_cVr h (qX6_areStale (a0 := fun k => a0 (k + 44)) q16) mX6_areStale lkX10_331 dX10_whyNoSizes_16 rfl rfl ⟨Nat.zero_le _, Nat.zero_le _⟩ ⟨by decide, by decide⟩ (Nat.le_of_ble_eq_true rfl) [44, 45] rfl rfl 44 rfl rfl ?_
    refine g_ifb_eq h dX10_whyNoSizes_19 rfl (fun c19 => ?_) (fun c19 => ?_)
    · replace hf := ifb_f c19 hf
      refine g_iconst (v := 0) h dX10_whyNoSizes_27 (by decide) ?_
      have er := Option.some.inj hf
      subst er
      exact g_ireturn h dX10_whyNoSizes_28 rfl rfl ⟨Nat.zero_le _, Nat.zero_le _, rfl, rfl, rfl⟩
    · replace hf := ifb_t c19 hf
      refine g_bipush (v := 7) h dX10_whyNoSizes_22 (by decide) ?_
      refine g_goto h dX10_whyNoSizes_24 rfl ?_
      have er := Option.some.inj hf
      subst er
      exact g_ireturn h dX10_whyNoSizes_28 rfl rfl ⟨Nat.zero_le _, Nat.zero_le _, rfl, rfl, rfl⟩
  · replace hf := ifb_f c7 hf
    refine g_iconst (v := 2) h dX10_whyNoSizes_10 (by decide) ?_
    have er := Option.some.inj hf
    subst er
    exact g_ireturn h dX10_whyNoSizes_11 rfl rfl ⟨Nat.zero_le _, Nat.zero_le _, rfl, rfl, rfl⟩
def fX10_whyNoPaper (fu : Nat) (S0 : sWB)  : Option (Int32) := ((fX10_whyNoSizes fu S0).bind fun r1 => (if r1 = 0 then ((fX7_howMany S0.1.2.2.2).bind fun r16 => (if r16 = 0 then (some (6 : Int32)) else (some r1))) else (some r1)))
set_option maxHeartbeats 4000000 in
set_option maxRecDepth 100000 in
theorem qX10_whyNoPaper {l : Launch} {E : gE} {a0 : Nat → Nat} {fu : Nat} {S0 : sWB}  {r : Int32} (hf : fX10_whyNoPaper fu S0  = some r) : CtrF l yX10_whyNoPaper cX10_whyNoPaper 2 (some .int) (gR 2 40) E [.ref (a0 0)] (wWB E a0 S0) (some (.int r)) (wWB E a0 S0) := by
  refine ctr_of false (plainFor_of_name (by decide)) (Nat.le_of_ble_eq_true rfl) (fun q => by cases q) (fun Γ h => ?_)
  refine g_lv [some _, _] rfl ?_
  rw [fX10_whyNoPaper] at hf
  refine g_aload_n h dX10_whyNoPaper_0 rfl ?_
  obtain ⟨r1, q1, hf⟩ := gbind hf
  refine g_cVr h (qX10_whyNoSizes (a0 := a0) q1) mX10_whyNoSizes lkX10_200 dX10_whyNoPaper_1 rfl rfl ⟨Nat.zero_le _, Nat.zero_le _⟩ ⟨by decide, by decide⟩ (Nat.le_of_ble_eq_true rfl) [0, 1, 2, 3, 4, 5, 6, 7, 8, 9, 10, 11, 12, 13, 14, 15, 16, 17, 18, 19, 20, 21, 22, 23, 24, 25, 26, 27, 28, 29, 30, 31, 32, 33, 34, 35, 36, 37, 38, 39, 40, 41, 42, 43, 44, 45, 46, 47, 48, 49, 50, 51, 52, 53, 54] rfl rfl 0 rfl rfl ?_
  refine g_istore_n (lv' := [some _, some _]) h dX10_whyNoPaper_4 (by decide) rfl ?_
  refine g_iload_n h dX10_whyNoPaper_5 rfl ?_
  refine g_if_ne h dX10_whyNoPaper_6 rfl (fun c6 => ?_) (fun c6 => ?_)
  · replace hf := ifp_f c6 hf
    refine g_iload_n h dX10_whyNoPaper_27 rfl ?_
    have er := Option.some.inj hf
    subst er
    exact g_ireturn h dX10_whyNoPaper_28 rfl rfl ⟨Nat.zero_le _, Nat.zero_le _, rfl, rfl, rfl⟩
  · replace hf := ifp_t c6 hf
    refine g_aload_n h dX10_whyNoPaper_9 rfl ?_
    refine g_get h flX10_10 dX10_whyNoPaper_10 0 rfl rfl ?_
    refine g_get h flX10_245 dX10_whyNoPaper_13 1 rfl rfl ?_
    obtain ⟨r16, q16, hf⟩ := gbind hf
    refine g_cVr h (qX7_howMany (a0 := fun k => a0 (k + 13)) q16) mX7_howMany lkX10_323 dX10_whyNoPaper_16 rfl rfl ⟨Nat.zero_le _, Nat.zero_le _⟩ ⟨by decide, by decide⟩ (Nat.le_of_ble_eq_true rfl) [13, 14, 15, 16] rfl rfl 13 rfl rfl ?_
    refine g_if_ne h dX10_whyNoPaper_19 rfl (fun c19 => ?_) (fun c19 => ?_)
    · replace hf := ifp_f c19 hf
      refine g_iload_n h dX10_whyNoPaper_27 rfl ?_
      have er := Option.some.inj hf
      subst er
      exact g_ireturn h dX10_whyNoPaper_28 rfl rfl ⟨Nat.zero_le _, Nat.zero_le _, rfl, rfl, rfl⟩
    · replace hf := ifp_t c19 hf
      refine g_bipush (v := 6) h dX10_whyNoPaper_22 (by decide) ?_
      refine g_goto h dX10_whyNoPaper_24 rfl ?_
      have er := Option.some.inj hf
      subst er
      exact g_ireturn h dX10_whyNoPaper_28 rfl rfl ⟨Nat.zero_le _, Nat.zero_le _, rfl, rfl, rfl⟩
def fX10_isModel (fu : Nat) (S0 : sWB) (v1 : Int32) : Option (Bool) := ((fX0_length S0.1.1).bind fun r8 => (if (v1 &&& ((((1 : Int32) <<< (r8 &&& 31)) - (1 : Int32)) ^^^ (-1 : Int32))) = 0 then ((fJ6_bitCount_0f7a4 v1).bind fun r24 => ((fX2_within r24 (1 : Int32) (4 : Int32)).bind fun r29 => (if r29 = true then (some true) else (some false)))) else (some false)))
set_option maxHeartbeats 4000000 in
set_option maxRecDepth 100000 in
theorem qX10_isModel {l : Launch} {E : gE} {a0 : Nat → Nat} {fu : Nat} {S0 : sWB} {v1 : Int32} {r : Bool} (hf : fX10_isModel fu S0 v1 = some r) : CtrF l yX10_isModel cX10_isModel 3 (some .boolean) (gR 2 40) E [.ref (a0 0), .int v1] (wWB E a0 S0) (some (.int (bI r))) (wWB E a0 S0) := by
  refine ctr_of false (plainFor_of_name (by decide)) (Nat.le_of_ble_eq_true rfl) (fun q => by cases q) (fun Γ h => ?_)
  refine g_lv [some _, some _, _] rfl ?_
  rw [fX10_isModel] at hf
  refine g_iconst (v := 1) h dX10_isModel_0 (by decide) ?_
  refine g_aload_n h dX10_isModel_1 rfl ?_
  refine g_get h flX10_10 dX10_isModel_2 0 rfl rfl ?_
  refine g_get h flX10_71 dX10_isModel_5 1 rfl rfl ?_
  obtain ⟨r8, q8, hf⟩ := gbind hf
  refine g_cVr h (qX0_length (a0 := fun k => a0 (k + 2)) q8) mX0_length lkX10_225 dX10_isModel_8 rfl rfl ⟨Nat.zero_le _, Nat.zero_le _⟩ ⟨by decide, by decide⟩ (Nat.le_of_ble_eq_true rfl) [2, 3, 4, 5, 6] rfl rfl 2 rfl rfl ?_
  refine g_ishl h dX10_isModel_11 ?_
  refine g_iconst (v := 1) h dX10_isModel_12 (by decide) ?_
  refine g_isub h dX10_isModel_13 ?_
  refine g_istore_n (lv' := [some _, some _, some _]) h dX10_isModel_14 (by decide) rfl ?_
  refine g_iload_n h dX10_isModel_15 rfl ?_
  refine g_iload_n h dX10_isModel_16 rfl ?_
  refine g_iconst (v := (-1)) h dX10_isModel_17 (by decide) ?_
  refine g_ixor h dX10_isModel_18 ?_
  refine g_iand h dX10_isModel_19 ?_
  refine g_if_ne h dX10_isModel_20 rfl (fun c20 => ?_) (fun c20 => ?_)
  · replace hf := ifp_f c20 hf
    refine g_iconst (v := 0) h dX10_isModel_39 (by decide) ?_
    have er := Option.some.inj hf
    subst er
    exact g_ireturn h dX10_isModel_40 rfl rfl ⟨Nat.zero_le _, Nat.zero_le _, rfl, rfl, rfl⟩
  · replace hf := ifp_t c20 hf
    refine g_iload_n h dX10_isModel_23 rfl ?_
    obtain ⟨r24, q24, hf⟩ := gbind hf
    refine g_cSr h (qJ6_bitCount_0f7a4 q24) mJ6_bitCount_0f7a4 lkX10_195 dX10_isModel_24 rfl rfl ⟨Nat.zero_le _, Nat.zero_le _⟩ ⟨by decide, by decide⟩ (Nat.le_of_ble_eq_true rfl) [] rfl rfl ?_
    refine g_iconst (v := 1) h dX10_isModel_27 (by decide) ?_
    refine g_iconst (v := 4) h dX10_isModel_28 (by decide) ?_
    obtain ⟨r29, q29, hf⟩ := gbind hf
    refine g_cSr h (qX2_within q29) mX2_within lkX10_129 dX10_isModel_29 rfl rfl ⟨Nat.zero_le _, Nat.zero_le _⟩ ⟨by decide, by decide⟩ (Nat.le_of_ble_eq_true rfl) [] rfl rfl ?_
    refine g_ifb_eq h dX10_isModel_32 rfl (fun c32 => ?_) (fun c32 => ?_)
    · replace hf := ifb_f c32 hf
      refine g_iconst (v := 0) h dX10_isModel_39 (by decide) ?_
      have er := Option.some.inj hf
      subst er
      exact g_ireturn h dX10_isModel_40 rfl rfl ⟨Nat.zero_le _, Nat.zero_le _, rfl, rfl, rfl⟩
    · replace hf := ifb_t c32 hf
      refine g_iconst (v := 1) h dX10_isModel_35 (by decide) ?_
      refine g_goto h dX10_isModel_36 rfl ?_
      have er := Option.some.inj hf
      subst er
      exact g_ireturn h dX10_isModel_40 rfl rfl ⟨Nat.zero_le _, Nat.zero_le _, rfl, rfl, rfl⟩
def fX10_cause (fu : Nat) (S0 : sWB) (v1 : Int32) (v2 : Int32) (v3 : Int32) : Option (Int64 × sWB) := ((fX0_allows v1 v2 v3).bind fun r3 => (if r3 = true then ((fX0_isFull S0.1.1).bind fun r22 => (if r22 = true then ((fX10_refuse fu S0 (5 : Int32)).bind fun r30 => (some (r30.1, r30.2))) else ((fX6_growStale S0.2.2.2.2.2.1).bind fun r38 => ((fX0_append (st_X10_5 S0 r38).1.1 v1 v2 v3).bind fun r51 => (some ((r51.1.toInt64), (st_X10_0_0 (st_X10_5 S0 r38) r51.2))))))) else ((fX10_refuse fu S0 (1 : Int32)).bind fun r11 => (some (r11.1, r11.2)))))
set_option maxRecDepth 100000 in
theorem mgX10_5 {E : gE} {S0 : sWB} {n0 : sSz} {a0 : Nat → Nat} : gmerge [44, 45] (wSz E (a0 44) (a0 45) n0.1 n0.2.1 n0.2.2.1 n0.2.2.2.1 n0.2.2.2.2.1 n0.2.2.2.2.2) (wWB E a0 S0) = wWB E a0 (st_X10_5 S0 n0) := by
  have h0 : gmerge [44, 45] (wSz E (a0 44) (a0 45) n0.1 n0.2.1 n0.2.2.1 n0.2.2.2.1 n0.2.2.2.2.1 n0.2.2.2.2.2) (wWB E a0 S0) = wWB E a0 (st_X10_5 S0 n0) := gmerge_cut 44 2 (Nat.le_of_ble_eq_true rfl) rfl rfl
  exact h0
set_option maxRecDepth 100000 in
theorem mgX10_6 {E : gE} {S0 : sWB} {n0 : sCa} {a0 : Nat → Nat} : gmerge [2, 3, 4, 5, 6] (wCa E (a0 2) (a0 3) (a0 4) (a0 5) (a0 6) n0.1 n0.2.1 n0.2.2.1 n0.2.2.2) (wWB E a0 S0) = wWB E a0 (st_X10_0_0 S0 n0) := by
  have h0 : gmerge [2, 3, 4, 5, 6] (wCa E (a0 2) (a0 3) (a0 4) (a0 5) (a0 6) n0.1 n0.2.1 n0.2.2.1 n0.2.2.2) (wWB E a0 S0) = wWB E a0 (st_X10_0_0 S0 n0) := gmerge_cut 2 5 (Nat.le_of_ble_eq_true rfl) rfl rfl
  exact h0
set_option maxRecDepth 100000 in
theorem mgX10_7 {E : gE} {S0 : sWB} {n0 : sWB} {a0 : Nat → Nat} : gmerge [0, 1, 2, 3, 4, 5, 6, 7, 8, 9, 10, 11, 12, 13, 14, 15, 16, 17, 18, 19, 20, 21, 22, 23, 24, 25, 26, 27, 28, 29, 30, 31, 32, 33, 34, 35, 36, 37, 38, 39, 40, 41, 42, 43, 44, 45, 46, 47, 48, 49, 50, 51, 52, 53, 54] (wWB E a0 n0) (wWB E a0 S0) = wWB E a0 n0 := by
  have h0 : gmerge [0, 1, 2, 3, 4, 5, 6, 7, 8, 9, 10, 11, 12, 13, 14, 15, 16, 17, 18, 19, 20, 21, 22, 23, 24, 25, 26, 27, 28, 29, 30, 31, 32, 33, 34, 35, 36, 37, 38, 39, 40, 41, 42, 43, 44, 45, 46, 47, 48, 49, 50, 51, 52, 53, 54] (wWB E a0 n0) (wWB E a0 S0) = wWB E a0 n0 := gmerge_cut 0 55 (Nat.le_of_ble_eq_true rfl) rfl rfl
  exact h0
set_option maxHeartbeats 4000000 in
set_option maxRecDepth 100000 in
theorem qX10_cause {l : Launch} {E : gE} {a0 : Nat → Nat} {fu : Nat} {S0 : sWB} {v1 : Int32} {v2 : Int32} {v3 : Int32} {r : Int64 × sWB} (hf : fX10_cause fu S0 v1 v2 v3 = some r) : CtrF l yX10_cause cX10_cause 4 (some .long) (gR 3 65) E [.ref (a0 0), .int v1, .int v2, .int v3] (wWB E a0 S0) (some (.long r.1)) (wWB E a0 r.2) := by
  refine ctr_of false (plainFor_of_name (by decide)) (Nat.le_of_ble_eq_true rfl) (fun q => by cases q) (fun Γ h => ?_)
  refine g_lv [some _, some _, some _, some _] rfl ?_
  rw [fX10_cause] at hf
  refine g_iload_n h dX10_cause_0 rfl ?_
  refine g_iload_n h dX10_cause_1 rfl ?_
  refine g_iload_n h dX10_cause_2 rfl ?_
  obtain ⟨r3, q3, hf⟩ := gbind hf
  refine g_cSr h (qX0_allows q3) mX0_allows lkX10_61 dX10_cause_3 rfl rfl ⟨Nat.zero_le _, Nat.zero_le _⟩ ⟨by decide, by decide⟩ (Nat.le_of_ble_eq_true rfl) [] rfl rfl ?_
  refine g_ifb_ne h dX10_cause_6 rfl (fun c6 => ?_) (fun c6 => ?_)
  · replace hf := ifb_t c6 hf
    refine g_aload_n h dX10_cause_15 rfl ?_
    refine g_get h flX10_10 dX10_cause_16 0 rfl rfl ?_
    refine g_get h flX10_71 dX10_cause_19 1 rfl rfl ?_
    obtain ⟨r22, q22, hf⟩ := gbind hf
    refine g_cVr h (qX0_isFull (a0 := fun k => a0 (k + 2)) q22) mX0_isFull lkX10_75 dX10_cause_22 rfl rfl ⟨Nat.zero_le _, Nat.zero_le _⟩ ⟨by decide, by decide⟩ (Nat.le_of_ble_eq_true rfl) [2, 3, 4, 5, 6] rfl rfl 2 rfl rfl ?_
    refine g_ifb_eq h dX10_cause_25 rfl (fun c25 => ?_) (fun c25 => ?_)
    · replace hf := ifb_f c25 hf
      refine g_aload_n h dX10_cause_34 rfl ?_
      refine g_get h flX10_36 dX10_cause_35 0 rfl rfl ?_
      obtain ⟨r38, q38, hf⟩ := gbind hf
      refine g_cVv (ws' := wWB E a0 (st_X10_5 S0 r38)) h (qX6_growStale (a0 := fun k => a0 (k + 44)) q38) mX6_growStale lkX10_79 dX10_cause_38 rfl rfl ⟨Nat.zero_le _, Nat.zero_le _⟩ ⟨by decide, by decide⟩ (Nat.le_of_ble_eq_true rfl) [44, 45] rfl rfl 44 rfl rfl mgX10_5 ?_
      refine g_aload_n h dX10_cause_41 rfl ?_
      refine g_get h flX10_10 dX10_cause_42 0 rfl rfl ?_
      refine g_get h flX10_71 dX10_cause_45 1 rfl rfl ?_
      refine g_iload_n h dX10_cause_48 rfl ?_
      refine g_iload_n h dX10_cause_49 rfl ?_
      refine g_iload_n h dX10_cause_50 rfl ?_
      obtain ⟨r51, q51, hf⟩ := gbind hf
      refine g_cVw (ws' := wWB E a0 (st_X10_0_0 (st_X10_5 S0 r38) r51.2)) h (qX0_append (a0 := fun k => a0 (k + 2)) q51) mX0_append lkX10_82 dX10_cause_51 rfl rfl ⟨Nat.zero_le _, Nat.zero_le _⟩ ⟨by decide, by decide⟩ (Nat.le_of_ble_eq_true rfl) [2, 3, 4, 5, 6] rfl rfl 2 rfl rfl mgX10_6 ?_
      refine g_i2l h dX10_cause_54 ?_
      have er := Option.some.inj hf
      subst er
      exact g_lreturn h dX10_cause_55 rfl ⟨Nat.zero_le _, Nat.zero_le _, rfl, rfl, rfl⟩
    · replace hf := ifb_t c25 hf
      refine g_aload_n h dX10_cause_28 rfl ?_
      refine g_iconst (v := 5) h dX10_cause_29 (by decide) ?_
      obtain ⟨r30, q30, hf⟩ := gbind hf
      refine g_cVw (ws' := wWB E a0 r30.2) h (qX10_refuse (a0 := a0) q30) mX10_refuse lkX10_67 dX10_cause_30 rfl rfl ⟨Nat.zero_le _, Nat.zero_le _⟩ ⟨by decide, by decide⟩ (Nat.le_of_ble_eq_true rfl) [0, 1, 2, 3, 4, 5, 6, 7, 8, 9, 10, 11, 12, 13, 14, 15, 16, 17, 18, 19, 20, 21, 22, 23, 24, 25, 26, 27, 28, 29, 30, 31, 32, 33, 34, 35, 36, 37, 38, 39, 40, 41, 42, 43, 44, 45, 46, 47, 48, 49, 50, 51, 52, 53, 54] rfl rfl 0 rfl rfl mgX10_7 ?_
      have er := Option.some.inj hf
      subst er
      exact g_lreturn h dX10_cause_33 rfl ⟨Nat.zero_le _, Nat.zero_le _, rfl, rfl, rfl⟩
  · replace hf := ifb_f c6 hf
    refine g_aload_n h dX10_cause_9 rfl ?_
    refine g_iconst (v := 1) h dX10_cause_10 (by decide) ?_
    obtain ⟨r11, q11, hf⟩ := gbind hf
    refine g_cVw (ws' := wWB E a0 r11.2) h (qX10_refuse (a0 := a0) q11) mX10_refuse lkX10_67 dX10_cause_11 rfl rfl ⟨Nat.zero_le _, Nat.zero_le _⟩ ⟨by decide, by decide⟩ (Nat.le_of_ble_eq_true rfl) [0, 1, 2, 3, 4, 5, 6, 7, 8, 9, 10, 11, 12, 13, 14, 15, 16, 17, 18, 19, 20, 21, 22, 23, 24, 25, 26, 27, 28, 29, 30, 31, 32, 33, 34, 35, 36, 37, 38, 39, 40, 41, 42, 43, 44, 45, 46, 47, 48, 49, 50, 51, 52, 53, 54] rfl rfl 0 rfl rfl mgX10_7 ?_
    have er := Option.some.inj hf
    subst er
    exact g_lreturn h dX10_cause_14 rfl ⟨Nat.zero_le _, Nat.zero_le _, rfl, rfl, rfl⟩
def fX10_shows (fu : Nat) (S0 : sWB) (v1 : Int32) (v2 : Int32) : Option (Int64 × sWB) := ((fX0_has S0.1.1 v1).bind fun r8 => (if r8 = true then ((fX10_isState v2).bind fun r15 => (if r15 = true then ((fX0_shownIn S0.1.1 v1 v2).bind fun r36 => (some ((r36.toInt64), S0))) else ((fX10_refuse fu S0 (1 : Int32)).bind fun r23 => (some (r23.1, r23.2))))) else ((fX10_refuse fu S0 (1 : Int32)).bind fun r23 => (some (r23.1, r23.2)))))
set_option maxHeartbeats 4000000 in
set_option maxRecDepth 100000 in
theorem qX10_shows {l : Launch} {E : gE} {a0 : Nat → Nat} {fu : Nat} {S0 : sWB} {v1 : Int32} {v2 : Int32} {r : Int64 × sWB} (hf : fX10_shows fu S0 v1 v2 = some r) : CtrF l yX10_shows cX10_shows 3 (some .long) (gR 3 69) E [.ref (a0 0), .int v1, .int v2] (wWB E a0 S0) (some (.long r.1)) (wWB E a0 r.2) := by
  refine ctr_of false (plainFor_of_name (by decide)) (Nat.le_of_ble_eq_true rfl) (fun q => by cases q) (fun Γ h => ?_)
  refine g_lv [some _, some _, some _] rfl ?_
  rw [fX10_shows] at hf
  refine g_aload_n h dX10_shows_0 rfl ?_
  refine g_get h flX10_10 dX10_shows_1 0 rfl rfl ?_
  refine g_get h flX10_71 dX10_shows_4 1 rfl rfl ?_
  refine g_iload_n h dX10_shows_7 rfl ?_
  obtain ⟨r8, q8, hf⟩ := gbind hf
  refine g_cVr h (qX0_has (a0 := fun k => a0 (k + 2)) q8) mX0_has lkX10_86 dX10_shows_8 rfl rfl ⟨Nat.zero_le _, Nat.zero_le _⟩ ⟨by decide, by decide⟩ (Nat.le_of_ble_eq_true rfl) [2, 3, 4, 5, 6] rfl rfl 2 rfl rfl ?_
  refine g_ifb_eq h dX10_shows_11 rfl (fun c11 => ?_) (fun c11 => ?_)
  · replace hf := ifb_f c11 hf
    refine g_aload_n h dX10_shows_21 rfl ?_
    refine g_iconst (v := 1) h dX10_shows_22 (by decide) ?_
    obtain ⟨r23, q23, hf⟩ := gbind hf
    refine g_cVw (ws' := wWB E a0 r23.2) h (qX10_refuse (a0 := a0) q23) mX10_refuse lkX10_67 dX10_shows_23 rfl rfl ⟨Nat.zero_le _, Nat.zero_le _⟩ ⟨by decide, by decide⟩ (Nat.le_of_ble_eq_true rfl) [0, 1, 2, 3, 4, 5, 6, 7, 8, 9, 10, 11, 12, 13, 14, 15, 16, 17, 18, 19, 20, 21, 22, 23, 24, 25, 26, 27, 28, 29, 30, 31, 32, 33, 34, 35, 36, 37, 38, 39, 40, 41, 42, 43, 44, 45, 46, 47, 48, 49, 50, 51, 52, 53, 54] rfl rfl 0 rfl rfl mgX10_7 ?_
    have er := Option.some.inj hf
    subst er
    exact g_lreturn h dX10_shows_26 rfl ⟨Nat.zero_le _, Nat.zero_le _, rfl, rfl, rfl⟩
  · replace hf := ifb_t c11 hf
    refine g_iload_n h dX10_shows_14 rfl ?_
    obtain ⟨r15, q15, hf⟩ := gbind hf
    refine g_cSr h (qX10_isState q15) mX10_isState lkX10_90 dX10_shows_15 rfl rfl ⟨Nat.zero_le _, Nat.zero_le _⟩ ⟨by decide, by decide⟩ (Nat.le_of_ble_eq_true rfl) [] rfl rfl ?_
    refine g_ifb_ne h dX10_shows_18 rfl (fun c18 => ?_) (fun c18 => ?_)
    · replace hf := ifb_t c18 hf
      refine g_aload_n h dX10_shows_27 rfl ?_
      refine g_get h flX10_10 dX10_shows_28 0 rfl rfl ?_
      refine g_get h flX10_71 dX10_shows_31 1 rfl rfl ?_
      refine g_iload_n h dX10_shows_34 rfl ?_
      refine g_iload_n h dX10_shows_35 rfl ?_
      obtain ⟨r36, q36, hf⟩ := gbind hf
      refine g_cVr h (qX0_shownIn (a0 := fun k => a0 (k + 2)) q36) mX0_shownIn lkX10_93 dX10_shows_36 rfl rfl ⟨Nat.zero_le _, Nat.zero_le _⟩ ⟨by decide, by decide⟩ (Nat.le_of_ble_eq_true rfl) [2, 3, 4, 5, 6] rfl rfl 2 rfl rfl ?_
      refine g_i2l h dX10_shows_39 ?_
      have er := Option.some.inj hf
      subst er
      exact g_lreturn h dX10_shows_40 rfl ⟨Nat.zero_le _, Nat.zero_le _, rfl, rfl, rfl⟩
    · replace hf := ifb_f c18 hf
      refine g_aload_n h dX10_shows_21 rfl ?_
      refine g_iconst (v := 1) h dX10_shows_22 (by decide) ?_
      obtain ⟨r23, q23, hf⟩ := gbind hf
      refine g_cVw (ws' := wWB E a0 r23.2) h (qX10_refuse (a0 := a0) q23) mX10_refuse lkX10_67 dX10_shows_23 rfl rfl ⟨Nat.zero_le _, Nat.zero_le _⟩ ⟨by decide, by decide⟩ (Nat.le_of_ble_eq_true rfl) [0, 1, 2, 3, 4, 5, 6, 7, 8, 9, 10, 11, 12, 13, 14, 15, 16, 17, 18, 19, 20, 21, 22, 23, 24, 25, 26, 27, 28, 29, 30, 31, 32, 33, 34, 35, 36, 37, 38, 39, 40, 41, 42, 43, 44, 45, 46, 47, 48, 49, 50, 51, 52, 53, 54] rfl rfl 0 rfl rfl mgX10_7 ?_
      have er := Option.some.inj hf
      subst er
      exact g_lreturn h dX10_shows_26 rfl ⟨Nat.zero_le _, Nat.zero_le _, rfl, rfl, rfl⟩
def fX10_as (fu : Nat) (S0 : sWB) (v1 : Int32) (v2 : Int32) : Option (Int64 × sWB) := ((fX0_has S0.1.1 v1).bind fun r8 => (if r8 = true then ((fX0_isKind v2).bind fun r15 => (if r15 = true then ((fX0_isOf fu S0.1.1 v1 v2).bind fun r36 => (if r36 = true then ((fX0_numberA S0.1.1 v1).bind fun r56 => (some ((r56.toInt64), S0))) else ((fX10_refuse fu S0 (3 : Int32)).bind fun r44 => (some (r44.1, r44.2))))) else ((fX10_refuse fu S0 (1 : Int32)).bind fun r23 => (some (r23.1, r23.2))))) else ((fX10_refuse fu S0 (1 : Int32)).bind fun r23 => (some (r23.1, r23.2)))))
set_option maxHeartbeats 4000000 in
set_option maxRecDepth 100000 in
theorem qX10_as {l : Launch} {E : gE} {a0 : Nat → Nat} {fu : Nat} {S0 : sWB} {v1 : Int32} {v2 : Int32} {r : Int64 × sWB} (hf : fX10_as fu S0 v1 v2 = some r) : CtrF l yX10_as cX10_as 3 (some .long) (gR 3 66) E [.ref (a0 0), .int v1, .int v2] (wWB E a0 S0) (some (.long r.1)) (wWB E a0 r.2) := by
  refine ctr_of false (plainFor_of_name (by decide)) (Nat.le_of_ble_eq_true rfl) (fun q => by cases q) (fun Γ h => ?_)
  refine g_lv [some _, some _, some _] rfl ?_
  rw [fX10_as] at hf
  refine g_aload_n h dX10_as_0 rfl ?_
  refine g_get h flX10_10 dX10_as_1 0 rfl rfl ?_
  refine g_get h flX10_71 dX10_as_4 1 rfl rfl ?_
  refine g_iload_n h dX10_as_7 rfl ?_
  obtain ⟨r8, q8, hf⟩ := gbind hf
  refine g_cVr h (qX0_has (a0 := fun k => a0 (k + 2)) q8) mX0_has lkX10_86 dX10_as_8 rfl rfl ⟨Nat.zero_le _, Nat.zero_le _⟩ ⟨by decide, by decide⟩ (Nat.le_of_ble_eq_true rfl) [2, 3, 4, 5, 6] rfl rfl 2 rfl rfl ?_
  refine g_ifb_eq h dX10_as_11 rfl (fun c11 => ?_) (fun c11 => ?_)
  · replace hf := ifb_f c11 hf
    refine g_aload_n h dX10_as_21 rfl ?_
    refine g_iconst (v := 1) h dX10_as_22 (by decide) ?_
    obtain ⟨r23, q23, hf⟩ := gbind hf
    refine g_cVw (ws' := wWB E a0 r23.2) h (qX10_refuse (a0 := a0) q23) mX10_refuse lkX10_67 dX10_as_23 rfl rfl ⟨Nat.zero_le _, Nat.zero_le _⟩ ⟨by decide, by decide⟩ (Nat.le_of_ble_eq_true rfl) [0, 1, 2, 3, 4, 5, 6, 7, 8, 9, 10, 11, 12, 13, 14, 15, 16, 17, 18, 19, 20, 21, 22, 23, 24, 25, 26, 27, 28, 29, 30, 31, 32, 33, 34, 35, 36, 37, 38, 39, 40, 41, 42, 43, 44, 45, 46, 47, 48, 49, 50, 51, 52, 53, 54] rfl rfl 0 rfl rfl mgX10_7 ?_
    have er := Option.some.inj hf
    subst er
    exact g_lreturn h dX10_as_26 rfl ⟨Nat.zero_le _, Nat.zero_le _, rfl, rfl, rfl⟩
  · replace hf := ifb_t c11 hf
    refine g_iload_n h dX10_as_14 rfl ?_
    obtain ⟨r15, q15, hf⟩ := gbind hf
    refine g_cSr h (qX0_isKind q15) mX0_isKind lkX10_97 dX10_as_15 rfl rfl ⟨Nat.zero_le _, Nat.zero_le _⟩ ⟨by decide, by decide⟩ (Nat.le_of_ble_eq_true rfl) [] rfl rfl ?_
    refine g_ifb_ne h dX10_as_18 rfl (fun c18 => ?_) (fun c18 => ?_)
    · replace hf := ifb_t c18 hf
      refine g_aload_n h dX10_as_27 rfl ?_
      refine g_get h flX10_10 dX10_as_28 0 rfl rfl ?_
      refine g_get h flX10_71 dX10_as_31 1 rfl rfl ?_
      refine g_iload_n h dX10_as_34 rfl ?_
      refine g_iload_n h dX10_as_35 rfl ?_
      obtain ⟨r36, q36, hf⟩ := gbind hf
      refine g_cVr h (qX0_isOf (a0 := fun k => a0 (k + 2)) q36) mX0_isOf lkX10_100 dX10_as_36 rfl rfl ⟨Nat.zero_le _, Nat.zero_le _⟩ ⟨by decide, by decide⟩ (Nat.le_of_ble_eq_true rfl) [2, 3, 4, 5, 6] rfl rfl 2 rfl rfl ?_
      refine g_ifb_ne h dX10_as_39 rfl (fun c39 => ?_) (fun c39 => ?_)
      · replace hf := ifb_t c39 hf
        refine g_aload_n h dX10_as_48 rfl ?_
        refine g_get h flX10_10 dX10_as_49 0 rfl rfl ?_
        refine g_get h flX10_71 dX10_as_52 1 rfl rfl ?_
        refine g_iload_n h dX10_as_55 rfl ?_
        obtain ⟨r56, q56, hf⟩ := gbind hf
        refine g_cVr h (qX0_numberA (a0 := fun k => a0 (k + 2)) q56) mX0_numberA lkX10_104 dX10_as_56 rfl rfl ⟨Nat.zero_le _, Nat.zero_le _⟩ ⟨by decide, by decide⟩ (Nat.le_of_ble_eq_true rfl) [2, 3, 4, 5, 6] rfl rfl 2 rfl rfl ?_
        refine g_i2l h dX10_as_59 ?_
        have er := Option.some.inj hf
        subst er
        exact g_lreturn h dX10_as_60 rfl ⟨Nat.zero_le _, Nat.zero_le _, rfl, rfl, rfl⟩
      · replace hf := ifb_f c39 hf
        refine g_aload_n h dX10_as_42 rfl ?_
        refine g_iconst (v := 3) h dX10_as_43 (by decide) ?_
        obtain ⟨r44, q44, hf⟩ := gbind hf
        refine g_cVw (ws' := wWB E a0 r44.2) h (qX10_refuse (a0 := a0) q44) mX10_refuse lkX10_67 dX10_as_44 rfl rfl ⟨Nat.zero_le _, Nat.zero_le _⟩ ⟨by decide, by decide⟩ (Nat.le_of_ble_eq_true rfl) [0, 1, 2, 3, 4, 5, 6, 7, 8, 9, 10, 11, 12, 13, 14, 15, 16, 17, 18, 19, 20, 21, 22, 23, 24, 25, 26, 27, 28, 29, 30, 31, 32, 33, 34, 35, 36, 37, 38, 39, 40, 41, 42, 43, 44, 45, 46, 47, 48, 49, 50, 51, 52, 53, 54] rfl rfl 0 rfl rfl mgX10_7 ?_
        have er := Option.some.inj hf
        subst er
        exact g_lreturn h dX10_as_47 rfl ⟨Nat.zero_le _, Nat.zero_le _, rfl, rfl, rfl⟩
    · replace hf := ifb_f c18 hf
      refine g_aload_n h dX10_as_21 rfl ?_
      refine g_iconst (v := 1) h dX10_as_22 (by decide) ?_
      obtain ⟨r23, q23, hf⟩ := gbind hf
      refine g_cVw (ws' := wWB E a0 r23.2) h (qX10_refuse (a0 := a0) q23) mX10_refuse lkX10_67 dX10_as_23 rfl rfl ⟨Nat.zero_le _, Nat.zero_le _⟩ ⟨by decide, by decide⟩ (Nat.le_of_ble_eq_true rfl) [0, 1, 2, 3, 4, 5, 6, 7, 8, 9, 10, 11, 12, 13, 14, 15, 16, 17, 18, 19, 20, 21, 22, 23, 24, 25, 26, 27, 28, 29, 30, 31, 32, 33, 34, 35, 36, 37, 38, 39, 40, 41, 42, 43, 44, 45, 46, 47, 48, 49, 50, 51, 52, 53, 54] rfl rfl 0 rfl rfl mgX10_7 ?_
      have er := Option.some.inj hf
      subst er
      exact g_lreturn h dX10_as_26 rfl ⟨Nat.zero_le _, Nat.zero_le _, rfl, rfl, rfl⟩
def fX10_read (fu : Nat) (S0 : sWB) (v1 : Int32) (v2 : Int32) : Option (Int64 × sWB) := ((fX10_isState v1).bind fun r1 => (if r1 = true then ((fX10_isRate v2).bind fun r8 => (if r8 = true then ((fX3_isFull 20 S0.1.2.1).bind fun r27 => (if r27 = true then ((fX10_refuse fu S0 (5 : Int32)).bind fun r35 => (some (r35.1, r35.2))) else ((fX6_growStale S0.2.2.2.2.2.1).bind fun r43 => ((fX3_append 20 (st_X10_5 S0 r43).1.2.1 v1 v2).bind fun r55 => (some ((r55.1.toInt64), (st_X10_0_1 (st_X10_5 S0 r43) r55.2))))))) else ((fX10_refuse fu S0 (1 : Int32)).bind fun r16 => (some (r16.1, r16.2))))) else ((fX10_refuse fu S0 (1 : Int32)).bind fun r16 => (some (r16.1, r16.2)))))
set_option maxRecDepth 100000 in
theorem mgX10_8 {E : gE} {S0 : sWB} {n0 : sPr} {a0 : Nat → Nat} : gmerge [7, 8, 9] (wPr E (a0 7) (a0 8) (a0 9) 20 n0.1 n0.2.1 n0.2.2) (wWB E a0 S0) = wWB E a0 (st_X10_0_1 S0 n0) := by
  have h0 : gmerge [7, 8, 9] (wPr E (a0 7) (a0 8) (a0 9) 20 n0.1 n0.2.1 n0.2.2) (wWB E a0 S0) = wWB E a0 (st_X10_0_1 S0 n0) := gmerge_cut 7 3 (Nat.le_of_ble_eq_true rfl) rfl rfl
  exact h0
set_option maxHeartbeats 4000000 in
set_option maxRecDepth 100000 in
theorem qX10_read {l : Launch} {E : gE} {a0 : Nat → Nat} {fu : Nat} {S0 : sWB} {v1 : Int32} {v2 : Int32} {r : Int64 × sWB} (hf : fX10_read fu S0 v1 v2 = some r) : CtrF l yX10_read cX10_read 3 (some .long) (gR 2 43) E [.ref (a0 0), .int v1, .int v2] (wWB E a0 S0) (some (.long r.1)) (wWB E a0 r.2) := by
  refine ctr_of false (plainFor_of_name (by decide)) (Nat.le_of_ble_eq_true rfl) (fun q => by cases q) (fun Γ h => ?_)
  refine g_lv [some _, some _, some _] rfl ?_
  rw [fX10_read] at hf
  refine g_iload_n h dX10_read_0 rfl ?_
  obtain ⟨r1, q1, hf⟩ := gbind hf
  refine g_cSr h (qX10_isState q1) mX10_isState lkX10_90 dX10_read_1 rfl rfl ⟨Nat.zero_le _, Nat.zero_le _⟩ ⟨by decide, by decide⟩ (Nat.le_of_ble_eq_true rfl) [] rfl rfl ?_
  refine g_ifb_eq h dX10_read_4 rfl (fun c4 => ?_) (fun c4 => ?_)
  · replace hf := ifb_f c4 hf
    refine g_aload_n h dX10_read_14 rfl ?_
    refine g_iconst (v := 1) h dX10_read_15 (by decide) ?_
    obtain ⟨r16, q16, hf⟩ := gbind hf
    refine g_cVw (ws' := wWB E a0 r16.2) h (qX10_refuse (a0 := a0) q16) mX10_refuse lkX10_67 dX10_read_16 rfl rfl ⟨Nat.zero_le _, Nat.zero_le _⟩ ⟨by decide, by decide⟩ (Nat.le_of_ble_eq_true rfl) [0, 1, 2, 3, 4, 5, 6, 7, 8, 9, 10, 11, 12, 13, 14, 15, 16, 17, 18, 19, 20, 21, 22, 23, 24, 25, 26, 27, 28, 29, 30, 31, 32, 33, 34, 35, 36, 37, 38, 39, 40, 41, 42, 43, 44, 45, 46, 47, 48, 49, 50, 51, 52, 53, 54] rfl rfl 0 rfl rfl mgX10_7 ?_
    have er := Option.some.inj hf
    subst er
    exact g_lreturn h dX10_read_19 rfl ⟨Nat.zero_le _, Nat.zero_le _, rfl, rfl, rfl⟩
  · replace hf := ifb_t c4 hf
    refine g_iload_n h dX10_read_7 rfl ?_
    obtain ⟨r8, q8, hf⟩ := gbind hf
    refine g_cSr h (qX10_isRate q8) mX10_isRate lkX10_108 dX10_read_8 rfl rfl ⟨Nat.zero_le _, Nat.zero_le _⟩ ⟨by decide, by decide⟩ (Nat.le_of_ble_eq_true rfl) [] rfl rfl ?_
    refine g_ifb_ne h dX10_read_11 rfl (fun c11 => ?_) (fun c11 => ?_)
    · replace hf := ifb_t c11 hf
      refine g_aload_n h dX10_read_20 rfl ?_
      refine g_get h flX10_10 dX10_read_21 0 rfl rfl ?_
      refine g_get h flX10_111 dX10_read_24 1 rfl rfl ?_
      obtain ⟨r27, q27, hf⟩ := gbind hf
      refine g_cVr h (qX3_isFull (a0 := fun k => a0 (k + 7)) q27) mX3_isFull lkX10_115 dX10_read_27 rfl rfl ⟨Nat.zero_le _, Nat.zero_le _⟩ ⟨by decide, by decide⟩ (Nat.le_of_ble_eq_true rfl) [7, 8, 9] rfl rfl 7 rfl rfl ?_
      refine g_ifb_eq h dX10_read_30 rfl (fun c30 => ?_) (fun c30 => ?_)
      · replace hf := ifb_f c30 hf
        refine g_aload_n h dX10_read_39 rfl ?_
        refine g_get h flX10_36 dX10_read_40 0 rfl rfl ?_
        obtain ⟨r43, q43, hf⟩ := gbind hf
        refine g_cVv (ws' := wWB E a0 (st_X10_5 S0 r43)) h (qX6_growStale (a0 := fun k => a0 (k + 44)) q43) mX6_growStale lkX10_79 dX10_read_43 rfl rfl ⟨Nat.zero_le _, Nat.zero_le _⟩ ⟨by decide, by decide⟩ (Nat.le_of_ble_eq_true rfl) [44, 45] rfl rfl 44 rfl rfl mgX10_5 ?_
        refine g_aload_n h dX10_read_46 rfl ?_
        refine g_get h flX10_10 dX10_read_47 0 rfl rfl ?_
        refine g_get h flX10_111 dX10_read_50 1 rfl rfl ?_
        refine g_iload_n h dX10_read_53 rfl ?_
        refine g_iload_n h dX10_read_54 rfl ?_
        obtain ⟨r55, q55, hf⟩ := gbind hf
        refine g_cVw (ws' := wWB E a0 (st_X10_0_1 (st_X10_5 S0 r43) r55.2)) h (qX3_append (a0 := fun k => a0 (k + 7)) q55) mX3_append lkX10_118 dX10_read_55 rfl rfl ⟨Nat.zero_le _, Nat.zero_le _⟩ ⟨by decide, by decide⟩ (Nat.le_of_ble_eq_true rfl) [7, 8, 9] rfl rfl 7 rfl rfl mgX10_8 ?_
        refine g_i2l h dX10_read_58 ?_
        have er := Option.some.inj hf
        subst er
        exact g_lreturn h dX10_read_59 rfl ⟨Nat.zero_le _, Nat.zero_le _, rfl, rfl, rfl⟩
      · replace hf := ifb_t c30 hf
        refine g_aload_n h dX10_read_33 rfl ?_
        refine g_iconst (v := 5) h dX10_read_34 (by decide) ?_
        obtain ⟨r35, q35, hf⟩ := gbind hf
        refine g_cVw (ws' := wWB E a0 r35.2) h (qX10_refuse (a0 := a0) q35) mX10_refuse lkX10_67 dX10_read_35 rfl rfl ⟨Nat.zero_le _, Nat.zero_le _⟩ ⟨by decide, by decide⟩ (Nat.le_of_ble_eq_true rfl) [0, 1, 2, 3, 4, 5, 6, 7, 8, 9, 10, 11, 12, 13, 14, 15, 16, 17, 18, 19, 20, 21, 22, 23, 24, 25, 26, 27, 28, 29, 30, 31, 32, 33, 34, 35, 36, 37, 38, 39, 40, 41, 42, 43, 44, 45, 46, 47, 48, 49, 50, 51, 52, 53, 54] rfl rfl 0 rfl rfl mgX10_7 ?_
        have er := Option.some.inj hf
        subst er
        exact g_lreturn h dX10_read_38 rfl ⟨Nat.zero_le _, Nat.zero_le _, rfl, rfl, rfl⟩
    · replace hf := ifb_f c11 hf
      refine g_aload_n h dX10_read_14 rfl ?_
      refine g_iconst (v := 1) h dX10_read_15 (by decide) ?_
      obtain ⟨r16, q16, hf⟩ := gbind hf
      refine g_cVw (ws' := wWB E a0 r16.2) h (qX10_refuse (a0 := a0) q16) mX10_refuse lkX10_67 dX10_read_16 rfl rfl ⟨Nat.zero_le _, Nat.zero_le _⟩ ⟨by decide, by decide⟩ (Nat.le_of_ble_eq_true rfl) [0, 1, 2, 3, 4, 5, 6, 7, 8, 9, 10, 11, 12, 13, 14, 15, 16, 17, 18, 19, 20, 21, 22, 23, 24, 25, 26, 27, 28, 29, 30, 31, 32, 33, 34, 35, 36, 37, 38, 39, 40, 41, 42, 43, 44, 45, 46, 47, 48, 49, 50, 51, 52, 53, 54] rfl rfl 0 rfl rfl mgX10_7 ?_
      have er := Option.some.inj hf
      subst er
      exact g_lreturn h dX10_read_19 rfl ⟨Nat.zero_le _, Nat.zero_le _, rfl, rfl, rfl⟩
def fX10_drop (fu : Nat) (S0 : sWB) (v1 : Int32) : Option (Int64 × sWB) := ((fX3_has 20 S0.1.2.1 v1).bind fun r8 => (if r8 = true then ((fX6_growStale S0.2.2.2.2.2.1).bind fun r24 => ((fX3_removeAt 20 (st_X10_5 S0 r24).1.2.1 v1).bind fun r35 => ((fX3_length 20 (st_X10_0_1 (st_X10_5 S0 r24) r35).1.2.1).bind fun r45 => (some ((r45.toInt64), (st_X10_0_1 (st_X10_5 S0 r24) r35)))))) else ((fX10_refuse fu S0 (1 : Int32)).bind fun r16 => (some (r16.1, r16.2)))))
set_option maxHeartbeats 4000000 in
set_option maxRecDepth 100000 in
theorem qX10_drop {l : Launch} {E : gE} {a0 : Nat → Nat} {fu : Nat} {S0 : sWB} {v1 : Int32} {r : Int64 × sWB} (hf : fX10_drop fu S0 v1 = some r) : CtrF l yX10_drop cX10_drop 2 (some .long) (gR 2 43) E [.ref (a0 0), .int v1] (wWB E a0 S0) (some (.long r.1)) (wWB E a0 r.2) := by
  refine ctr_of false (plainFor_of_name (by decide)) (Nat.le_of_ble_eq_true rfl) (fun q => by cases q) (fun Γ h => ?_)
  refine g_lv [some _, some _] rfl ?_
  rw [fX10_drop] at hf
  refine g_aload_n h dX10_drop_0 rfl ?_
  refine g_get h flX10_10 dX10_drop_1 0 rfl rfl ?_
  refine g_get h flX10_111 dX10_drop_4 1 rfl rfl ?_
  refine g_iload_n h dX10_drop_7 rfl ?_
  obtain ⟨r8, q8, hf⟩ := gbind hf
  refine g_cVr h (qX3_has (a0 := fun k => a0 (k + 7)) q8) mX3_has lkX10_120 dX10_drop_8 rfl rfl ⟨Nat.zero_le _, Nat.zero_le _⟩ ⟨by decide, by decide⟩ (Nat.le_of_ble_eq_true rfl) [7, 8, 9] rfl rfl 7 rfl rfl ?_
  refine g_ifb_ne h dX10_drop_11 rfl (fun c11 => ?_) (fun c11 => ?_)
  · replace hf := ifb_t c11 hf
    refine g_aload_n h dX10_drop_20 rfl ?_
    refine g_get h flX10_36 dX10_drop_21 0 rfl rfl ?_
    obtain ⟨r24, q24, hf⟩ := gbind hf
    refine g_cVv (ws' := wWB E a0 (st_X10_5 S0 r24)) h (qX6_growStale (a0 := fun k => a0 (k + 44)) q24) mX6_growStale lkX10_79 dX10_drop_24 rfl rfl ⟨Nat.zero_le _, Nat.zero_le _⟩ ⟨by decide, by decide⟩ (Nat.le_of_ble_eq_true rfl) [44, 45] rfl rfl 44 rfl rfl mgX10_5 ?_
    refine g_aload_n h dX10_drop_27 rfl ?_
    refine g_get h flX10_10 dX10_drop_28 0 rfl rfl ?_
    refine g_get h flX10_111 dX10_drop_31 1 rfl rfl ?_
    refine g_iload_n h dX10_drop_34 rfl ?_
    obtain ⟨r35, q35, hf⟩ := gbind hf
    refine g_cVv (ws' := wWB E a0 (st_X10_0_1 (st_X10_5 S0 r24) r35)) h (qX3_removeAt (a0 := fun k => a0 (k + 7)) q35) mX3_removeAt lkX10_121 dX10_drop_35 rfl rfl ⟨Nat.zero_le _, Nat.zero_le _⟩ ⟨by decide, by decide⟩ (Nat.le_of_ble_eq_true rfl) [7, 8, 9] rfl rfl 7 rfl rfl mgX10_8 ?_
    refine g_aload_n h dX10_drop_38 rfl ?_
    refine g_get h flX10_10 dX10_drop_39 0 rfl rfl ?_
    refine g_get h flX10_111 dX10_drop_42 1 rfl rfl ?_
    obtain ⟨r45, q45, hf⟩ := gbind hf
    refine g_cVr h (qX3_length (a0 := fun k => a0 (k + 7)) q45) mX3_length lkX10_125 dX10_drop_45 rfl rfl ⟨Nat.zero_le _, Nat.zero_le _⟩ ⟨by decide, by decide⟩ (Nat.le_of_ble_eq_true rfl) [7, 8, 9] rfl rfl 7 rfl rfl ?_
    refine g_i2l h dX10_drop_48 ?_
    have er := Option.some.inj hf
    subst er
    exact g_lreturn h dX10_drop_49 rfl ⟨Nat.zero_le _, Nat.zero_le _, rfl, rfl, rfl⟩
  · replace hf := ifb_f c11 hf
    refine g_aload_n h dX10_drop_14 rfl ?_
    refine g_iconst (v := 1) h dX10_drop_15 (by decide) ?_
    obtain ⟨r16, q16, hf⟩ := gbind hf
    refine g_cVw (ws' := wWB E a0 r16.2) h (qX10_refuse (a0 := a0) q16) mX10_refuse lkX10_67 dX10_drop_16 rfl rfl ⟨Nat.zero_le _, Nat.zero_le _⟩ ⟨by decide, by decide⟩ (Nat.le_of_ble_eq_true rfl) [0, 1, 2, 3, 4, 5, 6, 7, 8, 9, 10, 11, 12, 13, 14, 15, 16, 17, 18, 19, 20, 21, 22, 23, 24, 25, 26, 27, 28, 29, 30, 31, 32, 33, 34, 35, 36, 37, 38, 39, 40, 41, 42, 43, 44, 45, 46, 47, 48, 49, 50, 51, 52, 53, 54] rfl rfl 0 rfl rfl mgX10_7 ?_
    have er := Option.some.inj hf
    subst er
    exact g_lreturn h dX10_drop_19 rfl ⟨Nat.zero_le _, Nat.zero_le _, rfl, rfl, rfl⟩
def fX10_reading (fu : Nat) (S0 : sWB) (v1 : Int32) (v2 : Int32) : Option (Int64 × sWB) := ((fX3_has 20 S0.1.2.1 v1).bind fun r8 => (if r8 = true then ((fX2_within v2 (0 : Int32) (1 : Int32)).bind fun r17 => (if r17 = true then (if v2 = 0 then ((fX3_first 20 S0.1.2.1 v1).bind fun r41 => (some ((r41.toInt64), S0))) else ((fX3_second 20 S0.1.2.1 v1).bind fun r56 => (some ((r56.toInt64), S0)))) else ((fX10_refuse fu S0 (1 : Int32)).bind fun r25 => (some (r25.1, r25.2))))) else ((fX10_refuse fu S0 (1 : Int32)).bind fun r25 => (some (r25.1, r25.2)))))
set_option maxHeartbeats 4000000 in
set_option maxRecDepth 100000 in
theorem qX10_reading {l : Launch} {E : gE} {a0 : Nat → Nat} {fu : Nat} {S0 : sWB} {v1 : Int32} {v2 : Int32} {r : Int64 × sWB} (hf : fX10_reading fu S0 v1 v2 = some r) : CtrF l yX10_reading cX10_reading 3 (some .long) (gR 2 43) E [.ref (a0 0), .int v1, .int v2] (wWB E a0 S0) (some (.long r.1)) (wWB E a0 r.2) := by
  refine ctr_of false (plainFor_of_name (by decide)) (Nat.le_of_ble_eq_true rfl) (fun q => by cases q) (fun Γ h => ?_)
  refine g_lv [some _, some _, some _] rfl ?_
  rw [fX10_reading] at hf
  refine g_aload_n h dX10_reading_0 rfl ?_
  refine g_get h flX10_10 dX10_reading_1 0 rfl rfl ?_
  refine g_get h flX10_111 dX10_reading_4 1 rfl rfl ?_
  refine g_iload_n h dX10_reading_7 rfl ?_
  obtain ⟨r8, q8, hf⟩ := gbind hf
  refine g_cVr h (qX3_has (a0 := fun k => a0 (k + 7)) q8) mX3_has lkX10_120 dX10_reading_8 rfl rfl ⟨Nat.zero_le _, Nat.zero_le _⟩ ⟨by decide, by decide⟩ (Nat.le_of_ble_eq_true rfl) [7, 8, 9] rfl rfl 7 rfl rfl ?_
  refine g_ifb_eq h dX10_reading_11 rfl (fun c11 => ?_) (fun c11 => ?_)
  · replace hf := ifb_f c11 hf
    refine g_aload_n h dX10_reading_23 rfl ?_
    refine g_iconst (v := 1) h dX10_reading_24 (by decide) ?_
    obtain ⟨r25, q25, hf⟩ := gbind hf
    refine g_cVw (ws' := wWB E a0 r25.2) h (qX10_refuse (a0 := a0) q25) mX10_refuse lkX10_67 dX10_reading_25 rfl rfl ⟨Nat.zero_le _, Nat.zero_le _⟩ ⟨by decide, by decide⟩ (Nat.le_of_ble_eq_true rfl) [0, 1, 2, 3, 4, 5, 6, 7, 8, 9, 10, 11, 12, 13, 14, 15, 16, 17, 18, 19, 20, 21, 22, 23, 24, 25, 26, 27, 28, 29, 30, 31, 32, 33, 34, 35, 36, 37, 38, 39, 40, 41, 42, 43, 44, 45, 46, 47, 48, 49, 50, 51, 52, 53, 54] rfl rfl 0 rfl rfl mgX10_7 ?_
    have er := Option.some.inj hf
    subst er
    exact g_lreturn h dX10_reading_28 rfl ⟨Nat.zero_le _, Nat.zero_le _, rfl, rfl, rfl⟩
  · replace hf := ifb_t c11 hf
    refine g_iload_n h dX10_reading_14 rfl ?_
    refine g_iconst (v := 0) h dX10_reading_15 (by decide) ?_
    refine g_iconst (v := 1) h dX10_reading_16 (by decide) ?_
    obtain ⟨r17, q17, hf⟩ := gbind hf
    refine g_cSr h (qX2_within q17) mX2_within lkX10_129 dX10_reading_17 rfl rfl ⟨Nat.zero_le _, Nat.zero_le _⟩ ⟨by decide, by decide⟩ (Nat.le_of_ble_eq_true rfl) [] rfl rfl ?_
    refine g_ifb_ne h dX10_reading_20 rfl (fun c20 => ?_) (fun c20 => ?_)
    · replace hf := ifb_t c20 hf
      refine g_iload_n h dX10_reading_29 rfl ?_
      refine g_if_ne h dX10_reading_30 rfl (fun c30 => ?_) (fun c30 => ?_)
      · replace hf := ifp_f c30 hf
        refine g_aload_n h dX10_reading_48 rfl ?_
        refine g_get h flX10_10 dX10_reading_49 0 rfl rfl ?_
        refine g_get h flX10_111 dX10_reading_52 1 rfl rfl ?_
        refine g_iload_n h dX10_reading_55 rfl ?_
        obtain ⟨r56, q56, hf⟩ := gbind hf
        refine g_cVr h (qX3_second (a0 := fun k => a0 (k + 7)) q56) mX3_second lkX10_137 dX10_reading_56 rfl rfl ⟨Nat.zero_le _, Nat.zero_le _⟩ ⟨by decide, by decide⟩ (Nat.le_of_ble_eq_true rfl) [7, 8, 9] rfl rfl 7 rfl rfl ?_
        refine g_i2l h dX10_reading_59 ?_
        have er := Option.some.inj hf
        subst er
        exact g_lreturn h dX10_reading_60 rfl ⟨Nat.zero_le _, Nat.zero_le _, rfl, rfl, rfl⟩
      · replace hf := ifp_t c30 hf
        refine g_aload_n h dX10_reading_33 rfl ?_
        refine g_get h flX10_10 dX10_reading_34 0 rfl rfl ?_
        refine g_get h flX10_111 dX10_reading_37 1 rfl rfl ?_
        refine g_iload_n h dX10_reading_40 rfl ?_
        obtain ⟨r41, q41, hf⟩ := gbind hf
        refine g_cVr h (qX3_first (a0 := fun k => a0 (k + 7)) q41) mX3_first lkX10_134 dX10_reading_41 rfl rfl ⟨Nat.zero_le _, Nat.zero_le _⟩ ⟨by decide, by decide⟩ (Nat.le_of_ble_eq_true rfl) [7, 8, 9] rfl rfl 7 rfl rfl ?_
        refine g_i2l h dX10_reading_44 ?_
        refine g_goto h dX10_reading_45 rfl ?_
        have er := Option.some.inj hf
        subst er
        exact g_lreturn h dX10_reading_60 rfl ⟨Nat.zero_le _, Nat.zero_le _, rfl, rfl, rfl⟩
    · replace hf := ifb_f c20 hf
      refine g_aload_n h dX10_reading_23 rfl ?_
      refine g_iconst (v := 1) h dX10_reading_24 (by decide) ?_
      obtain ⟨r25, q25, hf⟩ := gbind hf
      refine g_cVw (ws' := wWB E a0 r25.2) h (qX10_refuse (a0 := a0) q25) mX10_refuse lkX10_67 dX10_reading_25 rfl rfl ⟨Nat.zero_le _, Nat.zero_le _⟩ ⟨by decide, by decide⟩ (Nat.le_of_ble_eq_true rfl) [0, 1, 2, 3, 4, 5, 6, 7, 8, 9, 10, 11, 12, 13, 14, 15, 16, 17, 18, 19, 20, 21, 22, 23, 24, 25, 26, 27, 28, 29, 30, 31, 32, 33, 34, 35, 36, 37, 38, 39, 40, 41, 42, 43, 44, 45, 46, 47, 48, 49, 50, 51, 52, 53, 54] rfl rfl 0 rfl rfl mgX10_7 ?_
      have er := Option.some.inj hf
      subst er
      exact g_lreturn h dX10_reading_28 rfl ⟨Nat.zero_le _, Nat.zero_le _, rfl, rfl, rfl⟩
def fX10_sheet (fu : Nat) (S0 : sWB) (v1 : Int32) (v2 : Int32) : Option (Int64 × sWB) := ((fX5_isSheet v1).bind fun r1 => (if r1 = true then (if (-1 : Int32) ≤ v2 then (if v2 ≤ (36 : Int32) then ((fX5_layOut S0.2.2.2.1 v1 v2).bind fun r42 => (some ((v2.toInt64), (st_X10_3 S0 r42)))) else ((fX10_refuse fu S0 (1 : Int32)).bind fun r32 => (some (r32.1, r32.2)))) else ((fX10_refuse fu S0 (4 : Int32)).bind fun r20 => (some (r20.1, r20.2)))) else ((fX10_refuse fu S0 (1 : Int32)).bind fun r9 => (some (r9.1, r9.2)))))
set_option maxRecDepth 100000 in
theorem mgX10_9 {E : gE} {S0 : sWB} {n0 : sSh} {a0 : Nat → Nat} : gmerge [33, 34, 35, 36, 37, 38] (wSh E (a0 33) (a0 34) (a0 35) (a0 36) (a0 37) (a0 38) n0.1 n0.2) (wWB E a0 S0) = wWB E a0 (st_X10_3 S0 n0) := by
  have h0 : gmerge [33, 34, 35, 36, 37, 38] (wSh E (a0 33) (a0 34) (a0 35) (a0 36) (a0 37) (a0 38) n0.1 n0.2) (wWB E a0 S0) = wWB E a0 (st_X10_3 S0 n0) := gmerge_cut 33 6 (Nat.le_of_ble_eq_true rfl) rfl rfl
  exact h0
set_option maxHeartbeats 4000000 in
set_option maxRecDepth 100000 in
theorem qX10_sheet {l : Launch} {E : gE} {a0 : Nat → Nat} {fu : Nat} {S0 : sWB} {v1 : Int32} {v2 : Int32} {r : Int64 × sWB} (hf : fX10_sheet fu S0 v1 v2 = some r) : CtrF l yX10_sheet cX10_sheet 3 (some .long) (gR 3 64) E [.ref (a0 0), .int v1, .int v2] (wWB E a0 S0) (some (.long r.1)) (wWB E a0 r.2) := by
  refine ctr_of false (plainFor_of_name (by decide)) (Nat.le_of_ble_eq_true rfl) (fun q => by cases q) (fun Γ h => ?_)
  refine g_lv [some _, some _, some _] rfl ?_
  rw [fX10_sheet] at hf
  refine g_iload_n h dX10_sheet_0 rfl ?_
  obtain ⟨r1, q1, hf⟩ := gbind hf
  refine g_cSr h (qX5_isSheet q1) mX5_isSheet lkX10_140 dX10_sheet_1 rfl rfl ⟨Nat.zero_le _, Nat.zero_le _⟩ ⟨by decide, by decide⟩ (Nat.le_of_ble_eq_true rfl) [] rfl rfl ?_
  refine g_ifb_ne h dX10_sheet_4 rfl (fun c4 => ?_) (fun c4 => ?_)
  · replace hf := ifb_t c4 hf
    refine g_iload_n h dX10_sheet_13 rfl ?_
    refine g_iconst (v := (-1)) h dX10_sheet_14 (by decide) ?_
    refine g_ic_ge h dX10_sheet_15 rfl (fun c15 => ?_) (fun c15 => ?_)
    · replace hf := ifp_t c15 hf
      refine g_iload_n h dX10_sheet_24 rfl ?_
      refine g_bipush (v := 36) h dX10_sheet_25 (by decide) ?_
      refine g_ic_le h dX10_sheet_27 rfl (fun c27 => ?_) (fun c27 => ?_)
      · replace hf := ifp_t c27 hf
        refine g_aload_n h dX10_sheet_36 rfl ?_
        refine g_get h flX10_22 dX10_sheet_37 0 rfl rfl ?_
        refine g_iload_n h dX10_sheet_40 rfl ?_
        refine g_iload_n h dX10_sheet_41 rfl ?_
        obtain ⟨r42, q42, hf⟩ := gbind hf
        refine g_cVv (ws' := wWB E a0 (st_X10_3 S0 r42)) h (qX5_layOut (a0 := fun k => a0 (k + 33)) q42) mX5_layOut lkX10_143 dX10_sheet_42 rfl rfl ⟨Nat.zero_le _, Nat.zero_le _⟩ ⟨by decide, by decide⟩ (Nat.le_of_ble_eq_true rfl) [33, 34, 35, 36, 37, 38] rfl rfl 33 rfl rfl mgX10_9 ?_
        refine g_iload_n h dX10_sheet_45 rfl ?_
        refine g_i2l h dX10_sheet_46 ?_
        have er := Option.some.inj hf
        subst er
        exact g_lreturn h dX10_sheet_47 rfl ⟨Nat.zero_le _, Nat.zero_le _, rfl, rfl, rfl⟩
      · replace hf := ifp_f c27 hf
        refine g_aload_n h dX10_sheet_30 rfl ?_
        refine g_iconst (v := 1) h dX10_sheet_31 (by decide) ?_
        obtain ⟨r32, q32, hf⟩ := gbind hf
        refine g_cVw (ws' := wWB E a0 r32.2) h (qX10_refuse (a0 := a0) q32) mX10_refuse lkX10_67 dX10_sheet_32 rfl rfl ⟨Nat.zero_le _, Nat.zero_le _⟩ ⟨by decide, by decide⟩ (Nat.le_of_ble_eq_true rfl) [0, 1, 2, 3, 4, 5, 6, 7, 8, 9, 10, 11, 12, 13, 14, 15, 16, 17, 18, 19, 20, 21, 22, 23, 24, 25, 26, 27, 28, 29, 30, 31, 32, 33, 34, 35, 36, 37, 38, 39, 40, 41, 42, 43, 44, 45, 46, 47, 48, 49, 50, 51, 52, 53, 54] rfl rfl 0 rfl rfl mgX10_7 ?_
        have er := Option.some.inj hf
        subst er
        exact g_lreturn h dX10_sheet_35 rfl ⟨Nat.zero_le _, Nat.zero_le _, rfl, rfl, rfl⟩
    · replace hf := ifp_f c15 hf
      refine g_aload_n h dX10_sheet_18 rfl ?_
      refine g_iconst (v := 4) h dX10_sheet_19 (by decide) ?_
      obtain ⟨r20, q20, hf⟩ := gbind hf
      refine g_cVw (ws' := wWB E a0 r20.2) h (qX10_refuse (a0 := a0) q20) mX10_refuse lkX10_67 dX10_sheet_20 rfl rfl ⟨Nat.zero_le _, Nat.zero_le _⟩ ⟨by decide, by decide⟩ (Nat.le_of_ble_eq_true rfl) [0, 1, 2, 3, 4, 5, 6, 7, 8, 9, 10, 11, 12, 13, 14, 15, 16, 17, 18, 19, 20, 21, 22, 23, 24, 25, 26, 27, 28, 29, 30, 31, 32, 33, 34, 35, 36, 37, 38, 39, 40, 41, 42, 43, 44, 45, 46, 47, 48, 49, 50, 51, 52, 53, 54] rfl rfl 0 rfl rfl mgX10_7 ?_
      have er := Option.some.inj hf
      subst er
      exact g_lreturn h dX10_sheet_23 rfl ⟨Nat.zero_le _, Nat.zero_le _, rfl, rfl, rfl⟩
  · replace hf := ifb_f c4 hf
    refine g_aload_n h dX10_sheet_7 rfl ?_
    refine g_iconst (v := 1) h dX10_sheet_8 (by decide) ?_
    obtain ⟨r9, q9, hf⟩ := gbind hf
    refine g_cVw (ws' := wWB E a0 r9.2) h (qX10_refuse (a0 := a0) q9) mX10_refuse lkX10_67 dX10_sheet_9 rfl rfl ⟨Nat.zero_le _, Nat.zero_le _⟩ ⟨by decide, by decide⟩ (Nat.le_of_ble_eq_true rfl) [0, 1, 2, 3, 4, 5, 6, 7, 8, 9, 10, 11, 12, 13, 14, 15, 16, 17, 18, 19, 20, 21, 22, 23, 24, 25, 26, 27, 28, 29, 30, 31, 32, 33, 34, 35, 36, 37, 38, 39, 40, 41, 42, 43, 44, 45, 46, 47, 48, 49, 50, 51, 52, 53, 54] rfl rfl 0 rfl rfl mgX10_7 ?_
    have er := Option.some.inj hf
    subst er
    exact g_lreturn h dX10_sheet_12 rfl ⟨Nat.zero_le _, Nat.zero_le _, rfl, rfl, rfl⟩
def fX10_put (fu : Nat) (S0 : sWB) (v1 : Int32) (v2 : Int32) (v3 : Int32) : Option (Int64 × sWB) := ((fX5_isSheet v1).bind fun r1 => (if r1 = true then ((fX5_isMissing S0.2.2.2.1 v1).bind fun r18 => (if r18 = true then ((fX10_refuse fu S0 (2 : Int32)).bind fun r26 => (some (r26.1, r26.2))) else ((fX5_hasPlace S0.2.2.2.1 v1 v2).bind fun r36 => (if r36 = true then ((fX5_write S0.2.2.2.1 v1 v2 v3).bind fun r55 => (some ((r55.1.toInt64), (st_X10_3 S0 r55.2)))) else ((fX10_refuse fu S0 (1 : Int32)).bind fun r44 => (some (r44.1, r44.2))))))) else ((fX10_refuse fu S0 (1 : Int32)).bind fun r9 => (some (r9.1, r9.2)))))
set_option maxHeartbeats 4000000 in
set_option maxRecDepth 100000 in
theorem qX10_put {l : Launch} {E : gE} {a0 : Nat → Nat} {fu : Nat} {S0 : sWB} {v1 : Int32} {v2 : Int32} {v3 : Int32} {r : Int64 × sWB} (hf : fX10_put fu S0 v1 v2 v3 = some r) : CtrF l yX10_put cX10_put 4 (some .long) (gR 6 130) E [.ref (a0 0), .int v1, .int v2, .int v3] (wWB E a0 S0) (some (.long r.1)) (wWB E a0 r.2) := by
  refine ctr_of false (plainFor_of_name (by decide)) (Nat.le_of_ble_eq_true rfl) (fun q => by cases q) (fun Γ h => ?_)
  refine g_lv [some _, some _, some _, some _] rfl ?_
  rw [fX10_put] at hf
  refine g_iload_n h dX10_put_0 rfl ?_
  obtain ⟨r1, q1, hf⟩ := gbind hf
  refine g_cSr h (qX5_isSheet q1) mX5_isSheet lkX10_140 dX10_put_1 rfl rfl ⟨Nat.zero_le _, Nat.zero_le _⟩ ⟨by decide, by decide⟩ (Nat.le_of_ble_eq_true rfl) [] rfl rfl ?_
  refine g_ifb_ne h dX10_put_4 rfl (fun c4 => ?_) (fun c4 => ?_)
  · replace hf := ifb_t c4 hf
    refine g_aload_n h dX10_put_13 rfl ?_
    refine g_get h flX10_22 dX10_put_14 0 rfl rfl ?_
    refine g_iload_n h dX10_put_17 rfl ?_
    obtain ⟨r18, q18, hf⟩ := gbind hf
    refine g_cVr h (qX5_isMissing (a0 := fun k => a0 (k + 33)) q18) mX5_isMissing lkX10_147 dX10_put_18 rfl rfl ⟨Nat.zero_le _, Nat.zero_le _⟩ ⟨by decide, by decide⟩ (Nat.le_of_ble_eq_true rfl) [33, 34, 35, 36, 37, 38] rfl rfl 33 rfl rfl ?_
    refine g_ifb_eq h dX10_put_21 rfl (fun c21 => ?_) (fun c21 => ?_)
    · replace hf := ifb_f c21 hf
      refine g_aload_n h dX10_put_30 rfl ?_
      refine g_get h flX10_22 dX10_put_31 0 rfl rfl ?_
      refine g_iload_n h dX10_put_34 rfl ?_
      refine g_iload_n h dX10_put_35 rfl ?_
      obtain ⟨r36, q36, hf⟩ := gbind hf
      refine g_cVr h (qX5_hasPlace (a0 := fun k => a0 (k + 33)) q36) mX5_hasPlace lkX10_150 dX10_put_36 rfl rfl ⟨Nat.zero_le _, Nat.zero_le _⟩ ⟨by decide, by decide⟩ (Nat.le_of_ble_eq_true rfl) [33, 34, 35, 36, 37, 38] rfl rfl 33 rfl rfl ?_
      refine g_ifb_ne h dX10_put_39 rfl (fun c39 => ?_) (fun c39 => ?_)
      · replace hf := ifb_t c39 hf
        refine g_aload_n h dX10_put_48 rfl ?_
        refine g_get h flX10_22 dX10_put_49 0 rfl rfl ?_
        refine g_iload_n h dX10_put_52 rfl ?_
        refine g_iload_n h dX10_put_53 rfl ?_
        refine g_iload_n h dX10_put_54 rfl ?_
        obtain ⟨r55, q55, hf⟩ := gbind hf
        refine g_cVw (ws' := wWB E a0 (st_X10_3 S0 r55.2)) h (qX5_write (a0 := fun k => a0 (k + 33)) q55) mX5_write lkX10_153 dX10_put_55 rfl rfl ⟨Nat.zero_le _, Nat.zero_le _⟩ ⟨by decide, by decide⟩ (Nat.le_of_ble_eq_true rfl) [33, 34, 35, 36, 37, 38] rfl rfl 33 rfl rfl mgX10_9 ?_
        refine g_i2l h dX10_put_58 ?_
        have er := Option.some.inj hf
        subst er
        exact g_lreturn h dX10_put_59 rfl ⟨Nat.zero_le _, Nat.zero_le _, rfl, rfl, rfl⟩
      · replace hf := ifb_f c39 hf
        refine g_aload_n h dX10_put_42 rfl ?_
        refine g_iconst (v := 1) h dX10_put_43 (by decide) ?_
        obtain ⟨r44, q44, hf⟩ := gbind hf
        refine g_cVw (ws' := wWB E a0 r44.2) h (qX10_refuse (a0 := a0) q44) mX10_refuse lkX10_67 dX10_put_44 rfl rfl ⟨Nat.zero_le _, Nat.zero_le _⟩ ⟨by decide, by decide⟩ (Nat.le_of_ble_eq_true rfl) [0, 1, 2, 3, 4, 5, 6, 7, 8, 9, 10, 11, 12, 13, 14, 15, 16, 17, 18, 19, 20, 21, 22, 23, 24, 25, 26, 27, 28, 29, 30, 31, 32, 33, 34, 35, 36, 37, 38, 39, 40, 41, 42, 43, 44, 45, 46, 47, 48, 49, 50, 51, 52, 53, 54] rfl rfl 0 rfl rfl mgX10_7 ?_
        have er := Option.some.inj hf
        subst er
        exact g_lreturn h dX10_put_47 rfl ⟨Nat.zero_le _, Nat.zero_le _, rfl, rfl, rfl⟩
    · replace hf := ifb_t c21 hf
      refine g_aload_n h dX10_put_24 rfl ?_
      refine g_iconst (v := 2) h dX10_put_25 (by decide) ?_
      obtain ⟨r26, q26, hf⟩ := gbind hf
      refine g_cVw (ws' := wWB E a0 r26.2) h (qX10_refuse (a0 := a0) q26) mX10_refuse lkX10_67 dX10_put_26 rfl rfl ⟨Nat.zero_le _, Nat.zero_le _⟩ ⟨by decide, by decide⟩ (Nat.le_of_ble_eq_true rfl) [0, 1, 2, 3, 4, 5, 6, 7, 8, 9, 10, 11, 12, 13, 14, 15, 16, 17, 18, 19, 20, 21, 22, 23, 24, 25, 26, 27, 28, 29, 30, 31, 32, 33, 34, 35, 36, 37, 38, 39, 40, 41, 42, 43, 44, 45, 46, 47, 48, 49, 50, 51, 52, 53, 54] rfl rfl 0 rfl rfl mgX10_7 ?_
      have er := Option.some.inj hf
      subst er
      exact g_lreturn h dX10_put_29 rfl ⟨Nat.zero_le _, Nat.zero_le _, rfl, rfl, rfl⟩
  · replace hf := ifb_f c4 hf
    refine g_aload_n h dX10_put_7 rfl ?_
    refine g_iconst (v := 1) h dX10_put_8 (by decide) ?_
    obtain ⟨r9, q9, hf⟩ := gbind hf
    refine g_cVw (ws' := wWB E a0 r9.2) h (qX10_refuse (a0 := a0) q9) mX10_refuse lkX10_67 dX10_put_9 rfl rfl ⟨Nat.zero_le _, Nat.zero_le _⟩ ⟨by decide, by decide⟩ (Nat.le_of_ble_eq_true rfl) [0, 1, 2, 3, 4, 5, 6, 7, 8, 9, 10, 11, 12, 13, 14, 15, 16, 17, 18, 19, 20, 21, 22, 23, 24, 25, 26, 27, 28, 29, 30, 31, 32, 33, 34, 35, 36, 37, 38, 39, 40, 41, 42, 43, 44, 45, 46, 47, 48, 49, 50, 51, 52, 53, 54] rfl rfl 0 rfl rfl mgX10_7 ?_
    have er := Option.some.inj hf
    subst er
    exact g_lreturn h dX10_put_12 rfl ⟨Nat.zero_le _, Nat.zero_le _, rfl, rfl, rfl⟩
def fX10_whyNoLaying (fu : Nat) (S0 : sWB) (v1 : Int32) (v2 : Int32) : Option (Int32) := ((fX5_isSheet v1).bind fun r1 => (if r1 = true then ((fX5_isMissing S0.2.2.2.1 v1).bind fun r14 => (if r14 = true then (some (2 : Int32)) else (if 0 ≤ v2 then ((fX5_placesOf S0.2.2.2.1 v1).bind fun r34 => (if r34 < v2 then (some (1 : Int32)) else ((fX5_holdsRates S0.2.2.2.1 v1 v2).bind fun r46 => (if r46 = true then ((fX3_length 20 S0.1.2.1).bind fun r61 => ((fX5_howManyRead S0.2.2.2.1 v1 v2).bind fun r70 => (if (r61 + r70) ≤ (20 : Int32) then (some (0 : Int32)) else (some (5 : Int32))))) else (some (1 : Int32)))))) else (some (4 : Int32))))) else (some (1 : Int32))))
set_option maxHeartbeats 4000000 in
set_option maxRecDepth 100000 in
theorem qX10_whyNoLaying {l : Launch} {E : gE} {a0 : Nat → Nat} {fu : Nat} {S0 : sWB} {v1 : Int32} {v2 : Int32} {r : Int32} (hf : fX10_whyNoLaying fu S0 v1 v2 = some r) : CtrF l yX10_whyNoLaying cX10_whyNoLaying 3 (some .int) (gR 7 153) E [.ref (a0 0), .int v1, .int v2] (wWB E a0 S0) (some (.int r)) (wWB E a0 S0) := by
  refine ctr_of false (plainFor_of_name (by decide)) (Nat.le_of_ble_eq_true rfl) (fun q => by cases q) (fun Γ h => ?_)
  refine g_lv [some _, some _, some _] rfl ?_
  rw [fX10_whyNoLaying] at hf
  refine g_iload_n h dX10_whyNoLaying_0 rfl ?_
  obtain ⟨r1, q1, hf⟩ := gbind hf
  refine g_cSr h (qX5_isSheet q1) mX5_isSheet lkX10_140 dX10_whyNoLaying_1 rfl rfl ⟨Nat.zero_le _, Nat.zero_le _⟩ ⟨by decide, by decide⟩ (Nat.le_of_ble_eq_true rfl) [] rfl rfl ?_
  refine g_ifb_ne h dX10_whyNoLaying_4 rfl (fun c4 => ?_) (fun c4 => ?_)
  · replace hf := ifb_t c4 hf
    refine g_aload_n h dX10_whyNoLaying_9 rfl ?_
    refine g_get h flX10_22 dX10_whyNoLaying_10 0 rfl rfl ?_
    refine g_iload_n h dX10_whyNoLaying_13 rfl ?_
    obtain ⟨r14, q14, hf⟩ := gbind hf
    refine g_cVr h (qX5_isMissing (a0 := fun k => a0 (k + 33)) q14) mX5_isMissing lkX10_147 dX10_whyNoLaying_14 rfl rfl ⟨Nat.zero_le _, Nat.zero_le _⟩ ⟨by decide, by decide⟩ (Nat.le_of_ble_eq_true rfl) [33, 34, 35, 36, 37, 38] rfl rfl 33 rfl rfl ?_
    refine g_ifb_eq h dX10_whyNoLaying_17 rfl (fun c17 => ?_) (fun c17 => ?_)
    · replace hf := ifb_f c17 hf
      refine g_iload_n h dX10_whyNoLaying_22 rfl ?_
      refine g_if_ge h dX10_whyNoLaying_23 rfl (fun c23 => ?_) (fun c23 => ?_)
      · replace hf := ifp_t c23 hf
        refine g_iload_n h dX10_whyNoLaying_28 rfl ?_
        refine g_aload_n h dX10_whyNoLaying_29 rfl ?_
        refine g_get h flX10_22 dX10_whyNoLaying_30 0 rfl rfl ?_
        refine g_iload_n h dX10_whyNoLaying_33 rfl ?_
        obtain ⟨r34, q34, hf⟩ := gbind hf
        refine g_cVr h (qX5_placesOf (a0 := fun k => a0 (k + 33)) q34) mX5_placesOf lkX10_165 dX10_whyNoLaying_34 rfl rfl ⟨Nat.zero_le _, Nat.zero_le _⟩ ⟨by decide, by decide⟩ (Nat.le_of_ble_eq_true rfl) [33, 34, 35, 36, 37, 38] rfl rfl 33 rfl rfl ?_
        refine g_ic_gt h dX10_whyNoLaying_37 rfl (fun c37 => ?_) (fun c37 => ?_)
        · replace hf := ifp_t c37 hf
          refine g_iconst (v := 1) h dX10_whyNoLaying_52 (by decide) ?_
          have er := Option.some.inj hf
          subst er
          exact g_ireturn h dX10_whyNoLaying_53 rfl rfl ⟨Nat.zero_le _, Nat.zero_le _, rfl, rfl, rfl⟩
        · replace hf := ifp_f c37 hf
          refine g_aload_n h dX10_whyNoLaying_40 rfl ?_
          refine g_get h flX10_22 dX10_whyNoLaying_41 0 rfl rfl ?_
          refine g_iload_n h dX10_whyNoLaying_44 rfl ?_
          refine g_iload_n h dX10_whyNoLaying_45 rfl ?_
          obtain ⟨r46, q46, hf⟩ := gbind hf
          refine g_cVr h (qX5_holdsRates (a0 := fun k => a0 (k + 33)) q46) mX5_holdsRates lkX10_168 dX10_whyNoLaying_46 rfl rfl ⟨Nat.zero_le _, Nat.zero_le _⟩ ⟨by decide, by decide⟩ (Nat.le_of_ble_eq_true rfl) [33, 34, 35, 36, 37, 38] rfl rfl 33 rfl rfl ?_
          refine g_ifb_ne h dX10_whyNoLaying_49 rfl (fun c49 => ?_) (fun c49 => ?_)
          · replace hf := ifb_t c49 hf
            refine g_aload_n h dX10_whyNoLaying_54 rfl ?_
            refine g_get h flX10_10 dX10_whyNoLaying_55 0 rfl rfl ?_
            refine g_get h flX10_111 dX10_whyNoLaying_58 1 rfl rfl ?_
            obtain ⟨r61, q61, hf⟩ := gbind hf
            refine g_cVr h (qX3_length (a0 := fun k => a0 (k + 7)) q61) mX3_length lkX10_125 dX10_whyNoLaying_61 rfl rfl ⟨Nat.zero_le _, Nat.zero_le _⟩ ⟨by decide, by decide⟩ (Nat.le_of_ble_eq_true rfl) [7, 8, 9] rfl rfl 7 rfl rfl ?_
            refine g_aload_n h dX10_whyNoLaying_64 rfl ?_
            refine g_get h flX10_22 dX10_whyNoLaying_65 0 rfl rfl ?_
            refine g_iload_n h dX10_whyNoLaying_68 rfl ?_
            refine g_iload_n h dX10_whyNoLaying_69 rfl ?_
            obtain ⟨r70, q70, hf⟩ := gbind hf
            refine g_cVr h (qX5_howManyRead (a0 := fun k => a0 (k + 33)) q70) mX5_howManyRead lkX10_171 dX10_whyNoLaying_70 rfl rfl ⟨Nat.zero_le _, Nat.zero_le _⟩ ⟨by decide, by decide⟩ (Nat.le_of_ble_eq_true rfl) [33, 34, 35, 36, 37, 38] rfl rfl 33 rfl rfl ?_
            refine g_iadd h dX10_whyNoLaying_73 ?_
            refine g_bipush (v := 20) h dX10_whyNoLaying_74 (by decide) ?_
            refine g_ic_le h dX10_whyNoLaying_76 rfl (fun c76 => ?_) (fun c76 => ?_)
            · replace hf := ifp_t c76 hf
              refine g_iconst (v := 0) h dX10_whyNoLaying_83 (by decide) ?_
              have er := Option.some.inj hf
              subst er
              exact g_ireturn h dX10_whyNoLaying_84 rfl rfl ⟨Nat.zero_le _, Nat.zero_le _, rfl, rfl, rfl⟩
            · replace hf := ifp_f c76 hf
              refine g_iconst (v := 5) h dX10_whyNoLaying_79 (by decide) ?_
              refine g_goto h dX10_whyNoLaying_80 rfl ?_
              have er := Option.some.inj hf
              subst er
              exact g_ireturn h dX10_whyNoLaying_84 rfl rfl ⟨Nat.zero_le _, Nat.zero_le _, rfl, rfl, rfl⟩
          · replace hf := ifb_f c49 hf
            refine g_iconst (v := 1) h dX10_whyNoLaying_52 (by decide) ?_
            have er := Option.some.inj hf
            subst er
            exact g_ireturn h dX10_whyNoLaying_53 rfl rfl ⟨Nat.zero_le _, Nat.zero_le _, rfl, rfl, rfl⟩
      · replace hf := ifp_f c23 hf
        refine g_iconst (v := 4) h dX10_whyNoLaying_26 (by decide) ?_
        have er := Option.some.inj hf
        subst er
        exact g_ireturn h dX10_whyNoLaying_27 rfl rfl ⟨Nat.zero_le _, Nat.zero_le _, rfl, rfl, rfl⟩
    · replace hf := ifb_t c17 hf
      refine g_iconst (v := 2) h dX10_whyNoLaying_20 (by decide) ?_
      have er := Option.some.inj hf
      subst er
      exact g_ireturn h dX10_whyNoLaying_21 rfl rfl ⟨Nat.zero_le _, Nat.zero_le _, rfl, rfl, rfl⟩
  · replace hf := ifb_f c4 hf
    refine g_iconst (v := 1) h dX10_whyNoLaying_7 (by decide) ?_
    have er := Option.some.inj hf
    subst er
    exact g_ireturn h dX10_whyNoLaying_8 rfl rfl ⟨Nat.zero_le _, Nat.zero_le _, rfl, rfl, rfl⟩
