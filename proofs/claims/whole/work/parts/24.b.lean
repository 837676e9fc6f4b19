def lX10_lay_27  (fu : Nat) (v1 : Int32) (v2 : Int32) : Nat → (Int32) → (sWB) → Option (Int64 × sWB)
  | 0, _, _ => none
  | j + 1, v4, S0 => (if v2 ≤ v4 then ((fX3_length 20 S0.1.2.1).bind fun r82 => (some ((r82.toInt64), S0))) else ((fX5_wasRead S0.2.2.2.1 v1 v4).bind fun r40 => (if r40 = true then ((fX5_rateAt S0.2.2.2.1 v1 v4).bind fun r62 => ((fX3_append 20 S0.1.2.1 v4 r62).bind fun r65 => ((lX10_lay_27  fu v1 v2 j) (v4 + 1) (st_X10_0_1 S0 r65.2)))) else ((lX10_lay_27  fu v1 v2 j) (v4 + 1) S0))))
def fX10_lay (fu : Nat) (S0 : sWB) (v1 : Int32) (v2 : Int32) : Option (Int64 × sWB) := ((fX10_whyNoLaying fu S0 v1 v2).bind fun r3 => (if r3 = 0 then ((fX6_growStale S0.2.2.2.2.2.1).bind fun r21 => (lX10_lay_27  fu v1 v2 fu (0 : Int32) (st_X10_5 S0 r21))) else ((fX10_refuse fu S0 r3).bind fun r13 => (some (r13.1, r13.2)))))
set_option maxHeartbeats 4000000 in
set_option maxRecDepth 100000 in
theorem qX10_lay {l : Launch} {E : gE} {a0 : Nat → Nat} {fu : Nat} {S0 : sWB} {v1 : Int32} {v2 : Int32} {r : Int64 × sWB} (hf : fX10_lay fu S0 v1 v2 = some r) : CtrF l yX10_lay cX10_lay 5 (some .long) (gR 8 175) E [.ref (a0 0), .int v1, .int v2] (wWB E a0 S0) (some (.long r.1)) (wWB E a0 r.2) := by
  refine ctr_of false (plainFor_of_name (by decide)) (Nat.le_of_ble_eq_true rfl) (fun q => by cases q) (fun Γ h => ?_)
  refine g_lv [some _, some _, some _, _, _] rfl ?_
  rw [fX10_lay] at hf
  have loop27 : ∀ (j27 : Nat) (v4 : Int32) (S0 : sWB) (o3 : Option Value), lX10_lay_27  fu v1 v2 j27 v4 S0 = some r → Γ 0 0 27 [some (.ref (a0 0)), some (.int v1), some (.int v2), o3, some (.int v4)] [] (wWB E a0 S0) := by
    intro j27
    induction j27 with
    | zero => intro v4 S0 o3 hf; exact gno hf
    | succ j27 ih27 =>
      intro v4 S0 o3 hf
      rw [lX10_lay_27] at hf
      refine g_iload h dX10_lay_27 rfl ?_
      refine g_iload_n h dX10_lay_29 rfl ?_
      refine g_ic_ge h dX10_lay_30 rfl (fun c30 => ?_) (fun c30 => ?_)
      · replace hf := ifp_t c30 hf
        refine g_aload_n h dX10_lay_75 rfl ?_
        refine g_get h flX10_10 dX10_lay_76 0 rfl rfl ?_
        refine g_get h flX10_111 dX10_lay_79 1 rfl rfl ?_
        obtain ⟨r82, q82, hf⟩ := gbind hf
        refine g_cVr h (qX3_length (a0 := fun k => a0 (k + 7)) q82) mX3_length lkX10_125 dX10_lay_82 rfl rfl ⟨Nat.zero_le _, Nat.zero_le _⟩ ⟨by decide, by decide⟩ (Nat.le_of_ble_eq_true rfl) [7, 8, 9] rfl rfl 7 rfl rfl ?_
        refine g_i2l h dX10_lay_85 ?_
        have er := Option.some.inj hf
        subst er
        exact g_lreturn h dX10_lay_86 rfl ⟨Nat.zero_le _, Nat.zero_le _, rfl, rfl, rfl⟩
      · replace hf := ifp_f c30 hf
        refine g_aload_n h dX10_lay_33 rfl ?_
        refine g_get h flX10_22 dX10_lay_34 0 rfl rfl ?_
        refine g_iload_n h dX10_lay_37 rfl ?_
        refine g_iload h dX10_lay_38 rfl ?_
        obtain ⟨r40, q40, hf⟩ := gbind hf
        refine g_cVr h (qX5_wasRead (a0 := fun k => a0 (k + 33)) q40) mX5_wasRead lkX10_159 dX10_lay_40 rfl rfl ⟨Nat.zero_le _, Nat.zero_le _⟩ ⟨by decide, by decide⟩ (Nat.le_of_ble_eq_true rfl) [33, 34, 35, 36, 37, 38] rfl rfl 33 rfl rfl ?_
        refine g_ifb_eq h dX10_lay_43 rfl (fun c43 => ?_) (fun c43 => ?_)
        · replace hf := ifb_f c43 hf
          refine g_iinc (v := (v4 + 1)) (lv' := [some _, some _, some _, _, some _]) h dX10_lay_69 rfl rfl (by decide) rfl ?_
          refine g_goto h dX10_lay_72 rfl ?_
          exact ih27 _ _ _ hf
        · replace hf := ifb_t c43 hf
          refine g_aload_n h dX10_lay_46 rfl ?_
          refine g_get h flX10_10 dX10_lay_47 0 rfl rfl ?_
          refine g_get h flX10_111 dX10_lay_50 1 rfl rfl ?_
          refine g_iload h dX10_lay_53 rfl ?_
          refine g_aload_n h dX10_lay_55 rfl ?_
          refine g_get h flX10_22 dX10_lay_56 0 rfl rfl ?_
          refine g_iload_n h dX10_lay_59 rfl ?_
          refine g_iload h dX10_lay_60 rfl ?_
          obtain ⟨r62, q62, hf⟩ := gbind hf
          refine g_cVr h (qX5_rateAt (a0 := fun k => a0 (k + 33)) q62) mX5_rateAt lkX10_162 dX10_lay_62 rfl rfl ⟨Nat.zero_le _, Nat.zero_le _⟩ ⟨by decide, by decide⟩ (Nat.le_of_ble_eq_true rfl) [33, 34, 35, 36, 37, 38] rfl rfl 33 rfl rfl ?_
          obtain ⟨r65, q65, hf⟩ := gbind hf
          refine g_cVw (ws' := wWB E a0 (st_X10_0_1 S0 r65.2)) h (qX3_append (a0 := fun k => a0 (k + 7)) q65) mX3_append lkX10_118 dX10_lay_65 rfl rfl ⟨Nat.zero_le _, Nat.zero_le _⟩ ⟨by decide, by decide⟩ (Nat.le_of_ble_eq_true rfl) [7, 8, 9] rfl rfl 7 rfl rfl mgX10_8 ?_
          refine g_pop h dX10_lay_68 rfl ?_
          refine g_iinc (v := (v4 + 1)) (lv' := [some _, some _, some _, _, some _]) h dX10_lay_69 rfl rfl (by decide) rfl ?_
          refine g_goto h dX10_lay_72 rfl ?_
          exact ih27 _ _ _ hf
  refine g_aload_n h dX10_lay_0 rfl ?_
  refine g_iload_n h dX10_lay_1 rfl ?_
  refine g_iload_n h dX10_lay_2 rfl ?_
  obtain ⟨r3, q3, hf⟩ := gbind hf
  refine g_cVr h (qX10_whyNoLaying (a0 := a0) q3) mX10_whyNoLaying lkX10_156 dX10_lay_3 rfl rfl ⟨Nat.zero_le _, Nat.zero_le _⟩ ⟨by decide, by decide⟩ (Nat.le_of_ble_eq_true rfl) [0, 1, 2, 3, 4, 5, 6, 7, 8, 9, 10, 11, 12, 13, 14, 15, 16, 17, 18, 19, 20, 21, 22, 23, 24, 25, 26, 27, 28, 29, 30, 31, 32, 33, 34, 35, 36, 37, 38, 39, 40, 41, 42, 43, 44, 45, 46, 47, 48, 49, 50, 51, 52, 53, 54] rfl rfl 0 rfl rfl ?_
  refine g_istore_n (lv' := [some _, some _, some _, some _, _]) h dX10_lay_6 (by decide) rfl ?_
  refine g_iload_n h dX10_lay_7 rfl ?_
  refine g_if_eq h dX10_lay_8 rfl (fun c8 => ?_) (fun c8 => ?_)
  · replace hf := ifp_t c8 hf
    refine g_aload_n h dX10_lay_17 rfl ?_
    refine g_get h flX10_36 dX10_lay_18 0 rfl rfl ?_
    obtain ⟨r21, q21, hf⟩ := gbind hf
    refine g_cVv (ws' := wWB E a0 (st_X10_5 S0 r21)) h (qX6_growStale (a0 := fun k => a0 (k + 44)) q21) mX6_growStale lkX10_79 dX10_lay_21 rfl rfl ⟨Nat.zero_le _, Nat.zero_le _⟩ ⟨by decide, by decide⟩ (Nat.le_of_ble_eq_true rfl) [44, 45] rfl rfl 44 rfl rfl mgX10_5 ?_
    refine g_iconst (v := 0) h dX10_lay_24 (by decide) ?_
    refine g_istore (lv' := [some _, some _, some _, some _, some _]) h dX10_lay_25 (by decide) rfl ?_
    exact loop27 _ _ _ _ hf
  · replace hf := ifp_f c8 hf
    refine g_aload_n h dX10_lay_11 rfl ?_
    refine g_iload_n h dX10_lay_12 rfl ?_
    obtain ⟨r13, q13, hf⟩ := gbind hf
    refine g_cVw (ws' := wWB E a0 r13.2) h (qX10_refuse (a0 := a0) q13) mX10_refuse lkX10_67 dX10_lay_13 rfl rfl ⟨Nat.zero_le _, Nat.zero_le _⟩ ⟨by decide, by decide⟩ (Nat.le_of_ble_eq_true rfl) [0, 1, 2, 3, 4, 5, 6, 7, 8, 9, 10, 11, 12, 13, 14, 15, 16, 17, 18, 19, 20, 21, 22, 23, 24, 25, 26, 27, 28, 29, 30, 31, 32, 33, 34, 35, 36, 37, 38, 39, 40, 41, 42, 43, 44, 45, 46, 47, 48, 49, 50, 51, 52, 53, 54] rfl rfl 0 rfl rfl mgX10_7 ?_
    have er := Option.some.inj hf
    subst er
    exact g_lreturn h dX10_lay_16 rfl ⟨Nat.zero_le _, Nat.zero_le _, rfl, rfl, rfl⟩
def fX10_find (fu : Nat) (S0 : sWB) (v1 : Int32) : Option (Int64 × sWB) := ((fX10_isModel fu S0 v1).bind fun r2 => (if r2 = true then ((fX4_gather fu S0.2.2.2.2.1 S0.1).bind fun r22 => ((fX4_solve (st_X10_4 S0 r22).2.2.2.2.1 v1).bind fun r30 => (if r30.1 = true then ((fX6_take fu (st_X10_4 (st_X10_4 S0 r22) r30.2).2.2.2.2.2.1 (st_X10_4 (st_X10_4 S0 r22) r30.2).2.2.2.2.1 v1).bind fun r64 => ((fJ6_bitCount_0f7a4 v1).bind fun r68 => (some ((r68.toInt64), (st_X10_5 (st_X10_4 (st_X10_4 S0 r22) r30.2) r64))))) else ((fX4_looseOf fu (st_X10_4 (st_X10_4 S0 r22) r30.2).2.2.2.2.1 v1).bind fun r42 => ((some (st_X10_6 (st_X10_4 (st_X10_4 (st_X10_4 S0 r22) r30.2) r42.2) r42.1)).bind fun S0x45 => ((fX10_refuse fu S0x45 (6 : Int32)).bind fun r51 => (some (r51.1, r51.2)))))))) else ((fX10_refuse fu S0 (1 : Int32)).bind fun r10 => (some (r10.1, r10.2)))))
set_option maxRecDepth 100000 in
theorem mgX10_10 {E : gE} {S0 : sWB} {n0 : sPd} {a0 : Nat → Nat} : gmerge [39, 40, 41, 42, 43, 1, 2, 3, 4, 5, 6, 7, 8, 9, 10, 11, 12, 13, 14, 15, 16] (wPd E (a0 39) (a0 40) (a0 41) (a0 42) (a0 43) n0.1 n0.2.1 n0.2.2.1 n0.2.2.2.1 n0.2.2.2.2 ++ wSt E (a0 1) (a0 2) (a0 3) (a0 4) (a0 5) (a0 6) (a0 7) (a0 8) (a0 9) (a0 10) (a0 11) (a0 12) (a0 13) (a0 14) (a0 15) (a0 16) (st_X10_4 S0 n0).1.1.1 (st_X10_4 S0 n0).1.1.2.1 (st_X10_4 S0 n0).1.1.2.2.1 (st_X10_4 S0 n0).1.1.2.2.2 (st_X10_4 S0 n0).1.2.1.1 (st_X10_4 S0 n0).1.2.1.2.1 (st_X10_4 S0 n0).1.2.1.2.2 (st_X10_4 S0 n0).1.2.2.1.1 (st_X10_4 S0 n0).1.2.2.1.2.1 (st_X10_4 S0 n0).1.2.2.1.2.2 (st_X10_4 S0 n0).1.2.2.2.1 (st_X10_4 S0 n0).1.2.2.2.2.1 (st_X10_4 S0 n0).1.2.2.2.2.2) (wWB E a0 S0) = wWB E a0 (st_X10_4 S0 n0) := by
  have h0 : gmerge [39, 40, 41, 42, 43] (wPd E (a0 39) (a0 40) (a0 41) (a0 42) (a0 43) n0.1 n0.2.1 n0.2.2.1 n0.2.2.2.1 n0.2.2.2.2) (wWB E a0 S0) = wWB E a0 (st_X10_4 S0 n0) := gmerge_cut 39 5 (Nat.le_of_ble_eq_true rfl) rfl rfl
  have h1 : gmerge [1, 2, 3, 4, 5, 6, 7, 8, 9, 10, 11, 12, 13, 14, 15, 16] (wSt E (a0 1) (a0 2) (a0 3) (a0 4) (a0 5) (a0 6) (a0 7) (a0 8) (a0 9) (a0 10) (a0 11) (a0 12) (a0 13) (a0 14) (a0 15) (a0 16) (st_X10_4 S0 n0).1.1.1 (st_X10_4 S0 n0).1.1.2.1 (st_X10_4 S0 n0).1.1.2.2.1 (st_X10_4 S0 n0).1.1.2.2.2 (st_X10_4 S0 n0).1.2.1.1 (st_X10_4 S0 n0).1.2.1.2.1 (st_X10_4 S0 n0).1.2.1.2.2 (st_X10_4 S0 n0).1.2.2.1.1 (st_X10_4 S0 n0).1.2.2.1.2.1 (st_X10_4 S0 n0).1.2.2.1.2.2 (st_X10_4 S0 n0).1.2.2.2.1 (st_X10_4 S0 n0).1.2.2.2.2.1 (st_X10_4 S0 n0).1.2.2.2.2.2) (wWB E a0 (st_X10_4 S0 n0)) = wWB E a0 (st_X10_4 S0 n0) := gmerge_self _ _ _ rfl
  exact gmerge_app2 h0 h1 rfl rfl
set_option maxRecDepth 100000 in
theorem mgX10_11 {E : gE} {S0 : sWB} {n0 : sPd} {a0 : Nat → Nat} : gmerge [39, 40, 41, 42, 43] (wPd E (a0 39) (a0 40) (a0 41) (a0 42) (a0 43) n0.1 n0.2.1 n0.2.2.1 n0.2.2.2.1 n0.2.2.2.2) (wWB E a0 S0) = wWB E a0 (st_X10_4 S0 n0) := by
  have h0 : gmerge [39, 40, 41, 42, 43] (wPd E (a0 39) (a0 40) (a0 41) (a0 42) (a0 43) n0.1 n0.2.1 n0.2.2.1 n0.2.2.2.1 n0.2.2.2.2) (wWB E a0 S0) = wWB E a0 (st_X10_4 S0 n0) := gmerge_cut 39 5 (Nat.le_of_ble_eq_true rfl) rfl rfl
  exact h0
set_option maxRecDepth 100000 in
theorem mgX10_12 {E : gE} {S0 : sWB} {n0 : sSz} {a0 : Nat → Nat} : gmerge [44, 45, 39, 40, 41, 42, 43] (wSz E (a0 44) (a0 45) n0.1 n0.2.1 n0.2.2.1 n0.2.2.2.1 n0.2.2.2.2.1 n0.2.2.2.2.2 ++ wPd E (a0 39) (a0 40) (a0 41) (a0 42) (a0 43) (st_X10_5 S0 n0).2.2.2.2.1.1 (st_X10_5 S0 n0).2.2.2.2.1.2.1 (st_X10_5 S0 n0).2.2.2.2.1.2.2.1 (st_X10_5 S0 n0).2.2.2.2.1.2.2.2.1 (st_X10_5 S0 n0).2.2.2.2.1.2.2.2.2) (wWB E a0 S0) = wWB E a0 (st_X10_5 S0 n0) := by
  have h0 : gmerge [44, 45] (wSz E (a0 44) (a0 45) n0.1 n0.2.1 n0.2.2.1 n0.2.2.2.1 n0.2.2.2.2.1 n0.2.2.2.2.2) (wWB E a0 S0) = wWB E a0 (st_X10_5 S0 n0) := gmerge_cut 44 2 (Nat.le_of_ble_eq_true rfl) rfl rfl
  have h1 : gmerge [39, 40, 41, 42, 43] (wPd E (a0 39) (a0 40) (a0 41) (a0 42) (a0 43) (st_X10_5 S0 n0).2.2.2.2.1.1 (st_X10_5 S0 n0).2.2.2.2.1.2.1 (st_X10_5 S0 n0).2.2.2.2.1.2.2.1 (st_X10_5 S0 n0).2.2.2.2.1.2.2.2.1 (st_X10_5 S0 n0).2.2.2.2.1.2.2.2.2) (wWB E a0 (st_X10_5 S0 n0)) = wWB E a0 (st_X10_5 S0 n0) := gmerge_self _ _ _ rfl
  exact gmerge_app2 h0 h1 rfl rfl
set_option maxHeartbeats 4000000 in
set_option maxRecDepth 100000 in
theorem qX10_find {l : Launch} {E : gE} {a0 : Nat → Nat} {fu : Nat} {S0 : sWB} {v1 : Int32} {r : Int64 × sWB} (hf : fX10_find fu S0 v1 = some r) : CtrF l yX10_find cX10_find 2 (some .long) (gR 5 119) E [.ref (a0 0), .int v1] (wWB E a0 S0) (some (.long r.1)) (wWB E a0 r.2) := by
  refine ctr_of false (plainFor_of_name (by decide)) (Nat.le_of_ble_eq_true rfl) (fun q => by cases q) (fun Γ h => ?_)
  refine g_lv [some _, some _] rfl ?_
  rw [fX10_find] at hf
  refine g_aload_n h dX10_find_0 rfl ?_
  refine g_iload_n h dX10_find_1 rfl ?_
  obtain ⟨r2, q2, hf⟩ := gbind hf
  refine g_cVr h (qX10_isModel (a0 := a0) q2) mX10_isModel lkX10_174 dX10_find_2 rfl rfl ⟨Nat.zero_le _, Nat.zero_le _⟩ ⟨by decide, by decide⟩ (Nat.le_of_ble_eq_true rfl) [0, 1, 2, 3, 4, 5, 6, 7, 8, 9, 10, 11, 12, 13, 14, 15, 16, 17, 18, 19, 20, 21, 22, 23, 24, 25, 26, 27, 28, 29, 30, 31, 32, 33, 34, 35, 36, 37, 38, 39, 40, 41, 42, 43, 44, 45, 46, 47, 48, 49, 50, 51, 52, 53, 54] rfl rfl 0 rfl rfl ?_
  refine g_ifb_ne h dX10_find_5 rfl (fun c5 => ?_) (fun c5 => ?_)
  · replace hf := ifb_t c5 hf
    refine g_aload_n h dX10_find_14 rfl ?_
    refine g_get h flX10_29 dX10_find_15 0 rfl rfl ?_
    refine g_aload_n h dX10_find_18 rfl ?_
    refine g_get h flX10_10 dX10_find_19 0 rfl rfl ?_
    obtain ⟨r22, q22, hf⟩ := gbind hf
    refine g_cVv (ws' := wWB E a0 (st_X10_4 S0 r22)) h (qX4_gather (a0 := fun k => a0 (k + 39)) (a1 := fun k => a0 (k + 1)) q22) mX4_gather lkX10_177 dX10_find_22 rfl rfl ⟨Nat.zero_le _, Nat.zero_le _⟩ ⟨by decide, by decide⟩ (Nat.le_of_ble_eq_true rfl) [39, 40, 41, 42, 43, 1, 2, 3, 4, 5, 6, 7, 8, 9, 10, 11, 12, 13, 14, 15, 16] rfl rfl 39 rfl rfl mgX10_10 ?_
    refine g_aload_n h dX10_find_25 rfl ?_
    refine g_get h flX10_29 dX10_find_26 0 rfl rfl ?_
    refine g_iload_n h dX10_find_29 rfl ?_
    obtain ⟨r30, q30, hf⟩ := gbind hf
    refine g_cVw (ws' := wWB E a0 (st_X10_4 (st_X10_4 S0 r22) r30.2)) h (qX4_solve (a0 := fun k => a0 (k + 39)) q30) mX4_solve lkX10_181 dX10_find_30 rfl rfl ⟨Nat.zero_le _, Nat.zero_le _⟩ ⟨by decide, by decide⟩ (Nat.le_of_ble_eq_true rfl) [39, 40, 41, 42, 43] rfl rfl 39 rfl rfl mgX10_11 ?_
    refine g_ifb_ne h dX10_find_33 rfl (fun c33 => ?_) (fun c33 => ?_)
    · replace hf := ifb_t c33 hf
      refine g_aload_n h dX10_find_55 rfl ?_
      refine g_get h flX10_36 dX10_find_56 0 rfl rfl ?_
      refine g_iload_n h dX10_find_59 rfl ?_
      refine g_aload_n h dX10_find_60 rfl ?_
      refine g_get h flX10_29 dX10_find_61 0 rfl rfl ?_
      obtain ⟨r64, q64, hf⟩ := gbind hf
      refine g_cVv (ws' := wWB E a0 (st_X10_5 (st_X10_4 (st_X10_4 S0 r22) r30.2) r64)) h (qX6_take (a0 := fun k => a0 (k + 44)) (a1 := fun k => a0 (k + 39)) q64) mX6_take lkX10_191 dX10_find_64 rfl rfl ⟨Nat.zero_le _, Nat.zero_le _⟩ ⟨by decide, by decide⟩ (Nat.le_of_ble_eq_true rfl) [44, 45, 39, 40, 41, 42, 43] rfl rfl 44 rfl rfl mgX10_12 ?_
      refine g_iload_n h dX10_find_67 rfl ?_
      obtain ⟨r68, q68, hf⟩ := gbind hf
      refine g_cSr h (qJ6_bitCount_0f7a4 q68) mJ6_bitCount_0f7a4 lkX10_195 dX10_find_68 rfl rfl ⟨Nat.zero_le _, Nat.zero_le _⟩ ⟨by decide, by decide⟩ (Nat.le_of_ble_eq_true rfl) [] rfl rfl ?_
      refine g_i2l h dX10_find_71 ?_
      have er := Option.some.inj hf
      subst er
      exact g_lreturn h dX10_find_72 rfl ⟨Nat.zero_le _, Nat.zero_le _, rfl, rfl, rfl⟩
    · replace hf := ifb_f c33 hf
      refine g_aload_n h dX10_find_36 rfl ?_
      refine g_aload_n h dX10_find_37 rfl ?_
      refine g_get h flX10_29 dX10_find_38 0 rfl rfl ?_
      refine g_iload_n h dX10_find_41 rfl ?_
      obtain ⟨r42, q42, hf⟩ := gbind hf
      refine g_cVw (ws' := wWB E a0 (st_X10_4 (st_X10_4 (st_X10_4 S0 r22) r30.2) r42.2)) h (qX4_looseOf (a0 := fun k => a0 (k + 39)) q42) mX4_looseOf lkX10_184 dX10_find_42 rfl rfl ⟨Nat.zero_le _, Nat.zero_le _⟩ ⟨by decide, by decide⟩ (Nat.le_of_ble_eq_true rfl) [39, 40, 41, 42, 43] rfl rfl 39 rfl rfl mgX10_11 ?_
      obtain ⟨S0x45, q45, hf⟩ := gbind hf
      refine g_put (ws' := wWB E a0 S0x45) (ty := .int) h flX10_187 gftX10 rfl (by decide +kernel) dX10_find_45 0 rfl rfl rfl (Nat.le_of_ble_eq_true rfl) (by cases q45; rfl) ?_
      refine g_aload_n h dX10_find_48 rfl ?_
      refine g_bipush (v := 6) h dX10_find_49 (by decide) ?_
      obtain ⟨r51, q51, hf⟩ := gbind hf
      refine g_cVw (ws' := wWB E a0 r51.2) h (qX10_refuse (a0 := a0) q51) mX10_refuse lkX10_67 dX10_find_51 rfl rfl ⟨Nat.zero_le _, Nat.zero_le _⟩ ⟨by decide, by decide⟩ (Nat.le_of_ble_eq_true rfl) [0, 1, 2, 3, 4, 5, 6, 7, 8, 9, 10, 11, 12, 13, 14, 15, 16, 17, 18, 19, 20, 21, 22, 23, 24, 25, 26, 27, 28, 29, 30, 31, 32, 33, 34, 35, 36, 37, 38, 39, 40, 41, 42, 43, 44, 45, 46, 47, 48, 49, 50, 51, 52, 53, 54] rfl rfl 0 rfl rfl mgX10_7 ?_
      have er := Option.some.inj hf
      subst er
      exact g_lreturn h dX10_find_54 rfl ⟨Nat.zero_le _, Nat.zero_le _, rfl, rfl, rfl⟩
  · replace hf := ifb_f c5 hf
    refine g_aload_n h dX10_find_8 rfl ?_
    refine g_iconst (v := 1) h dX10_find_9 (by decide) ?_
    obtain ⟨r10, q10, hf⟩ := gbind hf
    refine g_cVw (ws' := wWB E a0 r10.2) h (qX10_refuse (a0 := a0) q10) mX10_refuse lkX10_67 dX10_find_10 rfl rfl ⟨Nat.zero_le _, Nat.zero_le _⟩ ⟨by decide, by decide⟩ (Nat.le_of_ble_eq_true rfl) [0, 1, 2, 3, 4, 5, 6, 7, 8, 9, 10, 11, 12, 13, 14, 15, 16, 17, 18, 19, 20, 21, 22, 23, 24, 25, 26, 27, 28, 29, 30, 31, 32, 33, 34, 35, 36, 37, 38, 39, 40, 41, 42, 43, 44, 45, 46, 47, 48, 49, 50, 51, 52, 53, 54] rfl rfl 0 rfl rfl mgX10_7 ?_
    have er := Option.some.inj hf
    subst er
    exact g_lreturn h dX10_find_13 rfl ⟨Nat.zero_le _, Nat.zero_le _, rfl, rfl, rfl⟩
def fX10_loose (fu : Nat) (S0 : sWB)  : Option (Int64) := (some (S0.2.2.2.2.2.2.1.toInt64))
set_option maxHeartbeats 4000000 in
set_option maxRecDepth 100000 in
theorem qX10_loose {l : Launch} {E : gE} {a0 : Nat → Nat} {fu : Nat} {S0 : sWB}  {r : Int64} (hf : fX10_loose fu S0  = some r) : CtrF l yX10_loose cX10_loose 1 (some .long) (gR 0 0) E [.ref (a0 0)] (wWB E a0 S0) (some (.long r)) (wWB E a0 S0) := by
  refine ctr_of false (plainFor_of_name (by decide)) (Nat.le_of_ble_eq_true rfl) (fun q => by cases q) (fun Γ h => ?_)
  refine g_lv [some _] rfl ?_
  rw [fX10_loose] at hf
  refine g_aload_n h dX10_loose_0 rfl ?_
  refine g_get h flX10_187 dX10_loose_1 0 rfl rfl ?_
  refine g_i2l h dX10_loose_4 ?_
  have er := Option.some.inj hf
  subst er
  exact g_lreturn h dX10_loose_5 rfl ⟨Nat.zero_le _, Nat.zero_le _, rfl, rfl, rfl⟩
def jX10_size_22  (fu : Nat) (v1 : Int32) (v2 : Bool) (v3 : Int32) (S0 : sWB) : Option (Int64 × sWB) := (if v3 = 0 then ((fX6_above S0.2.2.2.2.2.1 v1).bind fun r37 => ((fX6_below S0.2.2.2.2.2.1).bind fun r44 => ((fX2_lowest r37 r44 v2).bind fun r48 => (some (r48, S0))))) else ((fX10_refuse fu S0 v3).bind fun r28 => (some (r28.1, r28.2))))
def fX10_size (fu : Nat) (S0 : sWB) (v1 : Int32) (v2 : Bool) : Option (Int64 × sWB) := ((fX10_whyNoSizes fu S0).bind fun r1 => (if r1 = 0 then ((fX6_has S0.2.2.2.2.2.1 v1).bind fun r14 => (if r14 = true then (jX10_size_22  fu v1 v2 r1 S0) else (jX10_size_22  fu v1 v2 (1 : Int32) S0))) else (jX10_size_22  fu v1 v2 r1 S0)))
set_option maxHeartbeats 4000000 in
set_option maxRecDepth 100000 in
theorem qX10_size {l : Launch} {E : gE} {a0 : Nat → Nat} {fu : Nat} {S0 : sWB} {v1 : Int32} {v2 : Bool} {r : Int64 × sWB} (hf : fX10_size fu S0 v1 v2 = some r) : CtrF l yX10_size cX10_size 4 (some .long) (gR 2 54) E [.ref (a0 0), .int v1, .int (bI v2)] (wWB E a0 S0) (some (.long r.1)) (wWB E a0 r.2) := by
  refine ctr_of false (plainFor_of_name (by decide)) (Nat.le_of_ble_eq_true rfl) (fun q => by cases q) (fun Γ h => ?_)
  refine g_lv [some _, some _, some _, _] rfl ?_
  rw [fX10_size] at hf
  have jn22 : ∀ (v3 : Int32) (S0 : sWB) , jX10_size_22  fu v1 v2 v3 S0 = some r → Γ 0 0 22 [some (.ref (a0 0)), some (.int v1), some (.int (bI v2)), some (.int v3)] [] (wWB E a0 S0) := by
    intro v3 S0 hf
    rw [jX10_size_22] at hf
    refine g_iload_n h dX10_size_22 rfl ?_
    refine g_if_eq h dX10_size_23 rfl (fun c23 => ?_) (fun c23 => ?_)
    · replace hf := ifp_t c23 hf
      refine g_aload_n h dX10_size_32 rfl ?_
      refine g_get h flX10_36 dX10_size_33 0 rfl rfl ?_
      refine g_iload_n h dX10_size_36 rfl ?_
      obtain ⟨r37, q37, hf⟩ := gbind hf
      refine g_cVr h (qX6_above (a0 := fun k => a0 (k + 44)) q37) mX6_above lkX10_204 dX10_size_37 rfl rfl ⟨Nat.zero_le _, Nat.zero_le _⟩ ⟨by decide, by decide⟩ (Nat.le_of_ble_eq_true rfl) [44, 45] rfl rfl 44 rfl rfl ?_
      refine g_aload_n h dX10_size_40 rfl ?_
      refine g_get h flX10_36 dX10_size_41 0 rfl rfl ?_
      obtain ⟨r44, q44, hf⟩ := gbind hf
      refine g_cVr h (qX6_below (a0 := fun k => a0 (k + 44)) q44) mX6_below lkX10_207 dX10_size_44 rfl rfl ⟨Nat.zero_le _, Nat.zero_le _⟩ ⟨by decide, by decide⟩ (Nat.le_of_ble_eq_true rfl) [44, 45] rfl rfl 44 rfl rfl ?_
      refine g_iload_n h dX10_size_47 rfl ?_
      obtain ⟨r48, q48, hf⟩ := gbind hf
      refine g_cSr h (qX2_lowest q48) mX2_lowest lkX10_211 dX10_size_48 rfl rfl ⟨Nat.zero_le _, Nat.zero_le _⟩ ⟨by decide, by decide⟩ (Nat.le_of_ble_eq_true rfl) [] rfl rfl ?_
      have er := Option.some.inj hf
      subst er
      exact g_lreturn h dX10_size_51 rfl ⟨Nat.zero_le _, Nat.zero_le _, rfl, rfl, rfl⟩
    · replace hf := ifp_f c23 hf
      refine g_aload_n h dX10_size_26 rfl ?_
      refine g_iload_n h dX10_size_27 rfl ?_
      obtain ⟨r28, q28, hf⟩ := gbind hf
      refine g_cVw (ws' := wWB E a0 r28.2) h (qX10_refuse (a0 := a0) q28) mX10_refuse lkX10_67 dX10_size_28 rfl rfl ⟨Nat.zero_le _, Nat.zero_le _⟩ ⟨by decide, by decide⟩ (Nat.le_of_ble_eq_true rfl) [0, 1, 2, 3, 4, 5, 6, 7, 8, 9, 10, 11, 12, 13, 14, 15, 16, 17, 18, 19, 20, 21, 22, 23, 24, 25, 26, 27, 28, 29, 30, 31, 32, 33, 34, 35, 36, 37, 38, 39, 40, 41, 42, 43, 44, 45, 46, 47, 48, 49, 50, 51, 52, 53, 54] rfl rfl 0 rfl rfl mgX10_7 ?_
      have er := Option.some.inj hf
      subst er
      exact g_lreturn h dX10_size_31 rfl ⟨Nat.zero_le _, Nat.zero_le _, rfl, rfl, rfl⟩
  refine g_aload_n h dX10_size_0 rfl ?_
  obtain ⟨r1, q1, hf⟩ := gbind hf
  refine g_cVr h (qX10_whyNoSizes (a0 := a0) q1) mX10_whyNoSizes lkX10_200 dX10_size_1 rfl rfl ⟨Nat.zero_le _, Nat.zero_le _⟩ ⟨by decide, by decide⟩ (Nat.le_of_ble_eq_true rfl) [0, 1, 2, 3, 4, 5, 6, 7, 8, 9, 10, 11, 12, 13, 14, 15, 16, 17, 18, 19, 20, 21, 22, 23, 24, 25, 26, 27, 28, 29, 30, 31, 32, 33, 34, 35, 36, 37, 38, 39, 40, 41, 42, 43, 44, 45, 46, 47, 48, 49, 50, 51, 52, 53, 54] rfl rfl 0 rfl rfl ?_
  refine g_istore_n (lv' := [some _, some _, some _, some _]) h dX10_size_4 (by decide) rfl ?_
  refine g_iload_n h dX10_size_5 rfl ?_
  refine g_if_ne h dX10_size_6 rfl (fun c6 => ?_) (fun c6 => ?_)
  · replace hf := ifp_f c6 hf
    exact jn22 _ _  hf
  · replace hf := ifp_t c6 hf
    refine g_aload_n h dX10_size_9 rfl ?_
    refine g_get h flX10_36 dX10_size_10 0 rfl rfl ?_
    refine g_iload_n h dX10_size_13 rfl ?_
    obtain ⟨r14, q14, hf⟩ := gbind hf
    refine g_cVr h (qX6_has (a0 := fun k => a0 (k + 44)) q14) mX6_has lkX10_203 dX10_size_14 rfl rfl ⟨Nat.zero_le _, Nat.zero_le _⟩ ⟨by decide, by decide⟩ (Nat.le_of_ble_eq_true rfl) [44, 45] rfl rfl 44 rfl rfl ?_
    refine g_ifb_ne h dX10_size_17 rfl (fun c17 => ?_) (fun c17 => ?_)
    · replace hf := ifb_t c17 hf
      exact jn22 _ _  hf
    · replace hf := ifb_f c17 hf
      refine g_iconst (v := 1) h dX10_size_20 (by decide) ?_
      refine g_istore_n (lv' := [some _, some _, some _, some _]) h dX10_size_21 (by decide) rfl ?_
      exact jn22 _ _  hf
def jX10_left_25  (fu : Nat) (v1 : Int32) (v2 : Bool) (v3 : Int32) (S0 : sWB) : Option (Int64 × sWB) := (if v3 = 0 then ((fX3_second 20 S0.1.2.1 v1).bind fun r43 => ((fX6_below S0.2.2.2.2.2.1).bind fun r51 => ((fX3_first 20 S0.1.2.1 v1).bind fun r71 => ((fX6_aboveIn S0.2.2.2.2.2.1 S0.1.1 r71).bind fun r81 => ((fX6_below S0.2.2.2.2.2.1).bind fun r93 => ((fX2_lowest (((r43.toInt64) * r51) - r81) r93 v2).bind fun r97 => (some (r97, S0)))))))) else ((fX10_refuse fu S0 v3).bind fun r31 => (some (r31.1, r31.2))))
def fX10_left (fu : Nat) (S0 : sWB) (v1 : Int32) (v2 : Bool) : Option (Int64 × sWB) := ((fX10_whyNoSizes fu S0).bind fun r1 => (if r1 = 0 then ((fX3_has 20 S0.1.2.1 v1).bind fun r17 => (if r17 = true then (jX10_left_25  fu v1 v2 r1 S0) else (jX10_left_25  fu v1 v2 (1 : Int32) S0))) else (jX10_left_25  fu v1 v2 r1 S0)))
set_option maxHeartbeats 4000000 in
set_option maxRecDepth 100000 in
theorem qX10_left {l : Launch} {E : gE} {a0 : Nat → Nat} {fu : Nat} {S0 : sWB} {v1 : Int32} {v2 : Bool} {r : Int64 × sWB} (hf : fX10_left fu S0 v1 v2 = some r) : CtrF l yX10_left cX10_left 8 (some .long) (gR 4 94) E [.ref (a0 0), .int v1, .int (bI v2)] (wWB E a0 S0) (some (.long r.1)) (wWB E a0 r.2) := by
  refine ctr_of false (plainFor_of_name (by decide)) (Nat.le_of_ble_eq_true rfl) (fun q => by cases q) (fun Γ h => ?_)
  refine g_lv [some _, some _, some _, _, _, _, _, _] rfl ?_
  rw [fX10_left] at hf
  have jn25 : ∀ (v3 : Int32) (S0 : sWB) (o4 : Option Value) (o5 : Option Value) (o6 : Option Value) (o7 : Option Value), jX10_left_25  fu v1 v2 v3 S0 = some r → Γ 0 0 25 [some (.ref (a0 0)), some (.int v1), some (.int (bI v2)), some (.int v3), o4, o5, o6, o7] [] (wWB E a0 S0) := by
    intro v3 S0 o4 o5 o6 o7 hf
    rw [jX10_left_25] at hf
    refine g_iload_n h dX10_left_25 rfl ?_
    refine g_if_eq h dX10_left_26 rfl (fun c26 => ?_) (fun c26 => ?_)
    · replace hf := ifp_t c26 hf
      refine g_aload_n h dX10_left_35 rfl ?_
      refine g_get h flX10_10 dX10_left_36 0 rfl rfl ?_
      refine g_get h flX10_111 dX10_left_39 1 rfl rfl ?_
      refine g_iload_n h dX10_left_42 rfl ?_
      obtain ⟨r43, q43, hf⟩ := gbind hf
      refine g_cVr h (qX3_second (a0 := fun k => a0 (k + 7)) q43) mX3_second lkX10_137 dX10_left_43 rfl rfl ⟨Nat.zero_le _, Nat.zero_le _⟩ ⟨by decide, by decide⟩ (Nat.le_of_ble_eq_true rfl) [7, 8, 9] rfl rfl 7 rfl rfl ?_
      refine g_i2l h dX10_left_46 ?_
      refine g_aload_n h dX10_left_47 rfl ?_
      refine g_get h flX10_36 dX10_left_48 0 rfl rfl ?_
      obtain ⟨r51, q51, hf⟩ := gbind hf
      refine g_cVr h (qX6_below (a0 := fun k => a0 (k + 44)) q51) mX6_below lkX10_207 dX10_left_51 rfl rfl ⟨Nat.zero_le _, Nat.zero_le _⟩ ⟨by decide, by decide⟩ (Nat.le_of_ble_eq_true rfl) [44, 45] rfl rfl 44 rfl rfl ?_
      refine g_lmul h dX10_left_54 ?_
      refine g_lstore (lv' := [some _, some _, some _, some _, some _, none, _, _]) h dX10_left_55 (by decide) rfl ?_
      refine g_lload h dX10_left_57 rfl ?_
      refine g_aload_n h dX10_left_59 rfl ?_
      refine g_get h flX10_36 dX10_left_60 0 rfl rfl ?_
      refine g_aload_n h dX10_left_63 rfl ?_
      refine g_get h flX10_10 dX10_left_64 0 rfl rfl ?_
      refine g_get h flX10_111 dX10_left_67 1 rfl rfl ?_
      refine g_iload_n h dX10_left_70 rfl ?_
      obtain ⟨r71, q71, hf⟩ := gbind hf
      refine g_cVr h (qX3_first (a0 := fun k => a0 (k + 7)) q71) mX3_first lkX10_134 dX10_left_71 rfl rfl ⟨Nat.zero_le _, Nat.zero_le _⟩ ⟨by decide, by decide⟩ (Nat.le_of_ble_eq_true rfl) [7, 8, 9] rfl rfl 7 rfl rfl ?_
      refine g_aload_n h dX10_left_74 rfl ?_
      refine g_get h flX10_10 dX10_left_75 0 rfl rfl ?_
      refine g_get h flX10_71 dX10_left_78 1 rfl rfl ?_
      obtain ⟨r81, q81, hf⟩ := gbind hf
      refine g_cVr h (qX6_aboveIn (a0 := fun k => a0 (k + 44)) (a1 := fun k => a0 (k + 2)) q81) mX6_aboveIn lkX10_215 dX10_left_81 rfl rfl ⟨Nat.zero_le _, Nat.zero_le _⟩ ⟨by decide, by decide⟩ (Nat.le_of_ble_eq_true rfl) [44, 45, 2, 3, 4, 5, 6] rfl rfl 44 rfl rfl ?_
      refine g_lsub h dX10_left_84 ?_
      refine g_lstore (lv' := [some _, some _, some _, some _, some _, none, some _, none]) h dX10_left_85 (by decide) rfl ?_
      refine g_lload h dX10_left_87 rfl ?_
      refine g_aload_n h dX10_left_89 rfl ?_
      refine g_get h flX10_36 dX10_left_90 0 rfl rfl ?_
      obtain ⟨r93, q93, hf⟩ := gbind hf
      refine g_cVr h (qX6_below (a0 := fun k => a0 (k + 44)) q93) mX6_below lkX10_207 dX10_left_93 rfl rfl ⟨Nat.zero_le _, Nat.zero_le _⟩ ⟨by decide, by decide⟩ (Nat.le_of_ble_eq_true rfl) [44, 45] rfl rfl 44 rfl rfl ?_
      refine g_iload_n h dX10_left_96 rfl ?_
      obtain ⟨r97, q97, hf⟩ := gbind hf
      refine g_cSr h (qX2_lowest q97) mX2_lowest lkX10_211 dX10_left_97 rfl rfl ⟨Nat.zero_le _, Nat.zero_le _⟩ ⟨by decide, by decide⟩ (Nat.le_of_ble_eq_true rfl) [] rfl rfl ?_
      have er := Option.some.inj hf
      subst er
      exact g_lreturn h dX10_left_100 rfl ⟨Nat.zero_le _, Nat.zero_le _, rfl, rfl, rfl⟩
    · replace hf := ifp_f c26 hf
      refine g_aload_n h dX10_left_29 rfl ?_
      refine g_iload_n h dX10_left_30 rfl ?_
      obtain ⟨r31, q31, hf⟩ := gbind hf
      refine g_cVw (ws' := wWB E a0 r31.2) h (qX10_refuse (a0 := a0) q31) mX10_refuse lkX10_67 dX10_left_31 rfl rfl ⟨Nat.zero_le _, Nat.zero_le _⟩ ⟨by decide, by decide⟩ (Nat.le_of_ble_eq_true rfl) [0, 1, 2, 3, 4, 5, 6, 7, 8, 9, 10, 11, 12, 13, 14, 15, 16, 17, 18, 19, 20, 21, 22, 23, 24, 25, 26, 27, 28, 29, 30, 31, 32, 33, 34, 35, 36, 37, 38, 39, 40, 41, 42, 43, 44, 45, 46, 47, 48, 49, 50, 51, 52, 53, 54] rfl rfl 0 rfl rfl mgX10_7 ?_
      have er := Option.some.inj hf
      subst er
      exact g_lreturn h dX10_left_34 rfl ⟨Nat.zero_le _, Nat.zero_le _, rfl, rfl, rfl⟩
  refine g_aload_n h dX10_left_0 rfl ?_
  obtain ⟨r1, q1, hf⟩ := gbind hf
  refine g_cVr h (qX10_whyNoSizes (a0 := a0) q1) mX10_whyNoSizes lkX10_200 dX10_left_1 rfl rfl ⟨Nat.zero_le _, Nat.zero_le _⟩ ⟨by decide, by decide⟩ (Nat.le_of_ble_eq_true rfl) [0, 1, 2, 3, 4, 5, 6, 7, 8, 9, 10, 11, 12, 13, 14, 15, 16, 17, 18, 19, 20, 21, 22, 23, 24, 25, 26, 27, 28, 29, 30, 31, 32, 33, 34, 35, 36, 37, 38, 39, 40, 41, 42, 43, 44, 45, 46, 47, 48, 49, 50, 51, 52, 53, 54] rfl rfl 0 rfl rfl ?_
  refine g_istore_n (lv' := [some _, some _, some _, some _, _, _, _, _]) h dX10_left_4 (by decide) rfl ?_
  refine g_iload_n h dX10_left_5 rfl ?_
  refine g_if_ne h dX10_left_6 rfl (fun c6 => ?_) (fun c6 => ?_)
  · replace hf := ifp_f c6 hf
    exact jn25 _ _ _ _ _ _ hf
  · replace hf := ifp_t c6 hf
    refine g_aload_n h dX10_left_9 rfl ?_
    refine g_get h flX10_10 dX10_left_10 0 rfl rfl ?_
    refine g_get h flX10_111 dX10_left_13 1 rfl rfl ?_
    refine g_iload_n h dX10_left_16 rfl ?_
    obtain ⟨r17, q17, hf⟩ := gbind hf
    refine g_cVr h (qX3_has (a0 := fun k => a0 (k + 7)) q17) mX3_has lkX10_120 dX10_left_17 rfl rfl ⟨Nat.zero_le _, Nat.zero_le _⟩ ⟨by decide, by decide⟩ (Nat.le_of_ble_eq_true rfl) [7, 8, 9] rfl rfl 7 rfl rfl ?_
    refine g_ifb_ne h dX10_left_20 rfl (fun c20 => ?_) (fun c20 => ?_)
    · replace hf := ifb_t c20 hf
      exact jn25 _ _ _ _ _ _ hf
    · replace hf := ifb_f c20 hf
      refine g_iconst (v := 1) h dX10_left_23 (by decide) ?_
      refine g_istore_n (lv' := [some _, some _, some _, some _, _, _, _, _]) h dX10_left_24 (by decide) rfl ?_
      exact jn25 _ _ _ _ _ _ hf
def fX10_sum (fu : Nat) (S0 : sWB) (v1 : Bool) : Option (Int64 × sWB) := ((fX10_whyNoSizes fu S0).bind fun r1 => (if r1 = 0 then ((fX6_squares S0.2.2.2.2.2.1).bind fun r19 => ((fX6_below S0.2.2.2.2.2.1).bind fun r26 => ((fX2_lowest r19 r26 v1).bind fun r30 => (some (r30, S0))))) else ((fX10_refuse fu S0 r1).bind fun r11 => (some (r11.1, r11.2)))))
set_option maxHeartbeats 4000000 in
set_option maxRecDepth 100000 in
theorem qX10_sum {l : Launch} {E : gE} {a0 : Nat → Nat} {fu : Nat} {S0 : sWB} {v1 : Bool} {r : Int64 × sWB} (hf : fX10_sum fu S0 v1 = some r) : CtrF l yX10_sum cX10_sum 3 (some .long) (gR 2 54) E [.ref (a0 0), .int (bI v1)] (wWB E a0 S0) (some (.long r.1)) (wWB E a0 r.2) := by
  refine ctr_of false (plainFor_of_name (by decide)) (Nat.le_of_ble_eq_true rfl) (fun q => by cases q) (fun Γ h => ?_)
  refine g_lv [some _, some _, _] rfl ?_
  rw [fX10_sum] at hf
  refine g_aload_n h dX10_sum_0 rfl ?_
  obtain ⟨r1, q1, hf⟩ := gbind hf
  refine g_cVr h (qX10_whyNoSizes (a0 := a0) q1) mX10_whyNoSizes lkX10_200 dX10_sum_1 rfl rfl ⟨Nat.zero_le _, Nat.zero_le _⟩ ⟨by decide, by decide⟩ (Nat.le_of_ble_eq_true rfl) [0, 1, 2, 3, 4, 5, 6, 7, 8, 9, 10, 11, 12, 13, 14, 15, 16, 17, 18, 19, 20, 21, 22, 23, 24, 25, 26, 27, 28, 29, 30, 31, 32, 33, 34, 35, 36, 37, 38, 39, 40, 41, 42, 43, 44, 45, 46, 47, 48, 49, 50, 51, 52, 53, 54] rfl rfl 0 rfl rfl ?_
  refine g_istore_n (lv' := [some _, some _, some _]) h dX10_sum_4 (by decide) rfl ?_
  refine g_iload_n h dX10_sum_5 rfl ?_
  refine g_if_eq h dX10_sum_6 rfl (fun c6 => ?_) (fun c6 => ?_)
  · replace hf := ifp_t c6 hf
    refine g_aload_n h dX10_sum_15 rfl ?_
    refine g_get h flX10_36 dX10_sum_16 0 rfl rfl ?_
    obtain ⟨r19, q19, hf⟩ := gbind hf
    refine g_cVr h (qX6_squares (a0 := fun k => a0 (k + 44)) q19) mX6_squares lkX10_219 dX10_sum_19 rfl rfl ⟨Nat.zero_le _, Nat.zero_le _⟩ ⟨by decide, by decide⟩ (Nat.le_of_ble_eq_true rfl) [44, 45] rfl rfl 44 rfl rfl ?_
    refine g_aload_n h dX10_sum_22 rfl ?_
    refine g_get h flX10_36 dX10_sum_23 0 rfl rfl ?_
    obtain ⟨r26, q26, hf⟩ := gbind hf
    refine g_cVr h (qX6_below (a0 := fun k => a0 (k + 44)) q26) mX6_below lkX10_207 dX10_sum_26 rfl rfl ⟨Nat.zero_le _, Nat.zero_le _⟩ ⟨by decide, by decide⟩ (Nat.le_of_ble_eq_true rfl) [44, 45] rfl rfl 44 rfl rfl ?_
    refine g_iload_n h dX10_sum_29 rfl ?_
    obtain ⟨r30, q30, hf⟩ := gbind hf
    refine g_cSr h (qX2_lowest q30) mX2_lowest lkX10_211 dX10_sum_30 rfl rfl ⟨Nat.zero_le _, Nat.zero_le _⟩ ⟨by decide, by decide⟩ (Nat.le_of_ble_eq_true rfl) [] rfl rfl ?_
    have er := Option.some.inj hf
    subst er
    exact g_lreturn h dX10_sum_33 rfl ⟨Nat.zero_le _, Nat.zero_le _, rfl, rfl, rfl⟩
  · replace hf := ifp_f c6 hf
    refine g_aload_n h dX10_sum_9 rfl ?_
    refine g_iload_n h dX10_sum_10 rfl ?_
    obtain ⟨r11, q11, hf⟩ := gbind hf
    refine g_cVw (ws' := wWB E a0 r11.2) h (qX10_refuse (a0 := a0) q11) mX10_refuse lkX10_67 dX10_sum_11 rfl rfl ⟨Nat.zero_le _, Nat.zero_le _⟩ ⟨by decide, by decide⟩ (Nat.le_of_ble_eq_true rfl) [0, 1, 2, 3, 4, 5, 6, 7, 8, 9, 10, 11, 12, 13, 14, 15, 16, 17, 18, 19, 20, 21, 22, 23, 24, 25, 26, 27, 28, 29, 30, 31, 32, 33, 34, 35, 36, 37, 38, 39, 40, 41, 42, 43, 44, 45, 46, 47, 48, 49, 50, 51, 52, 53, 54] rfl rfl 0 rfl rfl mgX10_7 ?_
    have er := Option.some.inj hf
    subst er
    exact g_lreturn h dX10_sum_14 rfl ⟨Nat.zero_le _, Nat.zero_le _, rfl, rfl, rfl⟩
def jX10_foretold_18  (fu : Nat) (v1 : Int32) (v2 : Bool) (v3 : Int32) (S0 : sWB) : Option (Int64 × sWB) := (if v3 = 0 then ((fX6_aboveIn S0.2.2.2.2.2.1 S0.1.1 v1).bind fun r40 => ((fX6_below S0.2.2.2.2.2.1).bind fun r47 => ((fX2_lowest r40 r47 v2).bind fun r51 => (some (r51, S0))))) else ((fX10_refuse fu S0 v3).bind fun r24 => (some (r24.1, r24.2))))
def fX10_foretold (fu : Nat) (S0 : sWB) (v1 : Int32) (v2 : Bool) : Option (Int64 × sWB) := ((fX10_whyNoSizes fu S0).bind fun r1 => (if r1 = 0 then ((fX10_isState v1).bind fun r10 => (if r10 = true then (jX10_foretold_18  fu v1 v2 r1 S0) else (jX10_foretold_18  fu v1 v2 (1 : Int32) S0))) else (jX10_foretold_18  fu v1 v2 r1 S0)))
set_option maxHeartbeats 4000000 in
set_option maxRecDepth 100000 in
theorem qX10_foretold {l : Launch} {E : gE} {a0 : Nat → Nat} {fu : Nat} {S0 : sWB} {v1 : Int32} {v2 : Bool} {r : Int64 × sWB} (hf : fX10_foretold fu S0 v1 v2 = some r) : CtrF l yX10_foretold cX10_foretold 4 (some .long) (gR 4 94) E [.ref (a0 0), .int v1, .int (bI v2)] (wWB E a0 S0) (some (.long r.1)) (wWB E a0 r.2) := by
  refine ctr_of false (plainFor_of_name (by decide)) (Nat.le_of_ble_eq_true rfl) (fun q => by cases q) (fun Γ h => ?_)
  refine g_lv [some _, some _, some _, _] rfl ?_
  rw [fX10_foretold] at hf
  have jn18 : ∀ (v3 : Int32) (S0 : sWB) , jX10_foretold_18  fu v1 v2 v3 S0 = some r → Γ 0 0 18 [some (.ref (a0 0)), some (.int v1), some (.int (bI v2)), some (.int v3)] [] (wWB E a0 S0) := by
    intro v3 S0 hf
    rw [jX10_foretold_18] at hf
    refine g_iload_n h dX10_foretold_18 rfl ?_
    refine g_if_eq h dX10_foretold_19 rfl (fun c19 => ?_) (fun c19 => ?_)
    · replace hf := ifp_t c19 hf
      refine g_aload_n h dX10_foretold_28 rfl ?_
      refine g_get h flX10_36 dX10_foretold_29 0 rfl rfl ?_
      refine g_iload_n h dX10_foretold_32 rfl ?_
      refine g_aload_n h dX10_foretold_33 rfl ?_
      refine g_get h flX10_10 dX10_foretold_34 0 rfl rfl ?_
      refine g_get h flX10_71 dX10_foretold_37 1 rfl rfl ?_
      obtain ⟨r40, q40, hf⟩ := gbind hf
      refine g_cVr h (qX6_aboveIn (a0 := fun k => a0 (k + 44)) (a1 := fun k => a0 (k + 2)) q40) mX6_aboveIn lkX10_215 dX10_foretold_40 rfl rfl ⟨Nat.zero_le _, Nat.zero_le _⟩ ⟨by decide, by decide⟩ (Nat.le_of_ble_eq_true rfl) [44, 45, 2, 3, 4, 5, 6] rfl rfl 44 rfl rfl ?_
      refine g_aload_n h dX10_foretold_43 rfl ?_
      refine g_get h flX10_36 dX10_foretold_44 0 rfl rfl ?_
      obtain ⟨r47, q47, hf⟩ := gbind hf
      refine g_cVr h (qX6_below (a0 := fun k => a0 (k + 44)) q47) mX6_below lkX10_207 dX10_foretold_47 rfl rfl ⟨Nat.zero_le _, Nat.zero_le _⟩ ⟨by decide, by decide⟩ (Nat.le_of_ble_eq_true rfl) [44, 45] rfl rfl 44 rfl rfl ?_
      refine g_iload_n h dX10_foretold_50 rfl ?_
      obtain ⟨r51, q51, hf⟩ := gbind hf
      refine g_cSr h (qX2_lowest q51) mX2_lowest lkX10_211 dX10_foretold_51 rfl rfl ⟨Nat.zero_le _, Nat.zero_le _⟩ ⟨by decide, by decide⟩ (Nat.le_of_ble_eq_true rfl) [] rfl rfl ?_
      have er := Option.some.inj hf
      subst er
      exact g_lreturn h dX10_foretold_54 rfl ⟨Nat.zero_le _, Nat.zero_le _, rfl, rfl, rfl⟩
    · replace hf := ifp_f c19 hf
      refine g_aload_n h dX10_foretold_22 rfl ?_
      refine g_iload_n h dX10_foretold_23 rfl ?_
      obtain ⟨r24, q24, hf⟩ := gbind hf
      refine g_cVw (ws' := wWB E a0 r24.2) h (qX10_refuse (a0 := a0) q24) mX10_refuse lkX10_67 dX10_foretold_24 rfl rfl ⟨Nat.zero_le _, Nat.zero_le _⟩ ⟨by decide, by decide⟩ (Nat.le_of_ble_eq_true rfl) [0, 1, 2, 3, 4, 5, 6, 7, 8, 9, 10, 11, 12, 13, 14, 15, 16, 17, 18, 19, 20, 21, 22, 23, 24, 25, 26, 27, 28, 29, 30, 31, 32, 33, 34, 35, 36, 37, 38, 39, 40, 41, 42, 43, 44, 45, 46, 47, 48, 49, 50, 51, 52, 53, 54] rfl rfl 0 rfl rfl mgX10_7 ?_
      have er := Option.some.inj hf
      subst er
      exact g_lreturn h dX10_foretold_27 rfl ⟨Nat.zero_le _, Nat.zero_le _, rfl, rfl, rfl⟩
  refine g_aload_n h dX10_foretold_0 rfl ?_
  obtain ⟨r1, q1, hf⟩ := gbind hf
  refine g_cVr h (qX10_whyNoSizes (a0 := a0) q1) mX10_whyNoSizes lkX10_200 dX10_foretold_1 rfl rfl ⟨Nat.zero_le _, Nat.zero_le _⟩ ⟨by decide, by decide⟩ (Nat.le_of_ble_eq_true rfl) [0, 1, 2, 3, 4, 5, 6, 7, 8, 9, 10, 11, 12, 13, 14, 15, 16, 17, 18, 19, 20, 21, 22, 23, 24, 25, 26, 27, 28, 29, 30, 31, 32, 33, 34, 35, 36, 37, 38, 39, 40, 41, 42, 43, 44, 45, 46, 47, 48, 49, 50, 51, 52, 53, 54] rfl rfl 0 rfl rfl ?_
  refine g_istore_n (lv' := [some _, some _, some _, some _]) h dX10_foretold_4 (by decide) rfl ?_
  refine g_iload_n h dX10_foretold_5 rfl ?_
  refine g_if_ne h dX10_foretold_6 rfl (fun c6 => ?_) (fun c6 => ?_)
  · replace hf := ifp_f c6 hf
    exact jn18 _ _  hf
  · replace hf := ifp_t c6 hf
    refine g_iload_n h dX10_foretold_9 rfl ?_
    obtain ⟨r10, q10, hf⟩ := gbind hf
    refine g_cSr h (qX10_isState q10) mX10_isState lkX10_90 dX10_foretold_10 rfl rfl ⟨Nat.zero_le _, Nat.zero_le _⟩ ⟨by decide, by decide⟩ (Nat.le_of_ble_eq_true rfl) [] rfl rfl ?_
    refine g_ifb_ne h dX10_foretold_13 rfl (fun c13 => ?_) (fun c13 => ?_)
    · replace hf := ifb_t c13 hf
      exact jn18 _ _  hf
    · replace hf := ifb_f c13 hf
      refine g_iconst (v := 1) h dX10_foretold_16 (by decide) ?_
      refine g_istore_n (lv' := [some _, some _, some _, some _]) h dX10_foretold_17 (by decide) rfl ?_
      exact jn18 _ _  hf
def fX10_model (fu : Nat) (S0 : sWB)  : Option (Int64 × sWB) := ((fX10_whyNoSizes fu S0).bind fun r1 => (if r1 = 0 then ((fX6_causeSet S0.2.2.2.2.2.1).bind fun r19 => (some ((r19.toInt64), S0))) else ((fX10_refuse fu S0 r1).bind fun r11 => (some (r11.1, r11.2)))))
set_option maxHeartbeats 4000000 in
set_option maxRecDepth 100000 in
theorem qX10_model {l : Launch} {E : gE} {a0 : Nat → Nat} {fu : Nat} {S0 : sWB}  {r : Int64 × sWB} (hf : fX10_model fu S0  = some r) : CtrF l yX10_model cX10_model 2 (some .long) (gR 2 43) E [.ref (a0 0)] (wWB E a0 S0) (some (.long r.1)) (wWB E a0 r.2) := by
  refine ctr_of false (plainFor_of_name (by decide)) (Nat.le_of_ble_eq_true rfl) (fun q => by cases q) (fun Γ h => ?_)
  refine g_lv [some _, _] rfl ?_
  rw [fX10_model] at hf
  refine g_aload_n h dX10_model_0 rfl ?_
  obtain ⟨r1, q1, hf⟩ := gbind hf
  refine g_cVr h (qX10_whyNoSizes (a0 := a0) q1) mX10_whyNoSizes lkX10_200 dX10_model_1 rfl rfl ⟨Nat.zero_le _, Nat.zero_le _⟩ ⟨by decide, by decide⟩ (Nat.le_of_ble_eq_true rfl) [0, 1, 2, 3, 4, 5, 6, 7, 8, 9, 10, 11, 12, 13, 14, 15, 16, 17, 18, 19, 20, 21, 22, 23, 24, 25, 26, 27, 28, 29, 30, 31, 32, 33, 34, 35, 36, 37, 38, 39, 40, 41, 42, 43, 44, 45, 46, 47, 48, 49, 50, 51, 52, 53, 54] rfl rfl 0 rfl rfl ?_
  refine g_istore_n (lv' := [some _, some _]) h dX10_model_4 (by decide) rfl ?_
  refine g_iload_n h dX10_model_5 rfl ?_
  refine g_if_eq h dX10_model_6 rfl (fun c6 => ?_) (fun c6 => ?_)
  · replace hf := ifp_t c6 hf
    refine g_aload_n h dX10_model_15 rfl ?_
    refine g_get h flX10_36 dX10_model_16 0 rfl rfl ?_
    obtain ⟨r19, q19, hf⟩ := gbind hf
    refine g_cVr h (qX6_causeSet (a0 := fun k => a0 (k + 44)) q19) mX6_causeSet lkX10_222 dX10_model_19 rfl rfl ⟨Nat.zero_le _, Nat.zero_le _⟩ ⟨by decide, by decide⟩ (Nat.le_of_ble_eq_true rfl) [44, 45] rfl rfl 44 rfl rfl ?_
    refine g_i2l h dX10_model_22 ?_
    have er := Option.some.inj hf
    subst er
    exact g_lreturn h dX10_model_23 rfl ⟨Nat.zero_le _, Nat.zero_le _, rfl, rfl, rfl⟩
  · replace hf := ifp_f c6 hf
    refine g_aload_n h dX10_model_9 rfl ?_
    refine g_iload_n h dX10_model_10 rfl ?_
    obtain ⟨r11, q11, hf⟩ := gbind hf
    refine g_cVw (ws' := wWB E a0 r11.2) h (qX10_refuse (a0 := a0) q11) mX10_refuse lkX10_67 dX10_model_11 rfl rfl ⟨Nat.zero_le _, Nat.zero_le _⟩ ⟨by decide, by decide⟩ (Nat.le_of_ble_eq_true rfl) [0, 1, 2, 3, 4, 5, 6, 7, 8, 9, 10, 11, 12, 13, 14, 15, 16, 17, 18, 19, 20, 21, 22, 23, 24, 25, 26, 27, 28, 29, 30, 31, 32, 33, 34, 35, 36, 37, 38, 39, 40, 41, 42, 43, 44, 45, 46, 47, 48, 49, 50, 51, 52, 53, 54] rfl rfl 0 rfl rfl mgX10_7 ?_
    have er := Option.some.inj hf
    subst er
    exact g_lreturn h dX10_model_14 rfl ⟨Nat.zero_le _, Nat.zero_le _, rfl, rfl, rfl⟩
def fX10_few (fu : Nat) (S0 : sWB) (v1 : Int32) : Option (Int64 × sWB) := ((fX2_within v1 (1 : Int32) (3 : Int32)).bind fun r3 => (if r3 = true then ((fX0_length S0.1.1).bind fun r22 => (if r22 = 0 then ((fX10_refuse fu S0 (2 : Int32)).bind fun r30 => (some (r30.1, r30.2))) else ((fX4_gather fu S0.2.2.2.2.1 S0.1).bind fun r42 => ((fX0_length (st_X10_4 S0 r42).1.1).bind fun r53 => ((fX4_fewestOf fu (st_X10_4 S0 r42).2.2.2.2.1 (((1 : Int32) <<< (r53 &&& 31)) - (1 : Int32)) v1).bind fun r66 => (if r66.1 = 0 then ((some (st_X10_6 (st_X10_4 (st_X10_4 S0 r42) r66.2) (((1 : Int32) <<< (r53 &&& 31)) - (1 : Int32)))).bind fun S0x87 => ((fX10_refuse fu S0x87 (6 : Int32)).bind fun r93 => (some (r93.1, r93.2)))) else ((fX4_solve (st_X10_4 (st_X10_4 S0 r42) r66.2).2.2.2.2.1 r66.1).bind fun r79 => (if r79.1 = true then ((fX6_take fu (st_X10_4 (st_X10_4 (st_X10_4 S0 r42) r66.2) r79.2).2.2.2.2.2.1 (st_X10_4 (st_X10_4 (st_X10_4 S0 r42) r66.2) r79.2).2.2.2.2.1 r66.1).bind fun r106 => (some ((r66.1.toInt64), (st_X10_5 (st_X10_4 (st_X10_4 (st_X10_4 S0 r42) r66.2) r79.2) r106)))) else ((some (st_X10_6 (st_X10_4 (st_X10_4 (st_X10_4 S0 r42) r66.2) r79.2) (((1 : Int32) <<< (r53 &&& 31)) - (1 : Int32)))).bind fun S0x87 => ((fX10_refuse fu S0x87 (6 : Int32)).bind fun r93 => (some (r93.1, r93.2)))))))))))) else ((fX10_refuse fu S0 (1 : Int32)).bind fun r11 => (some (r11.1, r11.2)))))
set_option maxHeartbeats 4000000 in
set_option maxRecDepth 100000 in
theorem qX10_few {l : Launch} {E : gE} {a0 : Nat → Nat} {fu : Nat} {S0 : sWB} {v1 : Int32} {r : Int64 × sWB} (hf : fX10_few fu S0 v1 = some r) : CtrF l yX10_few cX10_few 4 (some .long) (gR 5 119) E [.ref (a0 0), .int v1] (wWB E a0 S0) (some (.long r.1)) (wWB E a0 r.2) := by
  refine ctr_of false (plainFor_of_name (by decide)) (Nat.le_of_ble_eq_true rfl) (fun q => by cases q) (fun Γ h => ?_)
  refine g_lv [some _, some _, _, _] rfl ?_
  rw [fX10_few] at hf
  refine g_iload_n h dX10_few_0 rfl ?_
  refine g_iconst (v := 1) h dX10_few_1 (by decide) ?_
  refine g_iconst (v := 3) h dX10_few_2 (by decide) ?_
  obtain ⟨r3, q3, hf⟩ := gbind hf
  refine g_cSr h (qX2_within q3) mX2_within lkX10_129 dX10_few_3 rfl rfl ⟨Nat.zero_le _, Nat.zero_le _⟩ ⟨by decide, by decide⟩ (Nat.le_of_ble_eq_true rfl) [] rfl rfl ?_
  refine g_ifb_ne h dX10_few_6 rfl (fun c6 => ?_) (fun c6 => ?_)
  · replace hf := ifb_t c6 hf
    refine g_aload_n h dX10_few_15 rfl ?_
    refine g_get h flX10_10 dX10_few_16 0 rfl rfl ?_
    refine g_get h flX10_71 dX10_few_19 1 rfl rfl ?_
    obtain ⟨r22, q22, hf⟩ := gbind hf
    refine g_cVr h (qX0_length (a0 := fun k => a0 (k + 2)) q22) mX0_length lkX10_225 dX10_few_22 rfl rfl ⟨Nat.zero_le _, Nat.zero_le _⟩ ⟨by decide, by decide⟩ (Nat.le_of_ble_eq_true rfl) [2, 3, 4, 5, 6] rfl rfl 2 rfl rfl ?_
    refine g_if_ne h dX10_few_25 rfl (fun c25 => ?_) (fun c25 => ?_)
    · replace hf := ifp_f c25 hf
      refine g_aload_n h dX10_few_34 rfl ?_
      refine g_get h flX10_29 dX10_few_35 0 rfl rfl ?_
      refine g_aload_n h dX10_few_38 rfl ?_
      refine g_get h flX10_10 dX10_few_39 0 rfl rfl ?_
      obtain ⟨r42, q42, hf⟩ := gbind hf
      refine g_cVv (ws' := wWB E a0 (st_X10_4 S0 r42)) h (qX4_gather (a0 := fun k => a0 (k + 39)) (a1 := fun k => a0 (k + 1)) q42) mX4_gather lkX10_177 dX10_few_42 rfl rfl ⟨Nat.zero_le _, Nat.zero_le _⟩ ⟨by decide, by decide⟩ (Nat.le_of_ble_eq_true rfl) [39, 40, 41, 42, 43, 1, 2, 3, 4, 5, 6, 7, 8, 9, 10, 11, 12, 13, 14, 15, 16] rfl rfl 39 rfl rfl mgX10_10 ?_
      refine g_iconst (v := 1) h dX10_few_45 (by decide) ?_
      refine g_aload_n h dX10_few_46 rfl ?_
      refine g_get h flX10_10 dX10_few_47 0 rfl rfl ?_
      refine g_get h flX10_71 dX10_few_50 1 rfl rfl ?_
      obtain ⟨r53, q53, hf⟩ := gbind hf
      refine g_cVr h (qX0_length (a0 := fun k => a0 (k + 2)) q53) mX0_length lkX10_225 dX10_few_53 rfl rfl ⟨Nat.zero_le _, Nat.zero_le _⟩ ⟨by decide, by decide⟩ (Nat.le_of_ble_eq_true rfl) [2, 3, 4, 5, 6] rfl rfl 2 rfl rfl ?_
      refine g_ishl h dX10_few_56 ?_
      refine g_iconst (v := 1) h dX10_few_57 (by decide) ?_
      refine g_isub h dX10_few_58 ?_
      refine g_istore_n (lv' := [some _, some _, some _, _]) h dX10_few_59 (by decide) rfl ?_
      refine g_aload_n h dX10_few_60 rfl ?_
      refine g_get h flX10_29 dX10_few_61 0 rfl rfl ?_
      refine g_iload_n h dX10_few_64 rfl ?_
      refine g_iload_n h dX10_few_65 rfl ?_
      obtain ⟨r66, q66, hf⟩ := gbind hf
      refine g_cVw (ws' := wWB E a0 (st_X10_4 (st_X10_4 S0 r42) r66.2)) h (qX4_fewestOf (a0 := fun k => a0 (k + 39)) q66) mX4_fewestOf lkX10_226 dX10_few_66 rfl rfl ⟨Nat.zero_le _, Nat.zero_le _⟩ ⟨by decide, by decide⟩ (Nat.le_of_ble_eq_true rfl) [39, 40, 41, 42, 43] rfl rfl 39 rfl rfl mgX10_11 ?_
      refine g_istore_n (lv' := [some _, some _, some _, some _]) h dX10_few_69 (by decide) rfl ?_
      refine g_iload_n h dX10_few_70 rfl ?_
      refine g_if_eq h dX10_few_71 rfl (fun c71 => ?_) (fun c71 => ?_)
      · replace hf := ifp_t c71 hf
        refine g_aload_n h dX10_few_85 rfl ?_
        refine g_iload_n h dX10_few_86 rfl ?_
        obtain ⟨S0x87, q87, hf⟩ := gbind hf
        refine g_put (ws' := wWB E a0 S0x87) (ty := .int) h flX10_187 gftX10 rfl (by decide +kernel) dX10_few_87 0 rfl rfl rfl (Nat.le_of_ble_eq_true rfl) (by cases q87; rfl) ?_
        refine g_aload_n h dX10_few_90 rfl ?_
        refine g_bipush (v := 6) h dX10_few_91 (by decide) ?_
        obtain ⟨r93, q93, hf⟩ := gbind hf
        refine g_cVw (ws' := wWB E a0 r93.2) h (qX10_refuse (a0 := a0) q93) mX10_refuse lkX10_67 dX10_few_93 rfl rfl ⟨Nat.zero_le _, Nat.zero_le _⟩ ⟨by decide, by decide⟩ (Nat.le_of_ble_eq_true rfl) [0, 1, 2, 3, 4, 5, 6, 7, 8, 9, 10, 11, 12, 13, 14, 15, 16, 17, 18, 19, 20, 21, 22, 23, 24, 25, 26, 27, 28, 29, 30, 31, 32, 33, 34, 35, 36, 37, 38, 39, 40, 41, 42, 43, 44, 45, 46, 47, 48, 49, 50, 51, 52, 53, 54] rfl rfl 0 rfl rfl mgX10_7 ?_
        have er := Option.some.inj hf
        subst er
        exact g_lreturn h dX10_few_96 rfl ⟨Nat.zero_le _, Nat.zero_le _, rfl, rfl, rfl⟩
      · replace hf := ifp_f c71 hf
        refine g_aload_n h dX10_few_74 rfl ?_
        refine g_get h flX10_29 dX10_few_75 0 rfl rfl ?_
        refine g_iload_n h dX10_few_78 rfl ?_
        obtain ⟨r79, q79, hf⟩ := gbind hf
        refine g_cVw (ws' := wWB E a0 (st_X10_4 (st_X10_4 (st_X10_4 S0 r42) r66.2) r79.2)) h (qX4_solve (a0 := fun k => a0 (k + 39)) q79) mX4_solve lkX10_181 dX10_few_79 rfl rfl ⟨Nat.zero_le _, Nat.zero_le _⟩ ⟨by decide, by decide⟩ (Nat.le_of_ble_eq_true rfl) [39, 40, 41, 42, 43] rfl rfl 39 rfl rfl mgX10_11 ?_
        refine g_ifb_ne h dX10_few_82 rfl (fun c82 => ?_) (fun c82 => ?_)
        · replace hf := ifb_t c82 hf
          refine g_aload_n h dX10_few_97 rfl ?_
          refine g_get h flX10_36 dX10_few_98 0 rfl rfl ?_
          refine g_iload_n h dX10_few_101 rfl ?_
          refine g_aload_n h dX10_few_102 rfl ?_
          refine g_get h flX10_29 dX10_few_103 0 rfl rfl ?_
          obtain ⟨r106, q106, hf⟩ := gbind hf
          refine g_cVv (ws' := wWB E a0 (st_X10_5 (st_X10_4 (st_X10_4 (st_X10_4 S0 r42) r66.2) r79.2) r106)) h (qX6_take (a0 := fun k => a0 (k + 44)) (a1 := fun k => a0 (k + 39)) q106) mX6_take lkX10_191 dX10_few_106 rfl rfl ⟨Nat.zero_le _, Nat.zero_le _⟩ ⟨by decide, by decide⟩ (Nat.le_of_ble_eq_true rfl) [44, 45, 39, 40, 41, 42, 43] rfl rfl 44 rfl rfl mgX10_12 ?_
          refine g_iload_n h dX10_few_109 rfl ?_
          refine g_i2l h dX10_few_110 ?_
          have er := Option.some.inj hf
          subst er
          exact g_lreturn h dX10_few_111 rfl ⟨Nat.zero_le _, Nat.zero_le _, rfl, rfl, rfl⟩
        · replace hf := ifb_f c82 hf
          refine g_aload_n h dX10_few_85 rfl ?_
          refine g_iload_n h dX10_few_86 rfl ?_
          obtain ⟨S0x87, q87, hf⟩ := gbind hf
          refine g_put (ws' := wWB E a0 S0x87) (ty := .int) h flX10_187 gftX10 rfl (by decide +kernel) dX10_few_87 0 rfl rfl rfl (Nat.le_of_ble_eq_true rfl) (by cases q87; rfl) ?_
          refine g_aload_n h dX10_few_90 rfl ?_
          refine g_bipush (v := 6) h dX10_few_91 (by decide) ?_
          obtain ⟨r93, q93, hf⟩ := gbind hf
          refine g_cVw (ws' := wWB E a0 r93.2) h (qX10_refuse (a0 := a0) q93) mX10_refuse lkX10_67 dX10_few_93 rfl rfl ⟨Nat.zero_le _, Nat.zero_le _⟩ ⟨by decide, by decide⟩ (Nat.le_of_ble_eq_true rfl) [0, 1, 2, 3, 4, 5, 6, 7, 8, 9, 10, 11, 12, 13, 14, 15, 16, 17, 18, 19, 20, 21, 22, 23, 24, 25, 26, 27, 28, 29, 30, 31, 32, 33, 34, 35, 36, 37, 38, 39, 40, 41, 42, 43, 44, 45, 46, 47, 48, 49, 50, 51, 52, 53, 54] rfl rfl 0 rfl rfl mgX10_7 ?_
          have er := Option.some.inj hf
          subst er
          exact g_lreturn h dX10_few_96 rfl ⟨Nat.zero_le _, Nat.zero_le _, rfl, rfl, rfl⟩
    · replace hf := ifp_t c25 hf
      refine g_aload_n h dX10_few_28 rfl ?_
      refine g_iconst (v := 2) h dX10_few_29 (by decide) ?_
      obtain ⟨r30, q30, hf⟩ := gbind hf
      refine g_cVw (ws' := wWB E a0 r30.2) h (qX10_refuse (a0 := a0) q30) mX10_refuse lkX10_67 dX10_few_30 rfl rfl ⟨Nat.zero_le _, Nat.zero_le _⟩ ⟨by decide, by decide⟩ (Nat.le_of_ble_eq_true rfl) [0, 1, 2, 3, 4, 5, 6, 7, 8, 9, 10, 11, 12, 13, 14, 15, 16, 17, 18, 19, 20, 21, 22, 23, 24, 25, 26, 27, 28, 29, 30, 31, 32, 33, 34, 35, 36, 37, 38, 39, 40, 41, 42, 43, 44, 45, 46, 47, 48, 49, 50, 51, 52, 53, 54] rfl rfl 0 rfl rfl mgX10_7 ?_
      have er := Option.some.inj hf
      subst er
      exact g_lreturn h dX10_few_33 rfl ⟨Nat.zero_le _, Nat.zero_le _, rfl, rfl, rfl⟩
  · replace hf := ifb_f c6 hf
    refine g_aload_n h dX10_few_9 rfl ?_
    refine g_iconst (v := 1) h dX10_few_10 (by decide) ?_
    obtain ⟨r11, q11, hf⟩ := gbind hf
    refine g_cVw (ws' := wWB E a0 r11.2) h (qX10_refuse (a0 := a0) q11) mX10_refuse lkX10_67 dX10_few_11 rfl rfl ⟨Nat.zero_le _, Nat.zero_le _⟩ ⟨by decide, by decide⟩ (Nat.le_of_ble_eq_true rfl) [0, 1, 2, 3, 4, 5, 6, 7, 8, 9, 10, 11, 12, 13, 14, 15, 16, 17, 18, 19, 20, 21, 22, 23, 24, 25, 26, 27, 28, 29, 30, 31, 32, 33, 34, 35, 36, 37, 38, 39, 40, 41, 42, 43, 44, 45, 46, 47, 48, 49, 50, 51, 52, 53, 54] rfl rfl 0 rfl rfl mgX10_7 ?_
    have er := Option.some.inj hf
    subst er
    exact g_lreturn h dX10_few_14 rfl ⟨Nat.zero_le _, Nat.zero_le _, rfl, rfl, rfl⟩
def lX10_doubt_60  (fu : Nat) (v1 : Int32) (v2 : Bool) (v3 : Bool) : Nat → (Int32) → (Int64) → (Int64) → (Int32) → (sWB) → Option (Int64 × sWB)
  | 0, _, _, _, _, _ => none
  | j + 1, v5, v6, v8, v10, S0 => ((fX3_length 20 S0.1.2.1).bind fun r69 => (if r69 ≤ v10 then (if v5 = 0 then ((fX10_refuse fu S0 (6 : Int32)).bind fun r195 => (some (r195.1, r195.2))) else ((fX2_lowest v6 v8 v3).bind fun r186 => (some (r186, S0)))) else ((fX6_causeSet S0.2.2.2.2.2.1).bind fun r85 => ((fX4_solveWithout fu S0.2.2.2.2.1 S0.1 v10 r85).bind fun r92 => (if r92.1 = true then ((fX6_placeOf (st_X10_4 S0 r92.2).2.2.2.2.2.1 v1).bind fun r107 => ((fX4_above (st_X10_4 S0 r92.2).2.2.2.2.1 r107).bind fun r110 => ((fX4_below (st_X10_4 S0 r92.2).2.2.2.2.1).bind fun r119 => ((fX2_order r110 r119 v6 v8).bind fun r132 => (if v5 = 0 then ((lX10_doubt_60  fu v1 v2 v3 j) (1 : Int32) r110 r119 (v10 + 1) (st_X10_4 S0 r92.2)) else (if v2 = true then (if r132 ≤ 0 then ((lX10_doubt_60  fu v1 v2 v3 j) (1 : Int32) v6 v8 (v10 + 1) (st_X10_4 S0 r92.2)) else ((lX10_doubt_60  fu v1 v2 v3 j) (1 : Int32) r110 r119 (v10 + 1) (st_X10_4 S0 r92.2))) else (if 0 ≤ r132 then ((lX10_doubt_60  fu v1 v2 v3 j) (1 : Int32) v6 v8 (v10 + 1) (st_X10_4 S0 r92.2)) else ((lX10_doubt_60  fu v1 v2 v3 j) (1 : Int32) r110 r119 (v10 + 1) (st_X10_4 S0 r92.2))))))))) else ((lX10_doubt_60  fu v1 v2 v3 j) v5 v6 v8 (v10 + 1) (st_X10_4 S0 r92.2)))))))
def jX10_doubt_25  (fu : Nat) (v1 : Int32) (v2 : Bool) (v3 : Bool) (v4 : Int32) (S0 : sWB) : Option (Int64 × sWB) := (if v4 = 0 then ((fX4_gather fu S0.2.2.2.2.1 S0.1).bind fun r45 => (lX10_doubt_60  fu v1 v2 v3 fu (0 : Int32) (0 : Int64) (1 : Int64) (0 : Int32) (st_X10_4 S0 r45))) else ((fX10_refuse fu S0 v4).bind fun r33 => (some (r33.1, r33.2))))
def fX10_doubt (fu : Nat) (S0 : sWB) (v1 : Int32) (v2 : Bool) (v3 : Bool) : Option (Int64 × sWB) := ((fX10_whyNoSizes fu S0).bind fun r1 => (if r1 = 0 then ((fX6_has S0.2.2.2.2.2.1 v1).bind fun r16 => (if r16 = true then (jX10_doubt_25  fu v1 v2 v3 r1 S0) else (jX10_doubt_25  fu v1 v2 v3 (1 : Int32) S0))) else (jX10_doubt_25  fu v1 v2 v3 r1 S0)))
set_option maxHeartbeats 4000000 in
set_option maxRecDepth 100000 in
theorem qX10_doubt {l : Launch} {E : gE} {a0 : Nat → Nat} {fu : Nat} {S0 : sWB} {v1 : Int32} {v2 : Bool} {v3 : Bool} {r : Int64 × sWB} (hf : fX10_doubt fu S0 v1 v2 v3 = some r) : CtrF l yX10_doubt cX10_doubt 16 (some .long) (gR 5 121) E [.ref (a0 0), .int v1, .int (bI v2), .int (bI v3)] (wWB E a0 S0) (some (.long r.1)) (wWB E a0 r.2) := by
  refine ctr_of false (plainFor_of_name (by decide)) (Nat.le_of_ble_eq_true rfl) (fun q => by cases q) (fun Γ h => ?_)
  refine g_lv [some _, some _, some _, some _, _, _, _, _, _, _, _, _, _, _, _, _] rfl ?_
  rw [fX10_doubt] at hf
  have loop60 : ∀ (j60 : Nat) (v5 : Int32) (v6 : Int64) (v8 : Int64) (v10 : Int32) (S0 : sWB) (o4 : Option Value) (o11 : Option Value) (o12 : Option Value) (o13 : Option Value) (o14 : Option Value) (o15 : Option Value), lX10_doubt_60  fu v1 v2 v3 j60 v5 v6 v8 v10 S0 = some r → Γ 0 0 60 [some (.ref (a0 0)), some (.int v1), some (.int (bI v2)), some (.int (bI v3)), o4, some (.int v5), some (.long v6), none, some (.long v8), none, some (.int v10), o11, o12, o13, o14, o15] [] (wWB E a0 S0) := by
    intro j60
    induction j60 with
    | zero => intro v5 v6 v8 v10 S0 o4 o11 o12 o13 o14 o15 hf; exact gno hf
    | succ j60 ih60 =>
      intro v5 v6 v8 v10 S0 o4 o11 o12 o13 o14 o15 hf
      rw [lX10_doubt_60] at hf
      refine g_iload h dX10_doubt_60 rfl ?_
      refine g_aload_n h dX10_doubt_62 rfl ?_
      refine g_get h flX10_10 dX10_doubt_63 0 rfl rfl ?_
      refine g_get h flX10_111 dX10_doubt_66 1 rfl rfl ?_
      obtain ⟨r69, q69, hf⟩ := gbind hf
      refine g_cVr h (qX3_length (a0 := fun k => a0 (k + 7)) q69) mX3_length lkX10_125 dX10_doubt_69 rfl rfl ⟨Nat.zero_le _, Nat.zero_le _⟩ ⟨by decide, by decide⟩ (Nat.le_of_ble_eq_true rfl) [7, 8, 9] rfl rfl 7 rfl rfl ?_
      refine g_ic_ge h dX10_doubt_72 rfl (fun c72 => ?_) (fun c72 => ?_)
      · replace hf := ifp_t c72 hf
        refine g_iload h dX10_doubt_176 rfl ?_
        refine g_if_eq h dX10_doubt_178 rfl (fun c178 => ?_) (fun c178 => ?_)
        · replace hf := ifp_t c178 hf
          refine g_aload_n h dX10_doubt_192 rfl ?_
          refine g_bipush (v := 6) h dX10_doubt_193 (by decide) ?_
          obtain ⟨r195, q195, hf⟩ := gbind hf
          refine g_cVw (ws' := wWB E a0 r195.2) h (qX10_refuse (a0 := a0) q195) mX10_refuse lkX10_67 dX10_doubt_195 rfl rfl ⟨Nat.zero_le _, Nat.zero_le _⟩ ⟨by decide, by decide⟩ (Nat.le_of_ble_eq_true rfl) [0, 1, 2, 3, 4, 5, 6, 7, 8, 9, 10, 11, 12, 13, 14, 15, 16, 17, 18, 19, 20, 21, 22, 23, 24, 25, 26, 27, 28, 29, 30, 31, 32, 33, 34, 35, 36, 37, 38, 39, 40, 41, 42, 43, 44, 45, 46, 47, 48, 49, 50, 51, 52, 53, 54] rfl rfl 0 rfl rfl mgX10_7 ?_
          have er := Option.some.inj hf
          subst er
          exact g_lreturn h dX10_doubt_198 rfl ⟨Nat.zero_le _, Nat.zero_le _, rfl, rfl, rfl⟩
        · replace hf := ifp_f c178 hf
          refine g_lload h dX10_doubt_181 rfl ?_
          refine g_lload h dX10_doubt_183 rfl ?_
          refine g_iload_n h dX10_doubt_185 rfl ?_
          obtain ⟨r186, q186, hf⟩ := gbind hf
          refine g_cSr h (qX2_lowest q186) mX2_lowest lkX10_211 dX10_doubt_186 rfl rfl ⟨Nat.zero_le _, Nat.zero_le _⟩ ⟨by decide, by decide⟩ (Nat.le_of_ble_eq_true rfl) [] rfl rfl ?_
          refine g_goto h dX10_doubt_189 rfl ?_
          have er := Option.some.inj hf
          subst er
          exact g_lreturn h dX10_doubt_198 rfl ⟨Nat.zero_le _, Nat.zero_le _, rfl, rfl, rfl⟩
      · replace hf := ifp_f c72 hf
        refine g_aload_n h dX10_doubt_75 rfl ?_
        refine g_get h flX10_29 dX10_doubt_76 0 rfl rfl ?_
        refine g_iload h dX10_doubt_79 rfl ?_
        refine g_aload_n h dX10_doubt_81 rfl ?_
        refine g_get h flX10_36 dX10_doubt_82 0 rfl rfl ?_
        obtain ⟨r85, q85, hf⟩ := gbind hf
        refine g_cVr h (qX6_causeSet (a0 := fun k => a0 (k + 44)) q85) mX6_causeSet lkX10_222 dX10_doubt_85 rfl rfl ⟨Nat.zero_le _, Nat.zero_le _⟩ ⟨by decide, by decide⟩ (Nat.le_of_ble_eq_true rfl) [44, 45] rfl rfl 44 rfl rfl ?_
        refine g_aload_n h dX10_doubt_88 rfl ?_
        refine g_get h flX10_10 dX10_doubt_89 0 rfl rfl ?_
        obtain ⟨r92, q92, hf⟩ := gbind hf
        refine g_cVw (ws' := wWB E a0 (st_X10_4 S0 r92.2)) h (qX4_solveWithout (a0 := fun k => a0 (k + 39)) (a1 := fun k => a0 (k + 1)) q92) mX4_solveWithout lkX10_229 dX10_doubt_92 rfl rfl ⟨Nat.zero_le _, Nat.zero_le _⟩ ⟨by decide, by decide⟩ (Nat.le_of_ble_eq_true rfl) [39, 40, 41, 42, 43, 1, 2, 3, 4, 5, 6, 7, 8, 9, 10, 11, 12, 13, 14, 15, 16] rfl rfl 39 rfl rfl mgX10_10 ?_
        refine g_ifb_eq h dX10_doubt_95 rfl (fun c95 => ?_) (fun c95 => ?_)
        · replace hf := ifb_f c95 hf
          refine g_iinc (v := (v10 + 1)) (lv' := [some _, some _, some _, some _, _, some _, some _, none, some _, none, some _, _, _, _, _, _]) h dX10_doubt_170 rfl rfl (by decide) rfl ?_
          refine g_goto h dX10_doubt_173 rfl ?_
          exact ih60 _ _ _ _ _ _ _ _ _ _ _ hf
        · replace hf := ifb_t c95 hf
          refine g_aload_n h dX10_doubt_98 rfl ?_
          refine g_get h flX10_29 dX10_doubt_99 0 rfl rfl ?_
          refine g_aload_n h dX10_doubt_102 rfl ?_
          refine g_get h flX10_36 dX10_doubt_103 0 rfl rfl ?_
          refine g_iload_n h dX10_doubt_106 rfl ?_
          obtain ⟨r107, q107, hf⟩ := gbind hf
          refine g_cVr h (qX6_placeOf (a0 := fun k => a0 (k + 44)) q107) mX6_placeOf lkX10_233 dX10_doubt_107 rfl rfl ⟨Nat.zero_le _, Nat.zero_le _⟩ ⟨by decide, by decide⟩ (Nat.le_of_ble_eq_true rfl) [44, 45] rfl rfl 44 rfl rfl ?_
          obtain ⟨r110, q110, hf⟩ := gbind hf
          refine g_cVr h (qX4_above (a0 := fun k => a0 (k + 39)) q110) mX4_above lkX10_236 dX10_doubt_110 rfl rfl ⟨Nat.zero_le _, Nat.zero_le _⟩ ⟨by decide, by decide⟩ (Nat.le_of_ble_eq_true rfl) [39, 40, 41, 42, 43] rfl rfl 39 rfl rfl ?_
          refine g_lstore (lv' := [some _, some _, some _, some _, _, some _, some _, none, some _, none, some _, some _, none, _, _, _]) h dX10_doubt_113 (by decide) rfl ?_
          refine g_aload_n h dX10_doubt_115 rfl ?_
          refine g_get h flX10_29 dX10_doubt_116 0 rfl rfl ?_
          obtain ⟨r119, q119, hf⟩ := gbind hf
          refine g_cVr h (qX4_below (a0 := fun k => a0 (k + 39)) q119) mX4_below lkX10_237 dX10_doubt_119 rfl rfl ⟨Nat.zero_le _, Nat.zero_le _⟩ ⟨by decide, by decide⟩ (Nat.le_of_ble_eq_true rfl) [39, 40, 41, 42, 43] rfl rfl 39 rfl rfl ?_
          refine g_lstore (lv' := [some _, some _, some _, some _, _, some _, some _, none, some _, none, some _, some _, none, some _, none, _]) h dX10_doubt_122 (by decide) rfl ?_
          refine g_lload h dX10_doubt_124 rfl ?_
          refine g_lload h dX10_doubt_126 rfl ?_
          refine g_lload h dX10_doubt_128 rfl ?_
          refine g_lload h dX10_doubt_130 rfl ?_
          obtain ⟨r132, q132, hf⟩ := gbind hf
          refine g_cSr h (qX2_order q132) mX2_order lkX10_238 dX10_doubt_132 rfl rfl ⟨Nat.zero_le _, Nat.zero_le _⟩ ⟨by decide, by decide⟩ (Nat.le_of_ble_eq_true rfl) [] rfl rfl ?_
          refine g_istore (lv' := [some _, some _, some _, some _, _, some _, some _, none, some _, none, some _, some _, none, some _, none, some _]) h dX10_doubt_135 (by decide) rfl ?_
          refine g_iload h dX10_doubt_137 rfl ?_
          refine g_if_eq h dX10_doubt_139 rfl (fun c139 => ?_) (fun c139 => ?_)
          · replace hf := ifp_t c139 hf
            refine g_lload h dX10_doubt_159 rfl ?_
            refine g_lstore (lv' := [some _, some _, some _, some _, _, some _, some _, none, some _, none, some _, some _, none, some _, none, some _]) h dX10_doubt_161 (by decide) rfl ?_
            refine g_lload h dX10_doubt_163 rfl ?_
            refine g_lstore (lv' := [some _, some _, some _, some _, _, some _, some _, none, some _, none, some _, some _, none, some _, none, some _]) h dX10_doubt_165 (by decide) rfl ?_
            refine g_iconst (v := 1) h dX10_doubt_167 (by decide) ?_
            refine g_istore (lv' := [some _, some _, some _, some _, _, some _, some _, none, some _, none, some _, some _, none, some _, none, some _]) h dX10_doubt_168 (by decide) rfl ?_
            refine g_iinc (v := (v10 + 1)) (lv' := [some _, some _, some _, some _, _, some _, some _, none, some _, none, some _, some _, none, some _, none, some _]) h dX10_doubt_170 rfl rfl (by decide) rfl ?_
            refine g_goto h dX10_doubt_173 rfl ?_
            exact ih60 _ _ _ _ _ _ _ _ _ _ _ hf
          · replace hf := ifp_f c139 hf
            refine g_iload_n h dX10_doubt_142 rfl ?_
            refine g_ifb_eq h dX10_doubt_143 rfl (fun c143 => ?_) (fun c143 => ?_)
            · replace hf := ifb_f c143 hf
              refine g_iload h dX10_doubt_154 rfl ?_
              refine g_if_ge h dX10_doubt_156 rfl (fun c156 => ?_) (fun c156 => ?_)
              · replace hf := ifp_t c156 hf
                refine g_iconst (v := 1) h dX10_doubt_167 (by decide) ?_
                refine g_istore (lv' := [some _, some _, some _, some _, _, some _, some _, none, some _, none, some _, some _, none, some _, none, some _]) h dX10_doubt_168 (by decide) rfl ?_
                refine g_iinc (v := (v10 + 1)) (lv' := [some _, some _, some _, some _, _, some _, some _, none, some _, none, some _, some _, none, some _, none, some _]) h dX10_doubt_170 rfl rfl (by decide) rfl ?_
                refine g_goto h dX10_doubt_173 rfl ?_
                exact ih60 _ _ _ _ _ _ _ _ _ _ _ hf
              · replace hf := ifp_f c156 hf
                refine g_lload h dX10_doubt_159 rfl ?_
                refine g_lstore (lv' := [some _, some _, some _, some _, _, some _, some _, none, some _, none, some _, some _, none, some _, none, some _]) h dX10_doubt_161 (by decide) rfl ?_
                refine g_lload h dX10_doubt_163 rfl ?_
                refine g_lstore (lv' := [some _, some _, some _, some _, _, some _, some _, none, some _, none, some _, some _, none, some _, none, some _]) h dX10_doubt_165 (by decide) rfl ?_
                refine g_iconst (v := 1) h dX10_doubt_167 (by decide) ?_
                refine g_istore (lv' := [some _, some _, some _, some _, _, some _, some _, none, some _, none, some _, some _, none, some _, none, some _]) h dX10_doubt_168 (by decide) rfl ?_
                refine g_iinc (v := (v10 + 1)) (lv' := [some _, some _, some _, some _, _, some _, some _, none, some _, none, some _, some _, none, some _, none, some _]) h dX10_doubt_170 rfl rfl (by decide) rfl ?_
                refine g_goto h dX10_doubt_173 rfl ?_
                exact ih60 _ _ _ _ _ _ _ _ _ _ _ hf
            · replace hf := ifb_t c143 hf
              refine g_iload h dX10_doubt_146 rfl ?_
              refine g_if_le h dX10_doubt_148 rfl (fun c148 => ?_) (fun c148 => ?_)
              · replace hf := ifp_t c148 hf
                refine g_iconst (v := 1) h dX10_doubt_167 (by decide) ?_
                refine g_istore (lv' := [some _, some _, some _, some _, _, some _, some _, none, some _, none, some _, some _, none, some _, none, some _]) h dX10_doubt_168 (by decide) rfl ?_
                refine g_iinc (v := (v10 + 1)) (lv' := [some _, some _, some _, some _, _, some _, some _, none, some _, none, some _, some _, none, some _, none, some _]) h dX10_doubt_170 rfl rfl (by decide) rfl ?_
                refine g_goto h dX10_doubt_173 rfl ?_
                exact ih60 _ _ _ _ _ _ _ _ _ _ _ hf
              · replace hf := ifp_f c148 hf
                refine g_goto h dX10_doubt_151 rfl ?_
                refine g_lload h dX10_doubt_159 rfl ?_
                refine g_lstore (lv' := [some _, some _, some _, some _, _, some _, some _, none, some _, none, some _, some _, none, some _, none, some _]) h dX10_doubt_161 (by decide) rfl ?_
                refine g_lload h dX10_doubt_163 rfl ?_
                refine g_lstore (lv' := [some _, some _, some _, some _, _, some _, some _, none, some _, none, some _, some _, none, some _, none, some _]) h dX10_doubt_165 (by decide) rfl ?_
                refine g_iconst (v := 1) h dX10_doubt_167 (by decide) ?_
                refine g_istore (lv' := [some _, some _, some _, some _, _, some _, some _, none, some _, none, some _, some _, none, some _, none, some _]) h dX10_doubt_168 (by decide) rfl ?_
                refine g_iinc (v := (v10 + 1)) (lv' := [some _, some _, some _, some _, _, some _, some _, none, some _, none, some _, some _, none, some _, none, some _]) h dX10_doubt_170 rfl rfl (by decide) rfl ?_
                refine g_goto h dX10_doubt_173 rfl ?_
                exact ih60 _ _ _ _ _ _ _ _ _ _ _ hf
  have jn25 : ∀ (v4 : Int32) (S0 : sWB) (o5 : Option Value) (o6 : Option Value) (o7 : Option Value) (o8 : Option Value) (o9 : Option Value) (o10 : Option Value) (o11 : Option Value) (o12 : Option Value) (o13 : Option Value) (o14 : Option Value) (o15 : Option Value), jX10_doubt_25  fu v1 v2 v3 v4 S0 = some r → Γ 0 0 25 [some (.ref (a0 0)), some (.int v1), some (.int (bI v2)), some (.int (bI v3)), some (.int v4), o5, o6, o7, o8, o9, o10, o11, o12, o13, o14, o15] [] (wWB E a0 S0) := by
    intro v4 S0 o5 o6 o7 o8 o9 o10 o11 o12 o13 o14 o15 hf
    rw [jX10_doubt_25] at hf
    refine g_iload h dX10_doubt_25 rfl ?_
    refine g_if_eq h dX10_doubt_27 rfl (fun c27 => ?_) (fun c27 => ?_)
    · replace hf := ifp_t c27 hf
      refine g_aload_n h dX10_doubt_37 rfl ?_
      refine g_get h flX10_29 dX10_doubt_38 0 rfl rfl ?_
      refine g_aload_n h dX10_doubt_41 rfl ?_
      refine g_get h flX10_10 dX10_doubt_42 0 rfl rfl ?_
      obtain ⟨r45, q45, hf⟩ := gbind hf
      refine g_cVv (ws' := wWB E a0 (st_X10_4 S0 r45)) h (qX4_gather (a0 := fun k => a0 (k + 39)) (a1 := fun k => a0 (k + 1)) q45) mX4_gather lkX10_177 dX10_doubt_45 rfl rfl ⟨Nat.zero_le _, Nat.zero_le _⟩ ⟨by decide, by decide⟩ (Nat.le_of_ble_eq_true rfl) [39, 40, 41, 42, 43, 1, 2, 3, 4, 5, 6, 7, 8, 9, 10, 11, 12, 13, 14, 15, 16] rfl rfl 39 rfl rfl mgX10_10 ?_
      refine g_iconst (v := 0) h dX10_doubt_48 (by decide) ?_
      refine g_istore (lv' := [some _, some _, some _, some _, some _, some _, _, _, _, _, _, _, _, _, _, _]) h dX10_doubt_49 (by decide) rfl ?_
      refine g_lconst (v := 0) h dX10_doubt_51 (by decide) ?_
      refine g_lstore (lv' := [some _, some _, some _, some _, some _, some _, some _, none, _, _, _, _, _, _, _, _]) h dX10_doubt_52 (by decide) rfl ?_
      refine g_lconst (v := 1) h dX10_doubt_54 (by decide) ?_
      refine g_lstore (lv' := [some _, some _, some _, some _, some _, some _, some _, none, some _, none, _, _, _, _, _, _]) h dX10_doubt_55 (by decide) rfl ?_
      refine g_iconst (v := 0) h dX10_doubt_57 (by decide) ?_
      refine g_istore (lv' := [some _, some _, some _, some _, some _, some _, some _, none, some _, none, some _, _, _, _, _, _]) h dX10_doubt_58 (by decide) rfl ?_
      exact loop60 _ _ _ _ _ _ _ _ _ _ _ _ hf
    · replace hf := ifp_f c27 hf
      refine g_aload_n h dX10_doubt_30 rfl ?_
      refine g_iload h dX10_doubt_31 rfl ?_
      obtain ⟨r33, q33, hf⟩ := gbind hf
      refine g_cVw (ws' := wWB E a0 r33.2) h (qX10_refuse (a0 := a0) q33) mX10_refuse lkX10_67 dX10_doubt_33 rfl rfl ⟨Nat.zero_le _, Nat.zero_le _⟩ ⟨by decide, by decide⟩ (Nat.le_of_ble_eq_true rfl) [0, 1, 2, 3, 4, 5, 6, 7, 8, 9, 10, 11, 12, 13, 14, 15, 16, 17, 18, 19, 20, 21, 22, 23, 24, 25, 26, 27, 28, 29, 30, 31, 32, 33, 34, 35, 36, 37, 38, 39, 40, 41, 42, 43, 44, 45, 46, 47, 48, 49, 50, 51, 52, 53, 54] rfl rfl 0 rfl rfl mgX10_7 ?_
      have er := Option.some.inj hf
      subst er
      exact g_lreturn h dX10_doubt_36 rfl ⟨Nat.zero_le _, Nat.zero_le _, rfl, rfl, rfl⟩
  refine g_aload_n h dX10_doubt_0 rfl ?_
  obtain ⟨r1, q1, hf⟩ := gbind hf
  refine g_cVr h (qX10_whyNoSizes (a0 := a0) q1) mX10_whyNoSizes lkX10_200 dX10_doubt_1 rfl rfl ⟨Nat.zero_le _, Nat.zero_le _⟩ ⟨by decide, by decide⟩ (Nat.le_of_ble_eq_true rfl) [0, 1, 2, 3, 4, 5, 6, 7, 8, 9, 10, 11, 12, 13, 14, 15, 16, 17, 18, 19, 20, 21, 22, 23, 24, 25, 26, 27, 28, 29, 30, 31, 32, 33, 34, 35, 36, 37, 38, 39, 40, 41, 42, 43, 44, 45, 46, 47, 48, 49, 50, 51, 52, 53, 54] rfl rfl 0 rfl rfl ?_
  refine g_istore (lv' := [some _, some _, some _, some _, some _, _, _, _, _, _, _, _, _, _, _, _]) h dX10_doubt_4 (by decide) rfl ?_
  refine g_iload h dX10_doubt_6 rfl ?_
  refine g_if_ne h dX10_doubt_8 rfl (fun c8 => ?_) (fun c8 => ?_)
  · replace hf := ifp_f c8 hf
    exact jn25 _ _ _ _ _ _ _ _ _ _ _ _ _ hf
  · replace hf := ifp_t c8 hf
    refine g_aload_n h dX10_doubt_11 rfl ?_
    refine g_get h flX10_36 dX10_doubt_12 0 rfl rfl ?_
    refine g_iload_n h dX10_doubt_15 rfl ?_
    obtain ⟨r16, q16, hf⟩ := gbind hf
    refine g_cVr h (qX6_has (a0 := fun k => a0 (k + 44)) q16) mX6_has lkX10_203 dX10_doubt_16 rfl rfl ⟨Nat.zero_le _, Nat.zero_le _⟩ ⟨by decide, by decide⟩ (Nat.le_of_ble_eq_true rfl) [44, 45] rfl rfl 44 rfl rfl ?_
    refine g_ifb_ne h dX10_doubt_19 rfl (fun c19 => ?_) (fun c19 => ?_)
    · replace hf := ifb_t c19 hf
      exact jn25 _ _ _ _ _ _ _ _ _ _ _ _ _ hf
    · replace hf := ifb_f c19 hf
      refine g_iconst (v := 1) h dX10_doubt_22 (by decide) ?_
      refine g_istore (lv' := [some _, some _, some _, some _, some _, _, _, _, _, _, _, _, _, _, _, _]) h dX10_doubt_23 (by decide) rfl ?_
      exact jn25 _ _ _ _ _ _ _ _ _ _ _ _ _ hf
def lX10_spare_30  (fu : Nat)  : Nat → (Int32) → (Int32) → (sWB) → Option (Int64 × sWB)
  | 0, _, _, _ => none
  | j + 1, v2, v3, S0 => ((fX3_length 20 S0.1.2.1).bind fun r38 => (if r38 ≤ v3 then (some ((v2.toInt64), S0)) else ((fX6_causeSet S0.2.2.2.2.2.1).bind fun r53 => ((fX4_solveWithout fu S0.2.2.2.2.1 S0.1 v3 r53).bind fun r60 => (if r60.1 = true then ((lX10_spare_30  fu  j) (v2 + 1) (v3 + 1) (st_X10_4 S0 r60.2)) else ((lX10_spare_30  fu  j) v2 (v3 + 1) (st_X10_4 S0 r60.2)))))))
def fX10_spare (fu : Nat) (S0 : sWB)  : Option (Int64 × sWB) := ((fX10_whyNoSizes fu S0).bind fun r1 => (if r1 = 0 then ((fX4_gather fu S0.2.2.2.2.1 S0.1).bind fun r23 => (lX10_spare_30  fu  fu (0 : Int32) (0 : Int32) (st_X10_4 S0 r23))) else ((fX10_refuse fu S0 r1).bind fun r11 => (some (r11.1, r11.2)))))
set_option maxHeartbeats 4000000 in
set_option maxRecDepth 100000 in
theorem qX10_spare {l : Launch} {E : gE} {a0 : Nat → Nat} {fu : Nat} {S0 : sWB}  {r : Int64 × sWB} (hf : fX10_spare fu S0  = some r) : CtrF l yX10_spare cX10_spare 4 (some .long) (gR 5 121) E [.ref (a0 0)] (wWB E a0 S0) (some (.long r.1)) (wWB E a0 r.2) := by
  refine ctr_of false (plainFor_of_name (by decide)) (Nat.le_of_ble_eq_true rfl) (fun q => by cases q) (fun Γ h => ?_)
  refine g_lv [some _, _, _, _] rfl ?_
  rw [fX10_spare] at hf
  have loop30 : ∀ (j30 : Nat) (v2 : Int32) (v3 : Int32) (S0 : sWB) (o1 : Option Value), lX10_spare_30  fu  j30 v2 v3 S0 = some r → Γ 0 0 30 [some (.ref (a0 0)), o1, some (.int v2), some (.int v3)] [] (wWB E a0 S0) := by
    intro j30
    induction j30 with
    | zero => intro v2 v3 S0 o1 hf; exact gno hf
    | succ j30 ih30 =>
      intro v2 v3 S0 o1 hf
      rw [lX10_spare_30] at hf
      refine g_iload_n h dX10_spare_30 rfl ?_
      refine g_aload_n h dX10_spare_31 rfl ?_
      refine g_get h flX10_10 dX10_spare_32 0 rfl rfl ?_
      refine g_get h flX10_111 dX10_spare_35 1 rfl rfl ?_
      obtain ⟨r38, q38, hf⟩ := gbind hf
      refine g_cVr h (qX3_length (a0 := fun k => a0 (k + 7)) q38) mX3_length lkX10_125 dX10_spare_38 rfl rfl ⟨Nat.zero_le _, Nat.zero_le _⟩ ⟨by decide, by decide⟩ (Nat.le_of_ble_eq_true rfl) [7, 8, 9] rfl rfl 7 rfl rfl ?_
      refine g_ic_ge h dX10_spare_41 rfl (fun c41 => ?_) (fun c41 => ?_)
      · replace hf := ifp_t c41 hf
        refine g_iload_n h dX10_spare_75 rfl ?_
        refine g_i2l h dX10_spare_76 ?_
        have er := Option.some.inj hf
        subst er
        exact g_lreturn h dX10_spare_77 rfl ⟨Nat.zero_le _, Nat.zero_le _, rfl, rfl, rfl⟩
      · replace hf := ifp_f c41 hf
        refine g_aload_n h dX10_spare_44 rfl ?_
        refine g_get h flX10_29 dX10_spare_45 0 rfl rfl ?_
        refine g_iload_n h dX10_spare_48 rfl ?_
        refine g_aload_n h dX10_spare_49 rfl ?_
        refine g_get h flX10_36 dX10_spare_50 0 rfl rfl ?_
        obtain ⟨r53, q53, hf⟩ := gbind hf
        refine g_cVr h (qX6_causeSet (a0 := fun k => a0 (k + 44)) q53) mX6_causeSet lkX10_222 dX10_spare_53 rfl rfl ⟨Nat.zero_le _, Nat.zero_le _⟩ ⟨by decide, by decide⟩ (Nat.le_of_ble_eq_true rfl) [44, 45] rfl rfl 44 rfl rfl ?_
        refine g_aload_n h dX10_spare_56 rfl ?_
        refine g_get h flX10_10 dX10_spare_57 0 rfl rfl ?_
        obtain ⟨r60, q60, hf⟩ := gbind hf
        refine g_cVw (ws' := wWB E a0 (st_X10_4 S0 r60.2)) h (qX4_solveWithout (a0 := fun k => a0 (k + 39)) (a1 := fun k => a0 (k + 1)) q60) mX4_solveWithout lkX10_229 dX10_spare_60 rfl rfl ⟨Nat.zero_le _, Nat.zero_le _⟩ ⟨by decide, by decide⟩ (Nat.le_of_ble_eq_true rfl) [39, 40, 41, 42, 43, 1, 2, 3, 4, 5, 6, 7, 8, 9, 10, 11, 12, 13, 14, 15, 16] rfl rfl 39 rfl rfl mgX10_10 ?_
        refine g_ifb_eq h dX10_spare_63 rfl (fun c63 => ?_) (fun c63 => ?_)
        · replace hf := ifb_f c63 hf
          refine g_iinc (v := (v3 + 1)) (lv' := [some _, _, some _, some _]) h dX10_spare_69 rfl rfl (by decide) rfl ?_
          refine g_goto h dX10_spare_72 rfl ?_
          exact ih30 _ _ _ _ hf
        · replace hf := ifb_t c63 hf
          refine g_iinc (v := (v2 + 1)) (lv' := [some _, _, some _, some _]) h dX10_spare_66 rfl rfl (by decide) rfl ?_
          refine g_iinc (v := (v3 + 1)) (lv' := [some _, _, some _, some _]) h dX10_spare_69 rfl rfl (by decide) rfl ?_
          refine g_goto h dX10_spare_72 rfl ?_
          exact ih30 _ _ _ _ hf
  refine g_aload_n h dX10_spare_0 rfl ?_
  obtain ⟨r1, q1, hf⟩ := gbind hf
  refine g_cVr h (qX10_whyNoSizes (a0 := a0) q1) mX10_whyNoSizes lkX10_200 dX10_spare_1 rfl rfl ⟨Nat.zero_le _, Nat.zero_le _⟩ ⟨by decide, by decide⟩ (Nat.le_of_ble_eq_true rfl) [0, 1, 2, 3, 4, 5, 6, 7, 8, 9, 10, 11, 12, 13, 14, 15, 16, 17, 18, 19, 20, 21, 22, 23, 24, 25, 26, 27, 28, 29, 30, 31, 32, 33, 34, 35, 36, 37, 38, 39, 40, 41, 42, 43, 44, 45, 46, 47, 48, 49, 50, 51, 52, 53, 54] rfl rfl 0 rfl rfl ?_
  refine g_istore_n (lv' := [some _, some _, _, _]) h dX10_spare_4 (by decide) rfl ?_
  refine g_iload_n h dX10_spare_5 rfl ?_
  refine g_if_eq h dX10_spare_6 rfl (fun c6 => ?_) (fun c6 => ?_)
  · replace hf := ifp_t c6 hf
    refine g_aload_n h dX10_spare_15 rfl ?_
    refine g_get h flX10_29 dX10_spare_16 0 rfl rfl ?_
    refine g_aload_n h dX10_spare_19 rfl ?_
    refine g_get h flX10_10 dX10_spare_20 0 rfl rfl ?_
    obtain ⟨r23, q23, hf⟩ := gbind hf
    refine g_cVv (ws' := wWB E a0 (st_X10_4 S0 r23)) h (qX4_gather (a0 := fun k => a0 (k + 39)) (a1 := fun k => a0 (k + 1)) q23) mX4_gather lkX10_177 dX10_spare_23 rfl rfl ⟨Nat.zero_le _, Nat.zero_le _⟩ ⟨by decide, by decide⟩ (Nat.le_of_ble_eq_true rfl) [39, 40, 41, 42, 43, 1, 2, 3, 4, 5, 6, 7, 8, 9, 10, 11, 12, 13, 14, 15, 16] rfl rfl 39 rfl rfl mgX10_10 ?_
    refine g_iconst (v := 0) h dX10_spare_26 (by decide) ?_
    refine g_istore_n (lv' := [some _, some _, some _, _]) h dX10_spare_27 (by decide) rfl ?_
    refine g_iconst (v := 0) h dX10_spare_28 (by decide) ?_
    refine g_istore_n (lv' := [some _, some _, some _, some _]) h dX10_spare_29 (by decide) rfl ?_
    exact loop30 _ _ _ _ _ hf
  · replace hf := ifp_f c6 hf
    refine g_aload_n h dX10_spare_9 rfl ?_
    refine g_iload_n h dX10_spare_10 rfl ?_
    obtain ⟨r11, q11, hf⟩ := gbind hf
    refine g_cVw (ws' := wWB E a0 r11.2) h (qX10_refuse (a0 := a0) q11) mX10_refuse lkX10_67 dX10_spare_11 rfl rfl ⟨Nat.zero_le _, Nat.zero_le _⟩ ⟨by decide, by decide⟩ (Nat.le_of_ble_eq_true rfl) [0, 1, 2, 3, 4, 5, 6, 7, 8, 9, 10, 11, 12, 13, 14, 15, 16, 17, 18, 19, 20, 21, 22, 23, 24, 25, 26, 27, 28, 29, 30, 31, 32, 33, 34, 35, 36, 37, 38, 39, 40, 41, 42, 43, 44, 45, 46, 47, 48, 49, 50, 51, 52, 53, 54] rfl rfl 0 rfl rfl mgX10_7 ?_
    have er := Option.some.inj hf
    subst er
    exact g_lreturn h dX10_spare_14 rfl ⟨Nat.zero_le _, Nat.zero_le _, rfl, rfl, rfl⟩
