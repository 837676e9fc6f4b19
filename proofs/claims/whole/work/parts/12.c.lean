set_option maxHeartbeats 4000000 in
set_option maxRecDepth 100000 in
theorem kX8_copyFrom {l : Launch} {E : gE} {a0 a1 a2 a3 a4 a5 a6 a7 a8 a9 a10 a11 a12 a13 a14 a15 b0 b1 b2 b3 b4 b5 b6 b7 b8 b9 b10 b11 b12 b13 b14 b15 : Nat} {kd ca cb rs rr mc mb fr to : Nat → Int32} {nc nr nm : Nat} {th : Nat → Bool} {kd2 ca2 cb2 rs2 rr2 mc2 mb2 fr2 to2 : Nat → Int32} {nc2 nr2 nm2 : Nat} {th2 : Nat → Bool} (h1 : nc2 ≤ 8) (h2 : nr2 ≤ 20) (h3 : nm2 ≤ 8) : CtrF l yX8_copyFrom cX8_copyFrom 2 none (gR 4 85) E [.ref a0, .ref b0] (wSt E a0 a1 a2 a3 a4 a5 a6 a7 a8 a9 a10 a11 a12 a13 a14 a15 kd nc ca cb nr rs rr nm mc mb th fr to ++ wSt E b0 b1 b2 b3 b4 b5 b6 b7 b8 b9 b10 b11 b12 b13 b14 b15 kd2 nc2 ca2 cb2 nr2 rs2 rr2 nm2 mc2 mb2 th2 fr2 to2) none (wSt E a0 a1 a2 a3 a4 a5 a6 a7 a8 a9 a10 a11 a12 a13 a14 a15 (va_cpy kd2 kd 0 0 8) nc2 (cpy ca2 ca nc2) (cpy cb2 cb nc2) nr2 (cpy rs2 rs nr2) (cpy rr2 rr nr2) nm2 (cpy mc2 mc nm2) (cpy mb2 mb nm2) (cpy th2 th 36) (cpy fr2 fr 36) (cpy to2 to 36) ++ wSt E b0 b1 b2 b3 b4 b5 b6 b7 b8 b9 b10 b11 b12 b13 b14 b15 kd2 nc2 ca2 cb2 nr2 rs2 rr2 nm2 mc2 mb2 th2 fr2 to2) := by
  refine ctr_of false (plainFor_of_name (by decide)) (Nat.le_of_ble_eq_true rfl) (fun q => by cases q) (fun Γ h => ?_)
  refine g_lv [some _, some _] rfl ?_
  refine g_aload_n h dX8_copyFrom_0 rfl ?_
  refine g_get h flX8_12 dX8_copyFrom_1 0 rfl rfl ?_
  refine g_aload_n h dX8_copyFrom_4 rfl ?_
  refine g_get h flX8_12 dX8_copyFrom_5 16 rfl rfl ?_
  refine g_cVv (ws' := [_, _, _, _, _, _, _, _, _, _, _, _, _, _, _, _, _, _, _, _, _, _, _, _, _, _, _, _, _, _, _, _]) h (kX0_copyFrom h1) mX0_copyFrom lkX8_37 dX8_copyFrom_8 rfl rfl ⟨Nat.zero_le _, Nat.zero_le _⟩ ⟨by decide, by decide⟩ (Nat.le_of_ble_eq_true rfl) [1, 2, 3, 4, 5, 17, 18, 19, 20, 21] rfl rfl 1 rfl rfl rfl ?_
  refine g_aload_n h dX8_copyFrom_11 rfl ?_
  refine g_get h flX8_23 dX8_copyFrom_12 0 rfl rfl ?_
  refine g_aload_n h dX8_copyFrom_15 rfl ?_
  refine g_get h flX8_23 dX8_copyFrom_16 16 rfl rfl ?_
  refine g_cVv (ws' := [_, _, _, _, _, _, _, _, _, _, _, _, _, _, _, _, _, _, _, _, _, _, _, _, _, _, _, _, _, _, _, _]) h (kX3_copyFrom h2 h2 (by decide) (by decide)) mX3_copyFrom lkX8_41 dX8_copyFrom_19 rfl rfl ⟨Nat.zero_le _, Nat.zero_le _⟩ ⟨by decide, by decide⟩ (Nat.le_of_ble_eq_true rfl) [6, 7, 8, 22, 23, 24] rfl rfl 6 rfl rfl rfl ?_
  refine g_aload_n h dX8_copyFrom_22 rfl ?_
  refine g_get h flX8_27 dX8_copyFrom_23 0 rfl rfl ?_
  refine g_aload_n h dX8_copyFrom_26 rfl ?_
  refine g_get h flX8_27 dX8_copyFrom_27 16 rfl rfl ?_
  refine g_cVv (ws' := [_, _, _, _, _, _, _, _, _, _, _, _, _, _, _, _, _, _, _, _, _, _, _, _, _, _, _, _, _, _, _, _]) h (kX3_copyFrom h3 h3 (by decide) (by decide)) mX3_copyFrom lkX8_41 dX8_copyFrom_30 rfl rfl ⟨Nat.zero_le _, Nat.zero_le _⟩ ⟨by decide, by decide⟩ (Nat.le_of_ble_eq_true rfl) [9, 10, 11, 25, 26, 27] rfl rfl 9 rfl rfl rfl ?_
  refine g_aload_n h dX8_copyFrom_33 rfl ?_
  refine g_get h flX8_33 dX8_copyFrom_34 0 rfl rfl ?_
  refine g_aload_n h dX8_copyFrom_37 rfl ?_
  refine g_get h flX8_33 dX8_copyFrom_38 16 rfl rfl ?_
  refine g_cVv (ws' := [_, _, _, _, _, _, _, _, _, _, _, _, _, _, _, _, _, _, _, _, _, _, _, _, _, _, _, _, _, _, _, _]) h kX7_copyFrom mX7_copyFrom lkX8_44 dX8_copyFrom_41 rfl rfl ⟨Nat.zero_le _, Nat.zero_le _⟩ ⟨by decide, by decide⟩ (Nat.le_of_ble_eq_true rfl) [12, 13, 14, 15, 28, 29, 30, 31] rfl rfl 12 rfl rfl rfl ?_
  refine g_return h dX8_copyFrom_44 rfl ⟨Nat.zero_le _, Nat.zero_le _, rfl, ?_, ?_⟩
  · rfl
  · rfl
