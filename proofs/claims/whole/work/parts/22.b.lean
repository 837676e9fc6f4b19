def lX11_sheet_53  (fu : Nat) (v1 : Int32) (v2 : Int32) : Nat → (Int32) → (gS) → Option (Int64 × gS)
  | 0, _, _ => none
  | j + 1, v3, S0 => (if v2 ≤ v3 then (some ((v2.toInt64), S0)) else ((gIx (((36 : Int32) * v1) + v3) 108).bind fun k71 => ((some (sAu S0 3 k71 (-32768 : Int32))).bind fun S0x71 => ((lX11_sheet_53  fu v1 v2 j) (v3 + 1) S0x71))))
def fX11_sheet (fu : Nat) (S0 : gS) (v1 : Int32) (v2 : Int32) : Option (Int64 × gS) := ((fX11_in fu v1 (0 : Int32) (2 : Int32)).bind fun r3 => (if r3 = true then (if (-1 : Int32) ≤ v2 then (if v2 ≤ (36 : Int32) then ((gIx v1 3).bind fun k50 => ((some (sAu S0 4 k50 v2)).bind fun S0x50 => (lX11_sheet_53  fu v1 v2 fu (0 : Int32) S0x50))) else ((fX11_tellFinding fu S0 (-9000000000000000001 : Int64)).bind fun r40 => (some (r40.1, r40.2)))) else ((fX11_tellFinding fu S0 (-9000000000000000004 : Int64)).bind fun r26 => (some (r26.1, r26.2)))) else ((fX11_tellFinding fu S0 (-9000000000000000001 : Int64)).bind fun r13 => (some (r13.1, r13.2)))))
set_option maxHeartbeats 4000000 in
set_option maxRecDepth 100000 in
theorem qX11_sheet {l : Launch} {E : gE} {a0 : Nat → Nat} {fu : Nat} {S0 : gS} {v1 : Int32} {v2 : Int32} {r : Int64 × gS} (hf : fX11_sheet fu S0 v1 v2 = some r) : CtrF l yX11_sheet cX11_sheet 4 (some .long) (gR 1 22) E [.ref (a0 0), .int v1, .int v2] (wRf E a0 S0) (some (.long r.1)) (wRf E a0 r.2) := by
  refine ctr_of false (plainFor_of_name (by decide)) (Nat.le_of_ble_eq_true rfl) (fun q => by cases q) (fun Γ h => ?_)
  refine g_lv [some _, some _, some _, _] rfl ?_
  rw [fX11_sheet] at hf
  have loop53 : ∀ (j53 : Nat) (v3 : Int32) (S0 : gS) , lX11_sheet_53  fu v1 v2 j53 v3 S0 = some r → Γ 0 0 53 [some (.ref (a0 0)), some (.int v1), some (.int v2), some (.int v3)] [] (wRf E a0 S0) := by
    intro j53
    induction j53 with
    | zero => intro v3 S0 hf; exact gno hf
    | succ j53 ih53 =>
      intro v3 S0 hf
      rw [lX11_sheet_53] at hf
      refine g_iload_n h dX11_sheet_53 rfl ?_
      refine g_iload_n h dX11_sheet_54 rfl ?_
      refine g_ic_ge h dX11_sheet_55 rfl (fun c55 => ?_) (fun c55 => ?_)
      · replace hf := ifp_t c55 hf
        refine g_iload_n h dX11_sheet_78 rfl ?_
        refine g_i2l h dX11_sheet_79 ?_
        have er := Option.some.inj hf
        subst er
        exact g_lreturn h dX11_sheet_80 rfl ⟨Nat.zero_le _, Nat.zero_le _, rfl, rfl, rfl⟩
      · replace hf := ifp_f c55 hf
        refine g_aload_n h dX11_sheet_58 rfl ?_
        refine g_get h flX11_16 dX11_sheet_59 0 rfl rfl ?_
        refine g_bipush (v := 36) h dX11_sheet_62 (by decide) ?_
        refine g_iload_n h dX11_sheet_64 rfl ?_
        refine g_imul h dX11_sheet_65 ?_
        refine g_iload_n h dX11_sheet_66 rfl ?_
        refine g_iadd h dX11_sheet_67 ?_
        refine g_sipush (v := (-32768)) h dX11_sheet_68 (by decide) ?_
        obtain ⟨k71, q71, hf⟩ := gbind hf
        have e71 := (gIx_s q71).1
        have b71 := (gIx_s q71).2
        obtain ⟨S0x71, w71, hf⟩ := gbind hf
        refine g_iast (ws' := wRf E a0 S0x71) h dX11_sheet_71 3 k71 rfl e71 b71 (by decide) (by cases w71; rfl) ?_
        refine g_iinc (v := (v3 + 1)) (lv' := [some _, some _, some _, some _]) h dX11_sheet_72 rfl rfl (by decide) rfl ?_
        refine g_goto h dX11_sheet_75 rfl ?_
        exact ih53 _ _ hf
  refine g_iload_n h dX11_sheet_0 rfl ?_
  refine g_iconst (v := 0) h dX11_sheet_1 (by decide) ?_
  refine g_iconst (v := 2) h dX11_sheet_2 (by decide) ?_
  obtain ⟨r3, q3, hf⟩ := gbind hf
  refine g_cSr h (qX11_in q3) mX11_in lkX11_58 dX11_sheet_3 rfl rfl ⟨Nat.zero_le _, Nat.zero_le _⟩ ⟨by decide, by decide⟩ (Nat.le_of_ble_eq_true rfl) [] rfl rfl ?_
  refine g_ifb_ne h dX11_sheet_6 rfl (fun c6 => ?_) (fun c6 => ?_)
  · replace hf := ifb_t c6 hf
    refine g_iload_n h dX11_sheet_17 rfl ?_
    refine g_iconst (v := (-1)) h dX11_sheet_18 (by decide) ?_
    refine g_ic_ge h dX11_sheet_19 rfl (fun c19 => ?_) (fun c19 => ?_)
    · replace hf := ifp_t c19 hf
      refine g_iload_n h dX11_sheet_30 rfl ?_
      refine g_bipush (v := 36) h dX11_sheet_31 (by decide) ?_
      refine g_ic_le h dX11_sheet_33 rfl (fun c33 => ?_) (fun c33 => ?_)
      · replace hf := ifp_t c33 hf
        refine g_aload_n h dX11_sheet_44 rfl ?_
        refine g_get h flX11_19 dX11_sheet_45 0 rfl rfl ?_
        refine g_iload_n h dX11_sheet_48 rfl ?_
        refine g_iload_n h dX11_sheet_49 rfl ?_
        obtain ⟨k50, q50, hf⟩ := gbind hf
        have e50 := (gIx_s q50).1
        have b50 := (gIx_s q50).2
        obtain ⟨S0x50, w50, hf⟩ := gbind hf
        refine g_iast (ws' := wRf E a0 S0x50) h dX11_sheet_50 4 k50 rfl e50 b50 (by decide) (by cases w50; rfl) ?_
        refine g_iconst (v := 0) h dX11_sheet_51 (by decide) ?_
        refine g_istore_n (lv' := [some _, some _, some _, some _]) h dX11_sheet_52 (by decide) rfl ?_
        exact loop53 _ _ _  hf
      · replace hf := ifp_f c33 hf
        refine g_aload_n h dX11_sheet_36 rfl ?_
        refine g_ldc2 (v := (-9000000000000000001)) h dX11_sheet_37 gcX11_62 ?_
        obtain ⟨r40, q40, hf⟩ := gbind hf
        refine g_cVw (ws' := wRf E a0 r40.2) h (qX11_tellFinding (a0 := a0) q40) mX11_tellFinding lkX11_64 dX11_sheet_40 rfl rfl ⟨Nat.zero_le _, Nat.zero_le _⟩ ⟨by decide, by decide⟩ (Nat.le_of_ble_eq_true rfl) [0, 1, 2, 3, 4, 5, 6, 7, 8, 9, 10, 11, 12, 13, 14, 15] rfl rfl 0 rfl rfl mgX11_20 ?_
        have er := Option.some.inj hf
        subst er
        exact g_lreturn h dX11_sheet_43 rfl ⟨Nat.zero_le _, Nat.zero_le _, rfl, rfl, rfl⟩
    · replace hf := ifp_f c19 hf
      refine g_aload_n h dX11_sheet_22 rfl ?_
      refine g_ldc2 (v := (-9000000000000000004)) h dX11_sheet_23 gcX11_94 ?_
      obtain ⟨r26, q26, hf⟩ := gbind hf
      refine g_cVw (ws' := wRf E a0 r26.2) h (qX11_tellFinding (a0 := a0) q26) mX11_tellFinding lkX11_64 dX11_sheet_26 rfl rfl ⟨Nat.zero_le _, Nat.zero_le _⟩ ⟨by decide, by decide⟩ (Nat.le_of_ble_eq_true rfl) [0, 1, 2, 3, 4, 5, 6, 7, 8, 9, 10, 11, 12, 13, 14, 15] rfl rfl 0 rfl rfl mgX11_20 ?_
      have er := Option.some.inj hf
      subst er
      exact g_lreturn h dX11_sheet_29 rfl ⟨Nat.zero_le _, Nat.zero_le _, rfl, rfl, rfl⟩
  · replace hf := ifb_f c6 hf
    refine g_aload_n h dX11_sheet_9 rfl ?_
    refine g_ldc2 (v := (-9000000000000000001)) h dX11_sheet_10 gcX11_62 ?_
    obtain ⟨r13, q13, hf⟩ := gbind hf
    refine g_cVw (ws' := wRf E a0 r13.2) h (qX11_tellFinding (a0 := a0) q13) mX11_tellFinding lkX11_64 dX11_sheet_13 rfl rfl ⟨Nat.zero_le _, Nat.zero_le _⟩ ⟨by decide, by decide⟩ (Nat.le_of_ble_eq_true rfl) [0, 1, 2, 3, 4, 5, 6, 7, 8, 9, 10, 11, 12, 13, 14, 15] rfl rfl 0 rfl rfl mgX11_20 ?_
    have er := Option.some.inj hf
    subst er
    exact g_lreturn h dX11_sheet_16 rfl ⟨Nat.zero_le _, Nat.zero_le _, rfl, rfl, rfl⟩
def jX11_put_91  (fu : Nat) (v1 : Int32) (v2 : Int32) (v3 : Int32) (s0 : Int32) (s1 : Int32) (S0 : gS) : Option (Int64 × gS) := ((gIx s1 108).bind fun k91 => ((some (sAu S0 3 k91 s0)).bind fun S0x91 => ((gIx (((36 : Int32) * v1) + v2) 108).bind fun k102 => (some ((((iA S0x91 3) k102).toInt64), S0x91)))))
def fX11_put (fu : Nat) (S0 : gS) (v1 : Int32) (v2 : Int32) (v3 : Int32) : Option (Int64 × gS) := ((fX11_in fu v1 (0 : Int32) (2 : Int32)).bind fun r3 => (if r3 = true then ((gIx v1 3).bind fun k22 => (if 0 ≤ ((iA S0 4) k22) then ((fX11_in fu v2 (0 : Int32) (((iA S0 4) k22) - (1 : Int32))).bind fun r44 => (if r44 = true then (if (32768 : Int32) ≤ (v3 &&& (65535 : Int32)) then (jX11_put_91  fu v1 v2 v3 ((v3 &&& (65535 : Int32)) - (65536 : Int32)) (((36 : Int32) * v1) + v2) S0) else (jX11_put_91  fu v1 v2 v3 (v3 &&& (65535 : Int32)) (((36 : Int32) * v1) + v2) S0)) else ((fX11_tellFinding fu S0 (-9000000000000000001 : Int64)).bind fun r54 => (some (r54.1, r54.2))))) else ((fX11_tellFinding fu S0 (-9000000000000000002 : Int64)).bind fun r30 => (some (r30.1, r30.2))))) else ((fX11_tellFinding fu S0 (-9000000000000000001 : Int64)).bind fun r13 => (some (r13.1, r13.2)))))
set_option maxHeartbeats 4000000 in
set_option maxRecDepth 100000 in
theorem qX11_put {l : Launch} {E : gE} {a0 : Nat → Nat} {fu : Nat} {S0 : gS} {v1 : Int32} {v2 : Int32} {v3 : Int32} {r : Int64 × gS} (hf : fX11_put fu S0 v1 v2 v3 = some r) : CtrF l yX11_put cX11_put 5 (some .long) (gR 1 22) E [.ref (a0 0), .int v1, .int v2, .int v3] (wRf E a0 S0) (some (.long r.1)) (wRf E a0 r.2) := by
  refine ctr_of false (plainFor_of_name (by decide)) (Nat.le_of_ble_eq_true rfl) (fun q => by cases q) (fun Γ h => ?_)
  refine g_lv [some _, some _, some _, some _, _] rfl ?_
  rw [fX11_put] at hf
  have jn91 : ∀ (s0 : Int32) (s1 : Int32) (S0 : gS) (o4 : Option Value), jX11_put_91  fu v1 v2 v3 s0 s1 S0 = some r → Γ 0 0 91 [some (.ref (a0 0)), some (.int v1), some (.int v2), some (.int v3), o4] [.int s0, .int s1, .ref (a0 3)] (wRf E a0 S0) := by
    intro s0 s1 S0 o4 hf
    rw [jX11_put_91] at hf
    obtain ⟨k91, q91, hf⟩ := gbind hf
    have e91 := (gIx_s q91).1
    have b91 := (gIx_s q91).2
    obtain ⟨S0x91, w91, hf⟩ := gbind hf
    refine g_iast (ws' := wRf E a0 S0x91) h dX11_put_91 3 k91 rfl e91 b91 (by decide) (by cases w91; rfl) ?_
    refine g_aload_n h dX11_put_92 rfl ?_
    refine g_get h flX11_16 dX11_put_93 0 rfl rfl ?_
    refine g_bipush (v := 36) h dX11_put_96 (by decide) ?_
    refine g_iload_n h dX11_put_98 rfl ?_
    refine g_imul h dX11_put_99 ?_
    refine g_iload_n h dX11_put_100 rfl ?_
    refine g_iadd h dX11_put_101 ?_
    obtain ⟨k102, q102, hf⟩ := gbind hf
    have e102 := (gIx_s q102).1
    have b102 := (gIx_s q102).2
    refine g_iald h dX11_put_102 3 k102 rfl e102 b102 (by decide) ?_
    refine g_i2l h dX11_put_103 ?_
    have er := Option.some.inj hf
    subst er
    exact g_lreturn h dX11_put_104 rfl ⟨Nat.zero_le _, Nat.zero_le _, rfl, rfl, rfl⟩
  refine g_iload_n h dX11_put_0 rfl ?_
  refine g_iconst (v := 0) h dX11_put_1 (by decide) ?_
  refine g_iconst (v := 2) h dX11_put_2 (by decide) ?_
  obtain ⟨r3, q3, hf⟩ := gbind hf
  refine g_cSr h (qX11_in q3) mX11_in lkX11_58 dX11_put_3 rfl rfl ⟨Nat.zero_le _, Nat.zero_le _⟩ ⟨by decide, by decide⟩ (Nat.le_of_ble_eq_true rfl) [] rfl rfl ?_
  refine g_ifb_ne h dX11_put_6 rfl (fun c6 => ?_) (fun c6 => ?_)
  · replace hf := ifb_t c6 hf
    refine g_aload_n h dX11_put_17 rfl ?_
    refine g_get h flX11_19 dX11_put_18 0 rfl rfl ?_
    refine g_iload_n h dX11_put_21 rfl ?_
    obtain ⟨k22, q22, hf⟩ := gbind hf
    have e22 := (gIx_s q22).1
    have b22 := (gIx_s q22).2
    refine g_iald h dX11_put_22 4 k22 rfl e22 b22 (by decide) ?_
    refine g_if_ge h dX11_put_23 rfl (fun c23 => ?_) (fun c23 => ?_)
    · replace hf := ifp_t c23 hf
      refine g_iload_n h dX11_put_34 rfl ?_
      refine g_iconst (v := 0) h dX11_put_35 (by decide) ?_
      refine g_aload_n h dX11_put_36 rfl ?_
      refine g_get h flX11_19 dX11_put_37 0 rfl rfl ?_
      refine g_iload_n h dX11_put_40 rfl ?_
      refine g_iald h dX11_put_41 4 k22 rfl e22 b22 (by decide) ?_
      refine g_iconst (v := 1) h dX11_put_42 (by decide) ?_
      refine g_isub h dX11_put_43 ?_
      obtain ⟨r44, q44, hf⟩ := gbind hf
      refine g_cSr h (qX11_in q44) mX11_in lkX11_58 dX11_put_44 rfl rfl ⟨Nat.zero_le _, Nat.zero_le _⟩ ⟨by decide, by decide⟩ (Nat.le_of_ble_eq_true rfl) [] rfl rfl ?_
      refine g_ifb_ne h dX11_put_47 rfl (fun c47 => ?_) (fun c47 => ?_)
      · replace hf := ifb_t c47 hf
        refine g_iload_n h dX11_put_58 rfl ?_
        refine g_ldc (v := 65535) h dX11_put_59 (gtm (by decide +kernel)) ?_
        refine g_iand h dX11_put_61 ?_
        refine g_istore (lv' := [some _, some _, some _, some _, some _]) h dX11_put_62 (by decide) rfl ?_
        refine g_aload_n h dX11_put_64 rfl ?_
        refine g_get h flX11_16 dX11_put_65 0 rfl rfl ?_
        refine g_bipush (v := 36) h dX11_put_68 (by decide) ?_
        refine g_iload_n h dX11_put_70 rfl ?_
        refine g_imul h dX11_put_71 ?_
        refine g_iload_n h dX11_put_72 rfl ?_
        refine g_iadd h dX11_put_73 ?_
        refine g_iload h dX11_put_74 rfl ?_
        refine g_ldc (v := 32768) h dX11_put_76 (gtm (by decide +kernel)) ?_
        refine g_ic_ge h dX11_put_78 rfl (fun c78 => ?_) (fun c78 => ?_)
        · replace hf := ifp_t c78 hf
          refine g_iload h dX11_put_86 rfl ?_
          refine g_ldc (v := 65536) h dX11_put_88 (gtm (by decide +kernel)) ?_
          refine g_isub h dX11_put_90 ?_
          exact jn91 _ _ _ _ hf
        · replace hf := ifp_f c78 hf
          refine g_iload h dX11_put_81 rfl ?_
          refine g_goto h dX11_put_83 rfl ?_
          exact jn91 _ _ _ _ hf
      · replace hf := ifb_f c47 hf
        refine g_aload_n h dX11_put_50 rfl ?_
        refine g_ldc2 (v := (-9000000000000000001)) h dX11_put_51 gcX11_62 ?_
        obtain ⟨r54, q54, hf⟩ := gbind hf
        refine g_cVw (ws' := wRf E a0 r54.2) h (qX11_tellFinding (a0 := a0) q54) mX11_tellFinding lkX11_64 dX11_put_54 rfl rfl ⟨Nat.zero_le _, Nat.zero_le _⟩ ⟨by decide, by decide⟩ (Nat.le_of_ble_eq_true rfl) [0, 1, 2, 3, 4, 5, 6, 7, 8, 9, 10, 11, 12, 13, 14, 15] rfl rfl 0 rfl rfl mgX11_20 ?_
        have er := Option.some.inj hf
        subst er
        exact g_lreturn h dX11_put_57 rfl ⟨Nat.zero_le _, Nat.zero_le _, rfl, rfl, rfl⟩
    · replace hf := ifp_f c23 hf
      refine g_aload_n h dX11_put_26 rfl ?_
      refine g_ldc2 (v := (-9000000000000000002)) h dX11_put_27 gcX11_96 ?_
      obtain ⟨r30, q30, hf⟩ := gbind hf
      refine g_cVw (ws' := wRf E a0 r30.2) h (qX11_tellFinding (a0 := a0) q30) mX11_tellFinding lkX11_64 dX11_put_30 rfl rfl ⟨Nat.zero_le _, Nat.zero_le _⟩ ⟨by decide, by decide⟩ (Nat.le_of_ble_eq_true rfl) [0, 1, 2, 3, 4, 5, 6, 7, 8, 9, 10, 11, 12, 13, 14, 15] rfl rfl 0 rfl rfl mgX11_20 ?_
      have er := Option.some.inj hf
      subst er
      exact g_lreturn h dX11_put_33 rfl ⟨Nat.zero_le _, Nat.zero_le _, rfl, rfl, rfl⟩
  · replace hf := ifb_f c6 hf
    refine g_aload_n h dX11_put_9 rfl ?_
    refine g_ldc2 (v := (-9000000000000000001)) h dX11_put_10 gcX11_62 ?_
    obtain ⟨r13, q13, hf⟩ := gbind hf
    refine g_cVw (ws' := wRf E a0 r13.2) h (qX11_tellFinding (a0 := a0) q13) mX11_tellFinding lkX11_64 dX11_put_13 rfl rfl ⟨Nat.zero_le _, Nat.zero_le _⟩ ⟨by decide, by decide⟩ (Nat.le_of_ble_eq_true rfl) [0, 1, 2, 3, 4, 5, 6, 7, 8, 9, 10, 11, 12, 13, 14, 15] rfl rfl 0 rfl rfl mgX11_20 ?_
    have er := Option.some.inj hf
    subst er
    exact g_lreturn h dX11_put_16 rfl ⟨Nat.zero_le _, Nat.zero_le _, rfl, rfl, rfl⟩
def lX11_lay_185  (fu : Nat) (v1 : Int32) (v2 : Int32) : Nat → (Int32) → (gS) → Option (Int64 × gS)
  | 0, _, _ => none
  | j + 1, v5, S0 => (if v2 ≤ v5 then ((some (sI S0 13 (1 : Int32))).bind fun S0x229 => (some ((((iA S0x229 0) 1).toInt64), S0x229))) else ((gIx (((36 : Int32) * v1) + v5) 108).bind fun k202 => (if ((iA S0 3) k202) = (-32768 : Int32) then ((lX11_lay_185  fu v1 v2 j) (v5 + 1) S0) else ((fX11_addReading fu S0 v5 ((iA S0 3) k202)).bind fun r218 => ((lX11_lay_185  fu v1 v2 j) (v5 + 1) r218)))))
def jX11_lay_106 (k72 : (Int32) → (Int32) → (Int32) → (gS) → Option (Int64 × gS)) (fu : Nat) (v1 : Int32) (v2 : Int32) (v4 : Int32) (v5 : Int32) (v6 : Int32) (s0 : Int32) (s1 : Int32) (S0 : gS) : Option (Int64 × gS) := (if v4 = 0 then (k72 (s1 + s0) (0 : Int32) (v5 + 1) S0) else (if v6 = (-32768 : Int32) then (k72 (s1 + s0) (1 : Int32) (v5 + 1) S0) else ((fX11_in fu v6 (-300 : Int32) (300 : Int32)).bind fun r129 => (if r129 = true then (k72 (s1 + s0) (1 : Int32) (v5 + 1) S0) else (k72 (s1 + s0) (0 : Int32) (v5 + 1) S0)))))
def lX11_lay_72  (fu : Nat) (v1 : Int32) (v2 : Int32) : Nat → (Int32) → (Int32) → (Int32) → (gS) → Option (Int64 × gS)
  | 0, _, _, _, _ => none
  | j + 1, v3, v4, v5, S0 => (if v2 ≤ v5 then (if v4 = 0 then ((fX11_tellFinding fu S0 (-9000000000000000001 : Int64)).bind fun r157 => (some (r157.1, r157.2))) else (if (((iA S0 0) 1) + v3) ≤ (20 : Int32) then (lX11_lay_185  fu v1 v2 fu (0 : Int32) S0) else ((fX11_tellFinding fu S0 (-9000000000000000005 : Int64)).bind fun r178 => (some (r178.1, r178.2))))) else ((gIx (((36 : Int32) * v1) + v5) 108).bind fun k89 => (if ((iA S0 3) k89) = (-32768 : Int32) then (jX11_lay_106 (lX11_lay_72  fu v1 v2 j) fu v1 v2 v4 v5 ((iA S0 3) k89) (0 : Int32) v3 S0) else (jX11_lay_106 (lX11_lay_72  fu v1 v2 j) fu v1 v2 v4 v5 ((iA S0 3) k89) (1 : Int32) v3 S0))))
def fX11_lay (fu : Nat) (S0 : gS) (v1 : Int32) (v2 : Int32) : Option (Int64 × gS) := ((fX11_in fu v1 (0 : Int32) (2 : Int32)).bind fun r3 => (if r3 = true then ((gIx v1 3).bind fun k22 => (if 0 ≤ ((iA S0 4) k22) then (if 0 ≤ v2 then (if v2 ≤ ((iA S0 4) k22) then (lX11_lay_72  fu v1 v2 fu (0 : Int32) (1 : Int32) (0 : Int32) S0) else ((fX11_tellFinding fu S0 (-9000000000000000001 : Int64)).bind fun r60 => (some (r60.1, r60.2)))) else ((fX11_tellFinding fu S0 (-9000000000000000004 : Int64)).bind fun r42 => (some (r42.1, r42.2)))) else ((fX11_tellFinding fu S0 (-9000000000000000002 : Int64)).bind fun r30 => (some (r30.1, r30.2))))) else ((fX11_tellFinding fu S0 (-9000000000000000001 : Int64)).bind fun r13 => (some (r13.1, r13.2)))))
set_option maxHeartbeats 4000000 in
set_option maxRecDepth 100000 in
theorem qX11_lay {l : Launch} {E : gE} {a0 : Nat → Nat} {fu : Nat} {S0 : gS} {v1 : Int32} {v2 : Int32} {r : Int64 × gS} (hf : fX11_lay fu S0 v1 v2 = some r) : CtrF l yX11_lay cX11_lay 7 (some .long) (gR 1 23) E [.ref (a0 0), .int v1, .int v2] (wRf E a0 S0) (some (.long r.1)) (wRf E a0 r.2) := by
  refine ctr_of false (plainFor_of_name (by decide)) (Nat.le_of_ble_eq_true rfl) (fun q => by cases q) (fun Γ h => ?_)
  refine g_lv [some _, some _, some _, _, _, _, _] rfl ?_
  rw [fX11_lay] at hf
  have loop185 : ∀ (j185 : Nat) (v5 : Int32) (S0 : gS) (o3 : Option Value) (o4 : Option Value) (o6 : Option Value), lX11_lay_185  fu v1 v2 j185 v5 S0 = some r → Γ 0 0 185 [some (.ref (a0 0)), some (.int v1), some (.int v2), o3, o4, some (.int v5), o6] [] (wRf E a0 S0) := by
    intro j185
    induction j185 with
    | zero => intro v5 S0 o3 o4 o6 hf; exact gno hf
    | succ j185 ih185 =>
      intro v5 S0 o3 o4 o6 hf
      rw [lX11_lay_185] at hf
      refine g_iload h dX11_lay_185 rfl ?_
      refine g_iload_n h dX11_lay_187 rfl ?_
      refine g_ic_ge h dX11_lay_188 rfl (fun c188 => ?_) (fun c188 => ?_)
      · replace hf := ifp_t c188 hf
        refine g_aload_n h dX11_lay_227 rfl ?_
        refine g_iconst (v := 1) h dX11_lay_228 (by decide) ?_
        obtain ⟨S0x229, q229, hf⟩ := gbind hf
        refine g_put (ws' := wRf E a0 S0x229) (ty := .boolean) h flX11_70 gftX11 rfl (by decide +kernel) dX11_lay_229 0 rfl rfl rfl (Nat.le_of_ble_eq_true rfl) (by cases q229; rfl) ?_
        refine g_aload_n h dX11_lay_232 rfl ?_
        refine g_get h flX11_9 dX11_lay_233 0 rfl rfl ?_
        refine g_iconst (v := 1) h dX11_lay_236 (by decide) ?_
        refine g_iald h dX11_lay_237 1 1 rfl rfl (by decide) (by decide) ?_
        refine g_i2l h dX11_lay_238 ?_
        have er := Option.some.inj hf
        subst er
        exact g_lreturn h dX11_lay_239 rfl ⟨Nat.zero_le _, Nat.zero_le _, rfl, rfl, rfl⟩
      · replace hf := ifp_f c188 hf
        refine g_aload_n h dX11_lay_191 rfl ?_
        refine g_get h flX11_16 dX11_lay_192 0 rfl rfl ?_
        refine g_bipush (v := 36) h dX11_lay_195 (by decide) ?_
        refine g_iload_n h dX11_lay_197 rfl ?_
        refine g_imul h dX11_lay_198 ?_
        refine g_iload h dX11_lay_199 rfl ?_
        refine g_iadd h dX11_lay_201 ?_
        obtain ⟨k202, q202, hf⟩ := gbind hf
        have e202 := (gIx_s q202).1
        have b202 := (gIx_s q202).2
        refine g_iald h dX11_lay_202 3 k202 rfl e202 b202 (by decide) ?_
        refine g_istore (lv' := [some _, some _, some _, _, _, some _, some _]) h dX11_lay_203 (by decide) rfl ?_
        refine g_iload h dX11_lay_205 rfl ?_
        refine g_sipush (v := (-32768)) h dX11_lay_207 (by decide) ?_
        refine g_ic_eq h dX11_lay_210 rfl (fun c210 => ?_) (fun c210 => ?_)
        · replace hf := ifp_t c210 hf
          refine g_iinc (v := (v5 + 1)) (lv' := [some _, some _, some _, _, _, some _, some _]) h dX11_lay_221 rfl rfl (by decide) rfl ?_
          refine g_goto h dX11_lay_224 rfl ?_
          exact ih185 _ _ _ _ _ hf
        · replace hf := ifp_f c210 hf
          refine g_aload_n h dX11_lay_213 rfl ?_
          refine g_iload h dX11_lay_214 rfl ?_
          refine g_iload h dX11_lay_216 rfl ?_
          obtain ⟨r218, q218, hf⟩ := gbind hf
          refine g_cVv (ws' := wRf E a0 r218) h (qX11_addReading (a0 := a0) q218) mX11_addReading lkX11_87 dX11_lay_218 rfl rfl ⟨Nat.zero_le _, Nat.zero_le _⟩ ⟨by decide, by decide⟩ (Nat.le_of_ble_eq_true rfl) [0, 1, 2, 3, 4, 5, 6, 7, 8, 9, 10, 11, 12, 13, 14, 15] rfl rfl 0 rfl rfl mgX11_20 ?_
          refine g_iinc (v := (v5 + 1)) (lv' := [some _, some _, some _, _, _, some _, some _]) h dX11_lay_221 rfl rfl (by decide) rfl ?_
          refine g_goto h dX11_lay_224 rfl ?_
          exact ih185 _ _ _ _ _ hf
  have loop72 : ∀ (j72 : Nat) (v3 : Int32) (v4 : Int32) (v5 : Int32) (S0 : gS) (o6 : Option Value), lX11_lay_72  fu v1 v2 j72 v3 v4 v5 S0 = some r → Γ 0 0 72 [some (.ref (a0 0)), some (.int v1), some (.int v2), some (.int v3), some (.int v4), some (.int v5), o6] [] (wRf E a0 S0) := by
    intro j72
    induction j72 with
    | zero => intro v3 v4 v5 S0 o6 hf; exact gno hf
    | succ j72 ih72 =>
      intro v3 v4 v5 S0 o6 hf
      rw [lX11_lay_72] at hf
      have jn106 : ∀ (v4 : Int32) (v5 : Int32) (v6 : Int32) (s0 : Int32) (s1 : Int32) (S0 : gS) (o3 : Option Value), jX11_lay_106 (lX11_lay_72  fu v1 v2 j72) fu v1 v2 v4 v5 v6 s0 s1 S0 = some r → Γ 0 0 106 [some (.ref (a0 0)), some (.int v1), some (.int v2), o3, some (.int v4), some (.int v5), some (.int v6)] [.int s0, .int s1] (wRf E a0 S0) := by
        intro v4 v5 v6 s0 s1 S0 o3 hf
        rw [jX11_lay_106] at hf
        refine g_iadd h dX11_lay_106 ?_
        refine g_istore_n (lv' := [some _, some _, some _, some _, some _, some _, some _]) h dX11_lay_107 (by decide) rfl ?_
        refine g_iload h dX11_lay_108 rfl ?_
        refine g_if_eq h dX11_lay_110 rfl (fun c110 => ?_) (fun c110 => ?_)
        · replace hf := ifp_t c110 hf
          refine g_iconst (v := 0) h dX11_lay_139 (by decide) ?_
          refine g_istore (lv' := [some _, some _, some _, some _, some _, some _, some _]) h dX11_lay_140 (by decide) rfl ?_
          refine g_iinc (v := (v5 + 1)) (lv' := [some _, some _, some _, some _, some _, some _, some _]) h dX11_lay_142 rfl rfl (by decide) rfl ?_
          refine g_goto h dX11_lay_145 rfl ?_
          exact ih72 _ _ _ _ _ hf
        · replace hf := ifp_f c110 hf
          refine g_iload h dX11_lay_113 rfl ?_
          refine g_sipush (v := (-32768)) h dX11_lay_115 (by decide) ?_
          refine g_ic_eq h dX11_lay_118 rfl (fun c118 => ?_) (fun c118 => ?_)
          · replace hf := ifp_t c118 hf
            refine g_iconst (v := 1) h dX11_lay_135 (by decide) ?_
            refine g_goto h dX11_lay_136 rfl ?_
            refine g_istore (lv' := [some _, some _, some _, some _, some _, some _, some _]) h dX11_lay_140 (by decide) rfl ?_
            refine g_iinc (v := (v5 + 1)) (lv' := [some _, some _, some _, some _, some _, some _, some _]) h dX11_lay_142 rfl rfl (by decide) rfl ?_
            refine g_goto h dX11_lay_145 rfl ?_
            exact ih72 _ _ _ _ _ hf
          · replace hf := ifp_f c118 hf
            refine g_iload h dX11_lay_121 rfl ?_
            refine g_sipush (v := (-300)) h dX11_lay_123 (by decide) ?_
            refine g_sipush (v := 300) h dX11_lay_126 (by decide) ?_
            obtain ⟨r129, q129, hf⟩ := gbind hf
            refine g_cSr h (qX11_in q129) mX11_in lkX11_58 dX11_lay_129 rfl rfl ⟨Nat.zero_le _, Nat.zero_le _⟩ ⟨by decide, by decide⟩ (Nat.le_of_ble_eq_true rfl) [] rfl rfl ?_
            refine g_ifb_eq h dX11_lay_132 rfl (fun c132 => ?_) (fun c132 => ?_)
            · replace hf := ifb_f c132 hf
              refine g_iconst (v := 0) h dX11_lay_139 (by decide) ?_
              refine g_istore (lv' := [some _, some _, some _, some _, some _, some _, some _]) h dX11_lay_140 (by decide) rfl ?_
              refine g_iinc (v := (v5 + 1)) (lv' := [some _, some _, some _, some _, some _, some _, some _]) h dX11_lay_142 rfl rfl (by decide) rfl ?_
              refine g_goto h dX11_lay_145 rfl ?_
              exact ih72 _ _ _ _ _ hf
            · replace hf := ifb_t c132 hf
              refine g_iconst (v := 1) h dX11_lay_135 (by decide) ?_
              refine g_goto h dX11_lay_136 rfl ?_
              refine g_istore (lv' := [some _, some _, some _, some _, some _, some _, some _]) h dX11_lay_140 (by decide) rfl ?_
              refine g_iinc (v := (v5 + 1)) (lv' := [some _, some _, some _, some _, some _, some _, some _]) h dX11_lay_142 rfl rfl (by decide) rfl ?_
              refine g_goto h dX11_lay_145 rfl ?_
              exact ih72 _ _ _ _ _ hf
      refine g_iload h dX11_lay_72 rfl ?_
      refine g_iload_n h dX11_lay_74 rfl ?_
      refine g_ic_ge h dX11_lay_75 rfl (fun c75 => ?_) (fun c75 => ?_)
      · replace hf := ifp_t c75 hf
        refine g_iload h dX11_lay_148 rfl ?_
        refine g_if_ne h dX11_lay_150 rfl (fun c150 => ?_) (fun c150 => ?_)
        · replace hf := ifp_f c150 hf
          refine g_aload_n h dX11_lay_161 rfl ?_
          refine g_get h flX11_9 dX11_lay_162 0 rfl rfl ?_
          refine g_iconst (v := 1) h dX11_lay_165 (by decide) ?_
          refine g_iald h dX11_lay_166 1 1 rfl rfl (by decide) (by decide) ?_
          refine g_iload_n h dX11_lay_167 rfl ?_
          refine g_iadd h dX11_lay_168 ?_
          refine g_bipush (v := 20) h dX11_lay_169 (by decide) ?_
          refine g_ic_le h dX11_lay_171 rfl (fun c171 => ?_) (fun c171 => ?_)
          · replace hf := ifp_t c171 hf
            refine g_iconst (v := 0) h dX11_lay_182 (by decide) ?_
            refine g_istore (lv' := [some _, some _, some _, some _, some _, some _, _]) h dX11_lay_183 (by decide) rfl ?_
            exact loop185 _ _ _ _ _ _ hf
          · replace hf := ifp_f c171 hf
            refine g_aload_n h dX11_lay_174 rfl ?_
            refine g_ldc2 (v := (-9000000000000000005)) h dX11_lay_175 gcX11_68 ?_
            obtain ⟨r178, q178, hf⟩ := gbind hf
            refine g_cVw (ws' := wRf E a0 r178.2) h (qX11_tellFinding (a0 := a0) q178) mX11_tellFinding lkX11_64 dX11_lay_178 rfl rfl ⟨Nat.zero_le _, Nat.zero_le _⟩ ⟨by decide, by decide⟩ (Nat.le_of_ble_eq_true rfl) [0, 1, 2, 3, 4, 5, 6, 7, 8, 9, 10, 11, 12, 13, 14, 15] rfl rfl 0 rfl rfl mgX11_20 ?_
            have er := Option.some.inj hf
            subst er
            exact g_lreturn h dX11_lay_181 rfl ⟨Nat.zero_le _, Nat.zero_le _, rfl, rfl, rfl⟩
        · replace hf := ifp_t c150 hf
          refine g_aload_n h dX11_lay_153 rfl ?_
          refine g_ldc2 (v := (-9000000000000000001)) h dX11_lay_154 gcX11_62 ?_
          obtain ⟨r157, q157, hf⟩ := gbind hf
          refine g_cVw (ws' := wRf E a0 r157.2) h (qX11_tellFinding (a0 := a0) q157) mX11_tellFinding lkX11_64 dX11_lay_157 rfl rfl ⟨Nat.zero_le _, Nat.zero_le _⟩ ⟨by decide, by decide⟩ (Nat.le_of_ble_eq_true rfl) [0, 1, 2, 3, 4, 5, 6, 7, 8, 9, 10, 11, 12, 13, 14, 15] rfl rfl 0 rfl rfl mgX11_20 ?_
          have er := Option.some.inj hf
          subst er
          exact g_lreturn h dX11_lay_160 rfl ⟨Nat.zero_le _, Nat.zero_le _, rfl, rfl, rfl⟩
      · replace hf := ifp_f c75 hf
        refine g_aload_n h dX11_lay_78 rfl ?_
        refine g_get h flX11_16 dX11_lay_79 0 rfl rfl ?_
        refine g_bipush (v := 36) h dX11_lay_82 (by decide) ?_
        refine g_iload_n h dX11_lay_84 rfl ?_
        refine g_imul h dX11_lay_85 ?_
        refine g_iload h dX11_lay_86 rfl ?_
        refine g_iadd h dX11_lay_88 ?_
        obtain ⟨k89, q89, hf⟩ := gbind hf
        have e89 := (gIx_s q89).1
        have b89 := (gIx_s q89).2
        refine g_iald h dX11_lay_89 3 k89 rfl e89 b89 (by decide) ?_
        refine g_istore (lv' := [some _, some _, some _, some _, some _, some _, some _]) h dX11_lay_90 (by decide) rfl ?_
        refine g_iload_n h dX11_lay_92 rfl ?_
        refine g_iload h dX11_lay_93 rfl ?_
        refine g_sipush (v := (-32768)) h dX11_lay_95 (by decide) ?_
        refine g_ic_ne h dX11_lay_98 rfl (fun c98 => ?_) (fun c98 => ?_)
        · replace hf := ifp_f c98 hf
          refine g_iconst (v := 1) h dX11_lay_105 (by decide) ?_
          exact jn106 _ _ _ _ _ _ _ hf
        · replace hf := ifp_t c98 hf
          refine g_iconst (v := 0) h dX11_lay_101 (by decide) ?_
          refine g_goto h dX11_lay_102 rfl ?_
          exact jn106 _ _ _ _ _ _ _ hf
  refine g_iload_n h dX11_lay_0 rfl ?_
  refine g_iconst (v := 0) h dX11_lay_1 (by decide) ?_
  refine g_iconst (v := 2) h dX11_lay_2 (by decide) ?_
  obtain ⟨r3, q3, hf⟩ := gbind hf
  refine g_cSr h (qX11_in q3) mX11_in lkX11_58 dX11_lay_3 rfl rfl ⟨Nat.zero_le _, Nat.zero_le _⟩ ⟨by decide, by decide⟩ (Nat.le_of_ble_eq_true rfl) [] rfl rfl ?_
  refine g_ifb_ne h dX11_lay_6 rfl (fun c6 => ?_) (fun c6 => ?_)
  · replace hf := ifb_t c6 hf
    refine g_aload_n h dX11_lay_17 rfl ?_
    refine g_get h flX11_19 dX11_lay_18 0 rfl rfl ?_
    refine g_iload_n h dX11_lay_21 rfl ?_
    obtain ⟨k22, q22, hf⟩ := gbind hf
    have e22 := (gIx_s q22).1
    have b22 := (gIx_s q22).2
    refine g_iald h dX11_lay_22 4 k22 rfl e22 b22 (by decide) ?_
    refine g_if_ge h dX11_lay_23 rfl (fun c23 => ?_) (fun c23 => ?_)
    · replace hf := ifp_t c23 hf
      refine g_iload_n h dX11_lay_34 rfl ?_
      refine g_if_ge h dX11_lay_35 rfl (fun c35 => ?_) (fun c35 => ?_)
      · replace hf := ifp_t c35 hf
        refine g_iload_n h dX11_lay_46 rfl ?_
        refine g_aload_n h dX11_lay_47 rfl ?_
        refine g_get h flX11_19 dX11_lay_48 0 rfl rfl ?_
        refine g_iload_n h dX11_lay_51 rfl ?_
        refine g_iald h dX11_lay_52 4 k22 rfl e22 b22 (by decide) ?_
        refine g_ic_le h dX11_lay_53 rfl (fun c53 => ?_) (fun c53 => ?_)
        · replace hf := ifp_t c53 hf
          refine g_iconst (v := 0) h dX11_lay_64 (by decide) ?_
          refine g_istore_n (lv' := [some _, some _, some _, some _, _, _, _]) h dX11_lay_65 (by decide) rfl ?_
          refine g_iconst (v := 1) h dX11_lay_66 (by decide) ?_
          refine g_istore (lv' := [some _, some _, some _, some _, some _, _, _]) h dX11_lay_67 (by decide) rfl ?_
          refine g_iconst (v := 0) h dX11_lay_69 (by decide) ?_
          refine g_istore (lv' := [some _, some _, some _, some _, some _, some _, _]) h dX11_lay_70 (by decide) rfl ?_
          exact loop72 _ _ _ _ _ _ hf
        · replace hf := ifp_f c53 hf
          refine g_aload_n h dX11_lay_56 rfl ?_
          refine g_ldc2 (v := (-9000000000000000001)) h dX11_lay_57 gcX11_62 ?_
          obtain ⟨r60, q60, hf⟩ := gbind hf
          refine g_cVw (ws' := wRf E a0 r60.2) h (qX11_tellFinding (a0 := a0) q60) mX11_tellFinding lkX11_64 dX11_lay_60 rfl rfl ⟨Nat.zero_le _, Nat.zero_le _⟩ ⟨by decide, by decide⟩ (Nat.le_of_ble_eq_true rfl) [0, 1, 2, 3, 4, 5, 6, 7, 8, 9, 10, 11, 12, 13, 14, 15] rfl rfl 0 rfl rfl mgX11_20 ?_
          have er := Option.some.inj hf
          subst er
          exact g_lreturn h dX11_lay_63 rfl ⟨Nat.zero_le _, Nat.zero_le _, rfl, rfl, rfl⟩
      · replace hf := ifp_f c35 hf
        refine g_aload_n h dX11_lay_38 rfl ?_
        refine g_ldc2 (v := (-9000000000000000004)) h dX11_lay_39 gcX11_94 ?_
        obtain ⟨r42, q42, hf⟩ := gbind hf
        refine g_cVw (ws' := wRf E a0 r42.2) h (qX11_tellFinding (a0 := a0) q42) mX11_tellFinding lkX11_64 dX11_lay_42 rfl rfl ⟨Nat.zero_le _, Nat.zero_le _⟩ ⟨by decide, by decide⟩ (Nat.le_of_ble_eq_true rfl) [0, 1, 2, 3, 4, 5, 6, 7, 8, 9, 10, 11, 12, 13, 14, 15] rfl rfl 0 rfl rfl mgX11_20 ?_
        have er := Option.some.inj hf
        subst er
        exact g_lreturn h dX11_lay_45 rfl ⟨Nat.zero_le _, Nat.zero_le _, rfl, rfl, rfl⟩
    · replace hf := ifp_f c23 hf
      refine g_aload_n h dX11_lay_26 rfl ?_
      refine g_ldc2 (v := (-9000000000000000002)) h dX11_lay_27 gcX11_96 ?_
      obtain ⟨r30, q30, hf⟩ := gbind hf
      refine g_cVw (ws' := wRf E a0 r30.2) h (qX11_tellFinding (a0 := a0) q30) mX11_tellFinding lkX11_64 dX11_lay_30 rfl rfl ⟨Nat.zero_le _, Nat.zero_le _⟩ ⟨by decide, by decide⟩ (Nat.le_of_ble_eq_true rfl) [0, 1, 2, 3, 4, 5, 6, 7, 8, 9, 10, 11, 12, 13, 14, 15] rfl rfl 0 rfl rfl mgX11_20 ?_
      have er := Option.some.inj hf
      subst er
      exact g_lreturn h dX11_lay_33 rfl ⟨Nat.zero_le _, Nat.zero_le _, rfl, rfl, rfl⟩
  · replace hf := ifb_f c6 hf
    refine g_aload_n h dX11_lay_9 rfl ?_
    refine g_ldc2 (v := (-9000000000000000001)) h dX11_lay_10 gcX11_62 ?_
    obtain ⟨r13, q13, hf⟩ := gbind hf
    refine g_cVw (ws' := wRf E a0 r13.2) h (qX11_tellFinding (a0 := a0) q13) mX11_tellFinding lkX11_64 dX11_lay_13 rfl rfl ⟨Nat.zero_le _, Nat.zero_le _⟩ ⟨by decide, by decide⟩ (Nat.le_of_ble_eq_true rfl) [0, 1, 2, 3, 4, 5, 6, 7, 8, 9, 10, 11, 12, 13, 14, 15] rfl rfl 0 rfl rfl mgX11_20 ?_
    have er := Option.some.inj hf
    subst er
    exact g_lreturn h dX11_lay_16 rfl ⟨Nat.zero_le _, Nat.zero_le _, rfl, rfl, rfl⟩
def lX11_takeModel_7  (fu : Nat) (v1 : Int32) : Nat → (Int32) → (gS) → Option (gS)
  | 0, _, _ => none
  | j + 1, v2, S0 => (if (8 : Int32) ≤ v2 then (some S0) else (if ((v1 >>> (v2 &&& 31)) &&& (1 : Int32)) = (1 : Int32) then ((gIx (iF S0 20) 4).bind fun k31 => ((some (sAu S0 21 k31 v2)).bind fun S0x31 => ((some (sI S0x31 20 ((iF S0x31 20) + (1 : Int32)))).bind fun S0x39 => ((lX11_takeModel_7  fu v1 j) (v2 + 1) S0x39)))) else ((lX11_takeModel_7  fu v1 j) (v2 + 1) S0)))
def fX11_takeModel (fu : Nat) (S0 : gS) (v1 : Int32) : Option (gS) := ((some (sI S0 20 (0 : Int32))).bind fun S0x2 => (lX11_takeModel_7  fu v1 fu (0 : Int32) S0x2))
set_option maxHeartbeats 4000000 in
set_option maxRecDepth 100000 in
theorem qX11_takeModel {l : Launch} {E : gE} {a0 : Nat → Nat} {fu : Nat} {S0 : gS} {v1 : Int32} {r : gS} (hf : fX11_takeModel fu S0 v1 = some r) : CtrF l yX11_takeModel cX11_takeModel 3 none (gR 0 0) E [.ref (a0 0), .int v1] (wRf E a0 S0) none (wRf E a0 r) := by
  refine ctr_of false (plainFor_of_name (by decide)) (Nat.le_of_ble_eq_true rfl) (fun q => by cases q) (fun Γ h => ?_)
  refine g_lv [some _, some _, _] rfl ?_
  rw [fX11_takeModel] at hf
  have loop7 : ∀ (j7 : Nat) (v2 : Int32) (S0 : gS) , lX11_takeModel_7  fu v1 j7 v2 S0 = some r → Γ 0 0 7 [some (.ref (a0 0)), some (.int v1), some (.int v2)] [] (wRf E a0 S0) := by
    intro j7
    induction j7 with
    | zero => intro v2 S0 hf; exact gno hf
    | succ j7 ih7 =>
      intro v2 S0 hf
      rw [lX11_takeModel_7] at hf
      refine g_iload_n h dX11_takeModel_7 rfl ?_
      refine g_bipush (v := 8) h dX11_takeModel_8 (by decide) ?_
      refine g_ic_ge h dX11_takeModel_10 rfl (fun c10 => ?_) (fun c10 => ?_)
      · replace hf := ifp_t c10 hf
        have er := Option.some.inj hf
        subst er
        exact g_return h dX11_takeModel_48 rfl ⟨Nat.zero_le _, Nat.zero_le _, rfl, rfl, rfl⟩
      · replace hf := ifp_f c10 hf
        refine g_iload_n h dX11_takeModel_13 rfl ?_
        refine g_iload_n h dX11_takeModel_14 rfl ?_
        refine g_ishr h dX11_takeModel_15 ?_
        refine g_iconst (v := 1) h dX11_takeModel_16 (by decide) ?_
        refine g_iand h dX11_takeModel_17 ?_
        refine g_iconst (v := 1) h dX11_takeModel_18 (by decide) ?_
        refine g_ic_ne h dX11_takeModel_19 rfl (fun c19 => ?_) (fun c19 => ?_)
        · replace hf := ifp_f c19 hf
          refine g_iinc (v := (v2 + 1)) (lv' := [some _, some _, some _]) h dX11_takeModel_42 rfl rfl (by decide) rfl ?_
          refine g_goto h dX11_takeModel_45 rfl ?_
          exact ih7 _ _ hf
        · replace hf := ifp_t c19 hf
          refine g_aload_n h dX11_takeModel_22 rfl ?_
          refine g_get h flX11_41 dX11_takeModel_23 0 rfl rfl ?_
          refine g_aload_n h dX11_takeModel_26 rfl ?_
          refine g_get h flX11_101 dX11_takeModel_27 0 rfl rfl ?_
          refine g_iload_n h dX11_takeModel_30 rfl ?_
          obtain ⟨k31, q31, hf⟩ := gbind hf
          have e31 := (gIx_s q31).1
          have b31 := (gIx_s q31).2
          obtain ⟨S0x31, w31, hf⟩ := gbind hf
          refine g_iast (ws' := wRf E a0 S0x31) h dX11_takeModel_31 11 k31 rfl e31 b31 (by decide) (by cases w31; rfl) ?_
          refine g_aload_n h dX11_takeModel_32 rfl ?_
          refine g_dup h dX11_takeModel_33 rfl ?_
          refine g_get h flX11_101 dX11_takeModel_34 0 rfl rfl ?_
          refine g_iconst (v := 1) h dX11_takeModel_37 (by decide) ?_
          refine g_iadd h dX11_takeModel_38 ?_
          obtain ⟨S0x39, q39, hf⟩ := gbind hf
          refine g_put (ws' := wRf E a0 S0x39) (ty := .int) h flX11_101 gftX11 rfl (by decide +kernel) dX11_takeModel_39 0 rfl rfl rfl (Nat.le_of_ble_eq_true rfl) (by cases q39; rfl) ?_
          refine g_iinc (v := (v2 + 1)) (lv' := [some _, some _, some _]) h dX11_takeModel_42 rfl rfl (by decide) rfl ?_
          refine g_goto h dX11_takeModel_45 rfl ?_
          exact ih7 _ _ hf
  refine g_aload_n h dX11_takeModel_0 rfl ?_
  refine g_iconst (v := 0) h dX11_takeModel_1 (by decide) ?_
  obtain ⟨S0x2, q2, hf⟩ := gbind hf
  refine g_put (ws' := wRf E a0 S0x2) (ty := .int) h flX11_101 gftX11 rfl (by decide +kernel) dX11_takeModel_2 0 rfl rfl rfl (Nat.le_of_ble_eq_true rfl) (by cases q2; rfl) ?_
  refine g_iconst (v := 0) h dX11_takeModel_5 (by decide) ?_
  refine g_istore_n (lv' := [some _, some _, some _]) h dX11_takeModel_6 (by decide) rfl ?_
  exact loop7 _ _ _  hf
def fX11_entry (fu : Nat) (S0 : gS) (v1 : Int32) (v2 : Int32) (v3 : Int32) : Option (Int64) := (if v2 = v3 then ((gIx v1 4).bind fun k10 => (some ((lA S0 23) k10))) else ((gIx (((4 : Int32) * v1) + v2) 16).bind fun k23 => (some ((lA S0 22) k23))))
set_option maxHeartbeats 4000000 in
set_option maxRecDepth 100000 in
theorem qX11_entry {l : Launch} {E : gE} {a0 : Nat → Nat} {fu : Nat} {S0 : gS} {v1 : Int32} {v2 : Int32} {v3 : Int32} {r : Int64} (hf : fX11_entry fu S0 v1 v2 v3 = some r) : CtrF l yX11_entry cX11_entry 4 (some .long) (gR 0 0) E [.ref (a0 0), .int v1, .int v2, .int v3] (wRf E a0 S0) (some (.long r)) (wRf E a0 S0) := by
  refine ctr_of false (plainFor_of_name (by decide)) (Nat.le_of_ble_eq_true rfl) (fun q => by cases q) (fun Γ h => ?_)
  refine g_lv [some _, some _, some _, some _] rfl ?_
  rw [fX11_entry] at hf
  refine g_iload_n h dX11_entry_0 rfl ?_
  refine g_iload_n h dX11_entry_1 rfl ?_
  refine g_ic_ne h dX11_entry_2 rfl (fun c2 => ?_) (fun c2 => ?_)
  · replace hf := ifp_f c2 hf
    refine g_aload_n h dX11_entry_14 rfl ?_
    refine g_get h flX11_44 dX11_entry_15 0 rfl rfl ?_
    refine g_iconst (v := 4) h dX11_entry_18 (by decide) ?_
    refine g_iload_n h dX11_entry_19 rfl ?_
    refine g_imul h dX11_entry_20 ?_
    refine g_iload_n h dX11_entry_21 rfl ?_
    refine g_iadd h dX11_entry_22 ?_
    obtain ⟨k23, q23, hf⟩ := gbind hf
    have e23 := (gIx_s q23).1
    have b23 := (gIx_s q23).2
    refine g_lald h dX11_entry_23 12 k23 rfl e23 b23 (by decide) ?_
    have er := Option.some.inj hf
    subst er
    exact g_lreturn h dX11_entry_24 rfl ⟨Nat.zero_le _, Nat.zero_le _, rfl, rfl, rfl⟩
  · replace hf := ifp_t c2 hf
    refine g_aload_n h dX11_entry_5 rfl ?_
    refine g_get h flX11_47 dX11_entry_6 0 rfl rfl ?_
    refine g_iload_n h dX11_entry_9 rfl ?_
    obtain ⟨k10, q10, hf⟩ := gbind hf
    have e10 := (gIx_s q10).1
    have b10 := (gIx_s q10).2
    refine g_lald h dX11_entry_10 13 k10 rfl e10 b10 (by decide) ?_
    refine g_goto h dX11_entry_11 rfl ?_
    have er := Option.some.inj hf
    subst er
    exact g_lreturn h dX11_entry_24 rfl ⟨Nat.zero_le _, Nat.zero_le _, rfl, rfl, rfl⟩
def fX11_two (fu : Nat) (S0 : gS) (v1 : Int32) (v2 : Int32) (v3 : Int32) (v4 : Int32) (v5 : Int32) : Option (Int64) := ((fX11_entry fu S0 v1 v3 v5).bind fun r5 => ((fX11_entry fu S0 v2 v4 v5).bind fun r14 => ((fX11_entry fu S0 v1 v4 v5).bind fun r24 => ((fX11_entry fu S0 v2 v3 v5).bind fun r32 => (some ((r5 * r14) - (r24 * r32)))))))
set_option maxHeartbeats 4000000 in
set_option maxRecDepth 100000 in
theorem qX11_two {l : Launch} {E : gE} {a0 : Nat → Nat} {fu : Nat} {S0 : gS} {v1 : Int32} {v2 : Int32} {v3 : Int32} {v4 : Int32} {v5 : Int32} {r : Int64} (hf : fX11_two fu S0 v1 v2 v3 v4 v5 = some r) : CtrF l yX11_two cX11_two 6 (some .long) (gR 1 23) E [.ref (a0 0), .int v1, .int v2, .int v3, .int v4, .int v5] (wRf E a0 S0) (some (.long r)) (wRf E a0 S0) := by
  refine ctr_of false (plainFor_of_name (by decide)) (Nat.le_of_ble_eq_true rfl) (fun q => by cases q) (fun Γ h => ?_)
  refine g_lv [some _, some _, some _, some _, some _, some _] rfl ?_
  rw [fX11_two] at hf
  refine g_aload_n h dX11_two_0 rfl ?_
  refine g_iload_n h dX11_two_1 rfl ?_
  refine g_iload_n h dX11_two_2 rfl ?_
  refine g_iload h dX11_two_3 rfl ?_
  obtain ⟨r5, q5, hf⟩ := gbind hf
  refine g_cVr h (qX11_entry (a0 := a0) q5) mX11_entry lkX11_105 dX11_two_5 rfl rfl ⟨Nat.zero_le _, Nat.zero_le _⟩ ⟨by decide, by decide⟩ (Nat.le_of_ble_eq_true rfl) [0, 1, 2, 3, 4, 5, 6, 7, 8, 9, 10, 11, 12, 13, 14, 15] rfl rfl 0 rfl rfl ?_
  refine g_aload_n h dX11_two_8 rfl ?_
  refine g_iload_n h dX11_two_9 rfl ?_
  refine g_iload h dX11_two_10 rfl ?_
  refine g_iload h dX11_two_12 rfl ?_
  obtain ⟨r14, q14, hf⟩ := gbind hf
  refine g_cVr h (qX11_entry (a0 := a0) q14) mX11_entry lkX11_105 dX11_two_14 rfl rfl ⟨Nat.zero_le _, Nat.zero_le _⟩ ⟨by decide, by decide⟩ (Nat.le_of_ble_eq_true rfl) [0, 1, 2, 3, 4, 5, 6, 7, 8, 9, 10, 11, 12, 13, 14, 15] rfl rfl 0 rfl rfl ?_
  refine g_lmul h dX11_two_17 ?_
  refine g_aload_n h dX11_two_18 rfl ?_
  refine g_iload_n h dX11_two_19 rfl ?_
  refine g_iload h dX11_two_20 rfl ?_
  refine g_iload h dX11_two_22 rfl ?_
  obtain ⟨r24, q24, hf⟩ := gbind hf
  refine g_cVr h (qX11_entry (a0 := a0) q24) mX11_entry lkX11_105 dX11_two_24 rfl rfl ⟨Nat.zero_le _, Nat.zero_le _⟩ ⟨by decide, by decide⟩ (Nat.le_of_ble_eq_true rfl) [0, 1, 2, 3, 4, 5, 6, 7, 8, 9, 10, 11, 12, 13, 14, 15] rfl rfl 0 rfl rfl ?_
  refine g_aload_n h dX11_two_27 rfl ?_
  refine g_iload_n h dX11_two_28 rfl ?_
  refine g_iload_n h dX11_two_29 rfl ?_
  refine g_iload h dX11_two_30 rfl ?_
  obtain ⟨r32, q32, hf⟩ := gbind hf
  refine g_cVr h (qX11_entry (a0 := a0) q32) mX11_entry lkX11_105 dX11_two_32 rfl rfl ⟨Nat.zero_le _, Nat.zero_le _⟩ ⟨by decide, by decide⟩ (Nat.le_of_ble_eq_true rfl) [0, 1, 2, 3, 4, 5, 6, 7, 8, 9, 10, 11, 12, 13, 14, 15] rfl rfl 0 rfl rfl ?_
  refine g_lmul h dX11_two_35 ?_
  refine g_lsub h dX11_two_36 ?_
  have er := Option.some.inj hf
  subst er
  exact g_lreturn h dX11_two_37 rfl ⟨Nat.zero_le _, Nat.zero_le _, rfl, rfl, rfl⟩
def fX11_three (fu : Nat) (S0 : gS) (v1 : Int32) (v2 : Int32) (v3 : Int32) (v4 : Int32) (v5 : Int32) (v6 : Int32) (v7 : Int32) : Option (Int64) := ((fX11_entry fu S0 v1 v4 v7).bind fun r6 => ((fX11_two fu S0 v2 v3 v5 v6 v7).bind fun r18 => ((fX11_entry fu S0 v1 v5 v7).bind fun r28 => ((fX11_two fu S0 v2 v3 v4 v6 v7).bind fun r40 => ((fX11_entry fu S0 v1 v6 v7).bind fun r51 => ((fX11_two fu S0 v2 v3 v4 v5 v7).bind fun r63 => (some (((r6 * r18) - (r28 * r40)) + (r51 * r63)))))))))
set_option maxHeartbeats 4000000 in
set_option maxRecDepth 100000 in
theorem qX11_three {l : Launch} {E : gE} {a0 : Nat → Nat} {fu : Nat} {S0 : gS} {v1 : Int32} {v2 : Int32} {v3 : Int32} {v4 : Int32} {v5 : Int32} {v6 : Int32} {v7 : Int32} {r : Int64} (hf : fX11_three fu S0 v1 v2 v3 v4 v5 v6 v7 = some r) : CtrF l yX11_three cX11_three 8 (some .long) (gR 2 48) E [.ref (a0 0), .int v1, .int v2, .int v3, .int v4, .int v5, .int v6, .int v7] (wRf E a0 S0) (some (.long r)) (wRf E a0 S0) := by
  refine ctr_of false (plainFor_of_name (by decide)) (Nat.le_of_ble_eq_true rfl) (fun q => by cases q) (fun Γ h => ?_)
  refine g_lv [some _, some _, some _, some _, some _, some _, some _, some _] rfl ?_
  rw [fX11_three] at hf
  refine g_aload_n h dX11_three_0 rfl ?_
  refine g_iload_n h dX11_three_1 rfl ?_
  refine g_iload h dX11_three_2 rfl ?_
  refine g_iload h dX11_three_4 rfl ?_
  obtain ⟨r6, q6, hf⟩ := gbind hf
  refine g_cVr h (qX11_entry (a0 := a0) q6) mX11_entry lkX11_105 dX11_three_6 rfl rfl ⟨Nat.zero_le _, Nat.zero_le _⟩ ⟨by decide, by decide⟩ (Nat.le_of_ble_eq_true rfl) [0, 1, 2, 3, 4, 5, 6, 7, 8, 9, 10, 11, 12, 13, 14, 15] rfl rfl 0 rfl rfl ?_
  refine g_aload_n h dX11_three_9 rfl ?_
  refine g_iload_n h dX11_three_10 rfl ?_
  refine g_iload_n h dX11_three_11 rfl ?_
  refine g_iload h dX11_three_12 rfl ?_
  refine g_iload h dX11_three_14 rfl ?_
  refine g_iload h dX11_three_16 rfl ?_
  obtain ⟨r18, q18, hf⟩ := gbind hf
  refine g_cVr h (qX11_two (a0 := a0) q18) mX11_two lkX11_109 dX11_three_18 rfl rfl ⟨Nat.zero_le _, Nat.zero_le _⟩ ⟨by decide, by decide⟩ (Nat.le_of_ble_eq_true rfl) [0, 1, 2, 3, 4, 5, 6, 7, 8, 9, 10, 11, 12, 13, 14, 15] rfl rfl 0 rfl rfl ?_
  refine g_lmul h dX11_three_21 ?_
  refine g_aload_n h dX11_three_22 rfl ?_
  refine g_iload_n h dX11_three_23 rfl ?_
  refine g_iload h dX11_three_24 rfl ?_
  refine g_iload h dX11_three_26 rfl ?_
  obtain ⟨r28, q28, hf⟩ := gbind hf
  refine g_cVr h (qX11_entry (a0 := a0) q28) mX11_entry lkX11_105 dX11_three_28 rfl rfl ⟨Nat.zero_le _, Nat.zero_le _⟩ ⟨by decide, by decide⟩ (Nat.le_of_ble_eq_true rfl) [0, 1, 2, 3, 4, 5, 6, 7, 8, 9, 10, 11, 12, 13, 14, 15] rfl rfl 0 rfl rfl ?_
  refine g_aload_n h dX11_three_31 rfl ?_
  refine g_iload_n h dX11_three_32 rfl ?_
  refine g_iload_n h dX11_three_33 rfl ?_
  refine g_iload h dX11_three_34 rfl ?_
  refine g_iload h dX11_three_36 rfl ?_
  refine g_iload h dX11_three_38 rfl ?_
  obtain ⟨r40, q40, hf⟩ := gbind hf
  refine g_cVr h (qX11_two (a0 := a0) q40) mX11_two lkX11_109 dX11_three_40 rfl rfl ⟨Nat.zero_le _, Nat.zero_le _⟩ ⟨by decide, by decide⟩ (Nat.le_of_ble_eq_true rfl) [0, 1, 2, 3, 4, 5, 6, 7, 8, 9, 10, 11, 12, 13, 14, 15] rfl rfl 0 rfl rfl ?_
  refine g_lmul h dX11_three_43 ?_
  refine g_lsub h dX11_three_44 ?_
  refine g_aload_n h dX11_three_45 rfl ?_
  refine g_iload_n h dX11_three_46 rfl ?_
  refine g_iload h dX11_three_47 rfl ?_
  refine g_iload h dX11_three_49 rfl ?_
  obtain ⟨r51, q51, hf⟩ := gbind hf
  refine g_cVr h (qX11_entry (a0 := a0) q51) mX11_entry lkX11_105 dX11_three_51 rfl rfl ⟨Nat.zero_le _, Nat.zero_le _⟩ ⟨by decide, by decide⟩ (Nat.le_of_ble_eq_true rfl) [0, 1, 2, 3, 4, 5, 6, 7, 8, 9, 10, 11, 12, 13, 14, 15] rfl rfl 0 rfl rfl ?_
  refine g_aload_n h dX11_three_54 rfl ?_
  refine g_iload_n h dX11_three_55 rfl ?_
  refine g_iload_n h dX11_three_56 rfl ?_
  refine g_iload h dX11_three_57 rfl ?_
  refine g_iload h dX11_three_59 rfl ?_
  refine g_iload h dX11_three_61 rfl ?_
  obtain ⟨r63, q63, hf⟩ := gbind hf
  refine g_cVr h (qX11_two (a0 := a0) q63) mX11_two lkX11_109 dX11_three_63 rfl rfl ⟨Nat.zero_le _, Nat.zero_le _⟩ ⟨by decide, by decide⟩ (Nat.le_of_ble_eq_true rfl) [0, 1, 2, 3, 4, 5, 6, 7, 8, 9, 10, 11, 12, 13, 14, 15] rfl rfl 0 rfl rfl ?_
  refine g_lmul h dX11_three_66 ?_
  refine g_ladd h dX11_three_67 ?_
  have er := Option.some.inj hf
  subst er
  exact g_lreturn h dX11_three_68 rfl ⟨Nat.zero_le _, Nat.zero_le _, rfl, rfl, rfl⟩
def fX11_whole (fu : Nat) (S0 : gS) (v1 : Int32) : Option (Int64) := (if (iF S0 20) = 1 then ((fX11_entry fu S0 (0 : Int32) (0 : Int32) v1).bind fun r36 => (some r36)) else (if (iF S0 20) = 2 then ((fX11_two fu S0 (0 : Int32) (1 : Int32) (0 : Int32) (1 : Int32) v1).bind fun r46 => (some r46)) else (if (iF S0 20) = 3 then ((fX11_three fu S0 (0 : Int32) (1 : Int32) (2 : Int32) (0 : Int32) (1 : Int32) (2 : Int32) v1).bind fun r58 => (some r58)) else ((fX11_entry fu S0 (0 : Int32) (0 : Int32) v1).bind fun r66 => ((fX11_three fu S0 (1 : Int32) (2 : Int32) (3 : Int32) (1 : Int32) (2 : Int32) (3 : Int32) v1).bind fun r77 => ((fX11_entry fu S0 (0 : Int32) (1 : Int32) v1).bind fun r85 => ((fX11_three fu S0 (1 : Int32) (2 : Int32) (3 : Int32) (0 : Int32) (2 : Int32) (3 : Int32) v1).bind fun r96 => ((fX11_entry fu S0 (0 : Int32) (2 : Int32) v1).bind fun r105 => ((fX11_three fu S0 (1 : Int32) (2 : Int32) (3 : Int32) (0 : Int32) (1 : Int32) (3 : Int32) v1).bind fun r116 => ((fX11_entry fu S0 (0 : Int32) (3 : Int32) v1).bind fun r125 => ((fX11_three fu S0 (1 : Int32) (2 : Int32) (3 : Int32) (0 : Int32) (1 : Int32) (2 : Int32) v1).bind fun r136 => (some ((((r66 * r77) - (r85 * r96)) + (r105 * r116)) - (r125 * r136))))))))))))))
set_option maxHeartbeats 4000000 in
set_option maxRecDepth 100000 in
theorem qX11_whole {l : Launch} {E : gE} {a0 : Nat → Nat} {fu : Nat} {S0 : gS} {v1 : Int32} {r : Int64} (hf : fX11_whole fu S0 v1 = some r) : CtrF l yX11_whole cX11_whole 2 (some .long) (gR 3 75) E [.ref (a0 0), .int v1] (wRf E a0 S0) (some (.long r)) (wRf E a0 S0) := by
  refine ctr_of false (plainFor_of_name (by decide)) (Nat.le_of_ble_eq_true rfl) (fun q => by cases q) (fun Γ h => ?_)
  refine g_lv [some _, some _] rfl ?_
  rw [fX11_whole] at hf
  refine g_aload_n h dX11_whole_0 rfl ?_
  refine g_get h flX11_101 dX11_whole_1 0 rfl rfl ?_
  refine g_ts3_1 h dX11_whole_4 rfl rfl rfl rfl (fun c4 => ?_) (fun c4 => ?_) (fun c4 => ?_) (fun c4 => ?_)
  · replace hf := ifp_t (ts_eq (k := 1) c4 (by decide)) hf
    refine g_aload_n h dX11_whole_32 rfl ?_
    refine g_iconst (v := 0) h dX11_whole_33 (by decide) ?_
    refine g_iconst (v := 0) h dX11_whole_34 (by decide) ?_
    refine g_iload_n h dX11_whole_35 rfl ?_
    obtain ⟨r36, q36, hf⟩ := gbind hf
    refine g_cVr h (qX11_entry (a0 := a0) q36) mX11_entry lkX11_105 dX11_whole_36 rfl rfl ⟨Nat.zero_le _, Nat.zero_le _⟩ ⟨by decide, by decide⟩ (Nat.le_of_ble_eq_true rfl) [0, 1, 2, 3, 4, 5, 6, 7, 8, 9, 10, 11, 12, 13, 14, 15] rfl rfl 0 rfl rfl ?_
    have er := Option.some.inj hf
    subst er
    exact g_lreturn h dX11_whole_39 rfl ⟨Nat.zero_le _, Nat.zero_le _, rfl, rfl, rfl⟩
  · replace hf := ifp_f (ts_ne (k := 1) c4 (by decide)) hf
    replace hf := ifp_t (ts_eq (k := 2) c4 (by decide)) hf
    refine g_aload_n h dX11_whole_40 rfl ?_
    refine g_iconst (v := 0) h dX11_whole_41 (by decide) ?_
    refine g_iconst (v := 1) h dX11_whole_42 (by decide) ?_
    refine g_iconst (v := 0) h dX11_whole_43 (by decide) ?_
    refine g_iconst (v := 1) h dX11_whole_44 (by decide) ?_
    refine g_iload_n h dX11_whole_45 rfl ?_
    obtain ⟨r46, q46, hf⟩ := gbind hf
    refine g_cVr h (qX11_two (a0 := a0) q46) mX11_two lkX11_109 dX11_whole_46 rfl rfl ⟨Nat.zero_le _, Nat.zero_le _⟩ ⟨by decide, by decide⟩ (Nat.le_of_ble_eq_true rfl) [0, 1, 2, 3, 4, 5, 6, 7, 8, 9, 10, 11, 12, 13, 14, 15] rfl rfl 0 rfl rfl ?_
    have er := Option.some.inj hf
    subst er
    exact g_lreturn h dX11_whole_49 rfl ⟨Nat.zero_le _, Nat.zero_le _, rfl, rfl, rfl⟩
  · replace hf := ifp_f (ts_ne (k := 1) c4 (by decide)) hf
    replace hf := ifp_f (ts_ne (k := 2) c4 (by decide)) hf
    replace hf := ifp_t (ts_eq (k := 3) c4 (by decide)) hf
    refine g_aload_n h dX11_whole_50 rfl ?_
    refine g_iconst (v := 0) h dX11_whole_51 (by decide) ?_
    refine g_iconst (v := 1) h dX11_whole_52 (by decide) ?_
    refine g_iconst (v := 2) h dX11_whole_53 (by decide) ?_
    refine g_iconst (v := 0) h dX11_whole_54 (by decide) ?_
    refine g_iconst (v := 1) h dX11_whole_55 (by decide) ?_
    refine g_iconst (v := 2) h dX11_whole_56 (by decide) ?_
    refine g_iload_n h dX11_whole_57 rfl ?_
    obtain ⟨r58, q58, hf⟩ := gbind hf
    refine g_cVr h (qX11_three (a0 := a0) q58) mX11_three lkX11_113 dX11_whole_58 rfl rfl ⟨Nat.zero_le _, Nat.zero_le _⟩ ⟨by decide, by decide⟩ (Nat.le_of_ble_eq_true rfl) [0, 1, 2, 3, 4, 5, 6, 7, 8, 9, 10, 11, 12, 13, 14, 15] rfl rfl 0 rfl rfl ?_
    have er := Option.some.inj hf
    subst er
    exact g_lreturn h dX11_whole_61 rfl ⟨Nat.zero_le _, Nat.zero_le _, rfl, rfl, rfl⟩
  · replace hf := ifp_f (ts_out (k := 1) c4 (by decide)) hf
    replace hf := ifp_f (ts_out (k := 2) c4 (by decide)) hf
    replace hf := ifp_f (ts_out (k := 3) c4 (by decide)) hf
    refine g_aload_n h dX11_whole_62 rfl ?_
    refine g_iconst (v := 0) h dX11_whole_63 (by decide) ?_
    refine g_iconst (v := 0) h dX11_whole_64 (by decide) ?_
    refine g_iload_n h dX11_whole_65 rfl ?_
    obtain ⟨r66, q66, hf⟩ := gbind hf
    refine g_cVr h (qX11_entry (a0 := a0) q66) mX11_entry lkX11_105 dX11_whole_66 rfl rfl ⟨Nat.zero_le _, Nat.zero_le _⟩ ⟨by decide, by decide⟩ (Nat.le_of_ble_eq_true rfl) [0, 1, 2, 3, 4, 5, 6, 7, 8, 9, 10, 11, 12, 13, 14, 15] rfl rfl 0 rfl rfl ?_
    refine g_aload_n h dX11_whole_69 rfl ?_
    refine g_iconst (v := 1) h dX11_whole_70 (by decide) ?_
    refine g_iconst (v := 2) h dX11_whole_71 (by decide) ?_
    refine g_iconst (v := 3) h dX11_whole_72 (by decide) ?_
    refine g_iconst (v := 1) h dX11_whole_73 (by decide) ?_
    refine g_iconst (v := 2) h dX11_whole_74 (by decide) ?_
    refine g_iconst (v := 3) h dX11_whole_75 (by decide) ?_
    refine g_iload_n h dX11_whole_76 rfl ?_
    obtain ⟨r77, q77, hf⟩ := gbind hf
    refine g_cVr h (qX11_three (a0 := a0) q77) mX11_three lkX11_113 dX11_whole_77 rfl rfl ⟨Nat.zero_le _, Nat.zero_le _⟩ ⟨by decide, by decide⟩ (Nat.le_of_ble_eq_true rfl) [0, 1, 2, 3, 4, 5, 6, 7, 8, 9, 10, 11, 12, 13, 14, 15] rfl rfl 0 rfl rfl ?_
    refine g_lmul h dX11_whole_80 ?_
    refine g_aload_n h dX11_whole_81 rfl ?_
    refine g_iconst (v := 0) h dX11_whole_82 (by decide) ?_
    refine g_iconst (v := 1) h dX11_whole_83 (by decide) ?_
    refine g_iload_n h dX11_whole_84 rfl ?_
    obtain ⟨r85, q85, hf⟩ := gbind hf
    refine g_cVr h (qX11_entry (a0 := a0) q85) mX11_entry lkX11_105 dX11_whole_85 rfl rfl ⟨Nat.zero_le _, Nat.zero_le _⟩ ⟨by decide, by decide⟩ (Nat.le_of_ble_eq_true rfl) [0, 1, 2, 3, 4, 5, 6, 7, 8, 9, 10, 11, 12, 13, 14, 15] rfl rfl 0 rfl rfl ?_
    refine g_aload_n h dX11_whole_88 rfl ?_
    refine g_iconst (v := 1) h dX11_whole_89 (by decide) ?_
    refine g_iconst (v := 2) h dX11_whole_90 (by decide) ?_
    refine g_iconst (v := 3) h dX11_whole_91 (by decide) ?_
    refine g_iconst (v := 0) h dX11_whole_92 (by decide) ?_
    refine g_iconst (v := 2) h dX11_whole_93 (by decide) ?_
    refine g_iconst (v := 3) h dX11_whole_94 (by decide) ?_
    refine g_iload_n h dX11_whole_95 rfl ?_
    obtain ⟨r96, q96, hf⟩ := gbind hf
    refine g_cVr h (qX11_three (a0 := a0) q96) mX11_three lkX11_113 dX11_whole_96 rfl rfl ⟨Nat.zero_le _, Nat.zero_le _⟩ ⟨by decide, by decide⟩ (Nat.le_of_ble_eq_true rfl) [0, 1, 2, 3, 4, 5, 6, 7, 8, 9, 10, 11, 12, 13, 14, 15] rfl rfl 0 rfl rfl ?_
    refine g_lmul h dX11_whole_99 ?_
    refine g_lsub h dX11_whole_100 ?_
    refine g_aload_n h dX11_whole_101 rfl ?_
    refine g_iconst (v := 0) h dX11_whole_102 (by decide) ?_
    refine g_iconst (v := 2) h dX11_whole_103 (by decide) ?_
    refine g_iload_n h dX11_whole_104 rfl ?_
    obtain ⟨r105, q105, hf⟩ := gbind hf
    refine g_cVr h (qX11_entry (a0 := a0) q105) mX11_entry lkX11_105 dX11_whole_105 rfl rfl ⟨Nat.zero_le _, Nat.zero_le _⟩ ⟨by decide, by decide⟩ (Nat.le_of_ble_eq_true rfl) [0, 1, 2, 3, 4, 5, 6, 7, 8, 9, 10, 11, 12, 13, 14, 15] rfl rfl 0 rfl rfl ?_
    refine g_aload_n h dX11_whole_108 rfl ?_
    refine g_iconst (v := 1) h dX11_whole_109 (by decide) ?_
    refine g_iconst (v := 2) h dX11_whole_110 (by decide) ?_
    refine g_iconst (v := 3) h dX11_whole_111 (by decide) ?_
    refine g_iconst (v := 0) h dX11_whole_112 (by decide) ?_
    refine g_iconst (v := 1) h dX11_whole_113 (by decide) ?_
    refine g_iconst (v := 3) h dX11_whole_114 (by decide) ?_
    refine g_iload_n h dX11_whole_115 rfl ?_
    obtain ⟨r116, q116, hf⟩ := gbind hf
    refine g_cVr h (qX11_three (a0 := a0) q116) mX11_three lkX11_113 dX11_whole_116 rfl rfl ⟨Nat.zero_le _, Nat.zero_le _⟩ ⟨by decide, by decide⟩ (Nat.le_of_ble_eq_true rfl) [0, 1, 2, 3, 4, 5, 6, 7, 8, 9, 10, 11, 12, 13, 14, 15] rfl rfl 0 rfl rfl ?_
    refine g_lmul h dX11_whole_119 ?_
    refine g_ladd h dX11_whole_120 ?_
    refine g_aload_n h dX11_whole_121 rfl ?_
    refine g_iconst (v := 0) h dX11_whole_122 (by decide) ?_
    refine g_iconst (v := 3) h dX11_whole_123 (by decide) ?_
    refine g_iload_n h dX11_whole_124 rfl ?_
    obtain ⟨r125, q125, hf⟩ := gbind hf
    refine g_cVr h (qX11_entry (a0 := a0) q125) mX11_entry lkX11_105 dX11_whole_125 rfl rfl ⟨Nat.zero_le _, Nat.zero_le _⟩ ⟨by decide, by decide⟩ (Nat.le_of_ble_eq_true rfl) [0, 1, 2, 3, 4, 5, 6, 7, 8, 9, 10, 11, 12, 13, 14, 15] rfl rfl 0 rfl rfl ?_
    refine g_aload_n h dX11_whole_128 rfl ?_
    refine g_iconst (v := 1) h dX11_whole_129 (by decide) ?_
    refine g_iconst (v := 2) h dX11_whole_130 (by decide) ?_
    refine g_iconst (v := 3) h dX11_whole_131 (by decide) ?_
    refine g_iconst (v := 0) h dX11_whole_132 (by decide) ?_
    refine g_iconst (v := 1) h dX11_whole_133 (by decide) ?_
    refine g_iconst (v := 2) h dX11_whole_134 (by decide) ?_
    refine g_iload_n h dX11_whole_135 rfl ?_
    obtain ⟨r136, q136, hf⟩ := gbind hf
    refine g_cVr h (qX11_three (a0 := a0) q136) mX11_three lkX11_113 dX11_whole_136 rfl rfl ⟨Nat.zero_le _, Nat.zero_le _⟩ ⟨by decide, by decide⟩ (Nat.le_of_ble_eq_true rfl) [0, 1, 2, 3, 4, 5, 6, 7, 8, 9, 10, 11, 12, 13, 14, 15] rfl rfl 0 rfl rfl ?_
    refine g_lmul h dX11_whole_139 ?_
    refine g_lsub h dX11_whole_140 ?_
    have er := Option.some.inj hf
    subst er
    exact g_lreturn h dX11_whole_141 rfl ⟨Nat.zero_le _, Nat.zero_le _, rfl, rfl, rfl⟩
