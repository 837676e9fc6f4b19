def lX11_common_28  (fu : Nat) (v0 : Int64) (v2 : Int64) : Nat → (Int64) → (Int64) → Option (Int64)
  | 0, _, _ => none
  | j + 1, v4, v6 => (if v6 = (0 : Int64) then (some v4) else (if v6 = 0 then none else ((lX11_common_28  fu v0 v2 j) v6 (v4 - v4 / v6 * v6))))
def fX11_common (fu : Nat)  (v0 : Int64) (v2 : Int64) : Option (Int64) := (if (0 : Int64) ≤ v0 then (if (0 : Int64) ≤ v2 then (lX11_common_28  fu v0 v2 fu v0 v2) else (lX11_common_28  fu v0 v2 fu v0 (-v2))) else (if (0 : Int64) ≤ v2 then (lX11_common_28  fu v0 v2 fu (-v0) v2) else (lX11_common_28  fu v0 v2 fu (-v0) (-v2))))
set_option maxHeartbeats 4000000 in
set_option maxRecDepth 100000 in
theorem qX11_common {l : Launch} {E : gE}  {fu : Nat}  {v0 : Int64} {v2 : Int64} {r : Int64} (hf : fX11_common fu  v0 v2 = some r) : CtrF l yX11_common cX11_common 10 (some .long) (gR 0 0) E [.long v0, .long v2] ([]) (some (.long r)) ([]) := by
  refine ctr_of false (plainFor_of_name (by decide)) (Nat.le_of_ble_eq_true rfl) (fun q => by cases q) (fun Γ h => ?_)
  refine g_lv [some _, none, some _, none, _, _, _, _, _, _] rfl ?_
  rw [fX11_common] at hf
  have loop28 : ∀ (j28 : Nat) (v4 : Int64) (v6 : Int64) (o8 : Option Value) (o9 : Option Value), lX11_common_28  fu v0 v2 j28 v4 v6 = some r → Γ 0 0 28 [some (.long v0), none, some (.long v2), none, some (.long v4), none, some (.long v6), none, o8, o9] [] ([]) := by
    intro j28
    induction j28 with
    | zero => intro v4 v6 o8 o9 hf; exact gno hf
    | succ j28 ih28 =>
      intro v4 v6 o8 o9 hf
      rw [lX11_common_28] at hf
      refine g_lload h dX11_common_28 rfl ?_
      refine g_lconst (v := 0) h dX11_common_30 (by decide) ?_
      refine g_lcmp h dX11_common_31 ?_
      refine g_lif_eq h dX11_common_32 rfl (fun c32 => ?_) (fun c32 => ?_)
      · replace hf := ifp_t c32 hf
        refine g_lload h dX11_common_53 rfl ?_
        have er := Option.some.inj hf
        subst er
        exact g_lreturn h dX11_common_55 rfl ⟨Nat.zero_le _, Nat.zero_le _, rfl, rfl, rfl⟩
      · replace hf := ifp_f c32 hf
        refine g_lload h dX11_common_35 rfl ?_
        refine g_lload h dX11_common_37 rfl ?_
        have n39 := gnz hf
        replace hf := gnz2 hf
        refine g_lrem h dX11_common_39 n39 ?_
        refine g_lstore (lv' := [some _, none, some _, none, some _, none, some _, none, some _, none]) h dX11_common_40 (by decide) rfl ?_
        refine g_lload h dX11_common_42 rfl ?_
        refine g_lstore (lv' := [some _, none, some _, none, some _, none, some _, none, some _, none]) h dX11_common_44 (by decide) rfl ?_
        refine g_lload h dX11_common_46 rfl ?_
        refine g_lstore (lv' := [some _, none, some _, none, some _, none, some _, none, some _, none]) h dX11_common_48 (by decide) rfl ?_
        refine g_goto h dX11_common_50 rfl ?_
        exact ih28 _ _ _ _ hf
  refine g_lload_n h dX11_common_0 rfl ?_
  refine g_lconst (v := 0) h dX11_common_1 (by decide) ?_
  refine g_lcmp h dX11_common_2 ?_
  refine g_lif_ge h dX11_common_3 rfl (fun c3 => ?_) (fun c3 => ?_)
  · replace hf := ifp_t c3 hf
    refine g_lload_n h dX11_common_11 rfl ?_
    refine g_lstore (lv' := [some _, none, some _, none, some _, none, _, _, _, _]) h dX11_common_12 (by decide) rfl ?_
    refine g_lload_n h dX11_common_14 rfl ?_
    refine g_lconst (v := 0) h dX11_common_15 (by decide) ?_
    refine g_lcmp h dX11_common_16 ?_
    refine g_lif_ge h dX11_common_17 rfl (fun c17 => ?_) (fun c17 => ?_)
    · replace hf := ifp_t c17 hf
      refine g_lload_n h dX11_common_25 rfl ?_
      refine g_lstore (lv' := [some _, none, some _, none, some _, none, some _, none, _, _]) h dX11_common_26 (by decide) rfl ?_
      exact loop28 _ _ _ _ _ hf
    · replace hf := ifp_f c17 hf
      refine g_lload_n h dX11_common_20 rfl ?_
      refine g_lneg h dX11_common_21 ?_
      refine g_goto h dX11_common_22 rfl ?_
      refine g_lstore (lv' := [some _, none, some _, none, some _, none, some _, none, _, _]) h dX11_common_26 (by decide) rfl ?_
      exact loop28 _ _ _ _ _ hf
  · replace hf := ifp_f c3 hf
    refine g_lload_n h dX11_common_6 rfl ?_
    refine g_lneg h dX11_common_7 ?_
    refine g_goto h dX11_common_8 rfl ?_
    refine g_lstore (lv' := [some _, none, some _, none, some _, none, _, _, _, _]) h dX11_common_12 (by decide) rfl ?_
    refine g_lload_n h dX11_common_14 rfl ?_
    refine g_lconst (v := 0) h dX11_common_15 (by decide) ?_
    refine g_lcmp h dX11_common_16 ?_
    refine g_lif_ge h dX11_common_17 rfl (fun c17 => ?_) (fun c17 => ?_)
    · replace hf := ifp_t c17 hf
      refine g_lload_n h dX11_common_25 rfl ?_
      refine g_lstore (lv' := [some _, none, some _, none, some _, none, some _, none, _, _]) h dX11_common_26 (by decide) rfl ?_
      exact loop28 _ _ _ _ _ hf
    · replace hf := ifp_f c17 hf
      refine g_lload_n h dX11_common_20 rfl ?_
      refine g_lneg h dX11_common_21 ?_
      refine g_goto h dX11_common_22 rfl ?_
      refine g_lstore (lv' := [some _, none, some _, none, some _, none, some _, none, _, _]) h dX11_common_26 (by decide) rfl ?_
      exact loop28 _ _ _ _ _ hf
def fX11_part (fu : Nat)  (v0 : Int64) (v2 : Int64) (v4 : Bool) : Option (Int64) := ((fX11_common fu v0 v2).bind fun r2 => (if v4 = true then (if r2 = 0 then none else (some (v2 / r2))) else (if r2 = 0 then none else (some (v0 / r2)))))
set_option maxHeartbeats 4000000 in
set_option maxRecDepth 100000 in
theorem qX11_part {l : Launch} {E : gE}  {fu : Nat}  {v0 : Int64} {v2 : Int64} {v4 : Bool} {r : Int64} (hf : fX11_part fu  v0 v2 v4 = some r) : CtrF l yX11_part cX11_part 7 (some .long) (gR 1 29) E [.long v0, .long v2, .int (bI v4)] ([]) (some (.long r)) ([]) := by
  refine ctr_of false (plainFor_of_name (by decide)) (Nat.le_of_ble_eq_true rfl) (fun q => by cases q) (fun Γ h => ?_)
  refine g_lv [some _, none, some _, none, some _, _, _] rfl ?_
  rw [fX11_part] at hf
  refine g_lload_n h dX11_part_0 rfl ?_
  refine g_lload_n h dX11_part_1 rfl ?_
  obtain ⟨r2, q2, hf⟩ := gbind hf
  refine g_cSr h (qX11_common q2) mX11_common lkX11_125 dX11_part_2 rfl rfl ⟨Nat.zero_le _, Nat.zero_le _⟩ ⟨by decide, by decide⟩ (Nat.le_of_ble_eq_true rfl) [] rfl rfl ?_
  refine g_lstore (lv' := [some _, none, some _, none, some _, some _, none]) h dX11_part_5 (by decide) rfl ?_
  refine g_iload h dX11_part_7 rfl ?_
  refine g_ifb_eq h dX11_part_9 rfl (fun c9 => ?_) (fun c9 => ?_)
  · replace hf := ifb_f c9 hf
    refine g_lload_n h dX11_part_19 rfl ?_
    refine g_lload h dX11_part_20 rfl ?_
    have n22 := gnz hf
    replace hf := gnz2 hf
    refine g_ldiv h dX11_part_22 n22 ?_
    have er := Option.some.inj hf
    subst er
    exact g_lreturn h dX11_part_23 rfl ⟨Nat.zero_le _, Nat.zero_le _, rfl, rfl, rfl⟩
  · replace hf := ifb_t c9 hf
    refine g_lload_n h dX11_part_12 rfl ?_
    refine g_lload h dX11_part_13 rfl ?_
    have n15 := gnz hf
    replace hf := gnz2 hf
    refine g_ldiv h dX11_part_15 n15 ?_
    refine g_goto h dX11_part_16 rfl ?_
    have er := Option.some.inj hf
    subst er
    exact g_lreturn h dX11_part_23 rfl ⟨Nat.zero_le _, Nat.zero_le _, rfl, rfl, rfl⟩
def jX11_compare_86  (fu : Nat) (v0 : Int64) (v2 : Int64) (v4 : Int64) (v6 : Int64) (v20 : Int64) (v22 : Int64) : Option (Int32) := (if v20 = v22 then (some (0 : Int32)) else (if v20 = (0 : Int64) then (some (-1 : Int32)) else (some (1 : Int32))))
def lX11_compare_14  (fu : Nat) (v0 : Int64) (v2 : Int64) (v4 : Int64) (v6 : Int64) : Nat → (Int64) → (Int64) → (Int64) → (Int64) → Option (Int32)
  | 0, _, _, _, _ => none
  | j + 1, v8, v10, v12, v14 => ((fJ9_floorDiv_f86c9 v8 v10).bind fun r18 => ((fJ9_floorDiv_f86c9 v12 v14).bind fun r27 => (if r18 = r27 then ((fJ9_floorMod_f86c9 v8 v10).bind fun r58 => ((fJ9_floorMod_f86c9 v12 v14).bind fun r67 => (if r58 = (0 : Int64) then (jX11_compare_86  fu v0 v2 v4 v6 r58 r67) else (if r67 = (0 : Int64) then (jX11_compare_86  fu v0 v2 v4 v6 r58 r67) else ((lX11_compare_14  fu v0 v2 v4 v6 j) v14 r67 v10 r58))))) else (if r27 ≤ r18 then (some (1 : Int32)) else (some (-1 : Int32))))))
def fX11_compare (fu : Nat)  (v0 : Int64) (v2 : Int64) (v4 : Int64) (v6 : Int64) : Option (Int32) := (lX11_compare_14  fu v0 v2 v4 v6 fu v0 v2 v4 v6)
set_option maxHeartbeats 4000000 in
set_option maxRecDepth 100000 in
theorem qX11_compare {l : Launch} {E : gE}  {fu : Nat}  {v0 : Int64} {v2 : Int64} {v4 : Int64} {v6 : Int64} {r : Int32} (hf : fX11_compare fu  v0 v2 v4 v6 = some r) : CtrF l yX11_compare cX11_compare 24 (some .int) (gR 1 25) E [.long v0, .long v2, .long v4, .long v6] ([]) (some (.int r)) ([]) := by
  refine ctr_of false (plainFor_of_name (by decide)) (Nat.le_of_ble_eq_true rfl) (fun q => by cases q) (fun Γ h => ?_)
  refine g_lv [some _, none, some _, none, some _, none, some _, none, _, _, _, _, _, _, _, _, _, _, _, _, _, _, _, _] rfl ?_
  rw [fX11_compare] at hf
  have jn86 : ∀ (v20 : Int64) (v22 : Int64) (o8 : Option Value) (o9 : Option Value) (o10 : Option Value) (o11 : Option Value) (o12 : Option Value) (o13 : Option Value) (o14 : Option Value) (o15 : Option Value) (o16 : Option Value) (o17 : Option Value) (o18 : Option Value) (o19 : Option Value), jX11_compare_86  fu v0 v2 v4 v6 v20 v22 = some r → Γ 0 0 86 [some (.long v0), none, some (.long v2), none, some (.long v4), none, some (.long v6), none, o8, o9, o10, o11, o12, o13, o14, o15, o16, o17, o18, o19, some (.long v20), none, some (.long v22), none] [] ([]) := by
    intro v20 v22 o8 o9 o10 o11 o12 o13 o14 o15 o16 o17 o18 o19 hf
    rw [jX11_compare_86] at hf
    refine g_lload h dX11_compare_86 rfl ?_
    refine g_lload h dX11_compare_88 rfl ?_
    refine g_lcmp h dX11_compare_90 ?_
    refine g_lif_ne h dX11_compare_91 rfl (fun c91 => ?_) (fun c91 => ?_)
    · replace hf := ifp_f c91 hf
      refine g_lload h dX11_compare_98 rfl ?_
      refine g_lconst (v := 0) h dX11_compare_100 (by decide) ?_
      refine g_lcmp h dX11_compare_101 ?_
      refine g_lif_ne h dX11_compare_102 rfl (fun c102 => ?_) (fun c102 => ?_)
      · replace hf := ifp_f c102 hf
        refine g_iconst (v := 1) h dX11_compare_109 (by decide) ?_
        have er := Option.some.inj hf
        subst er
        exact g_ireturn h dX11_compare_110 rfl rfl ⟨Nat.zero_le _, Nat.zero_le _, rfl, rfl, rfl⟩
      · replace hf := ifp_t c102 hf
        refine g_iconst (v := (-1)) h dX11_compare_105 (by decide) ?_
        refine g_goto h dX11_compare_106 rfl ?_
        have er := Option.some.inj hf
        subst er
        exact g_ireturn h dX11_compare_110 rfl rfl ⟨Nat.zero_le _, Nat.zero_le _, rfl, rfl, rfl⟩
    · replace hf := ifp_t c91 hf
      refine g_iconst (v := 0) h dX11_compare_94 (by decide) ?_
      refine g_goto h dX11_compare_95 rfl ?_
      have er := Option.some.inj hf
      subst er
      exact g_ireturn h dX11_compare_110 rfl rfl ⟨Nat.zero_le _, Nat.zero_le _, rfl, rfl, rfl⟩
  have loop14 : ∀ (j14 : Nat) (v8 : Int64) (v10 : Int64) (v12 : Int64) (v14 : Int64) (o16 : Option Value) (o17 : Option Value) (o18 : Option Value) (o19 : Option Value) (o20 : Option Value) (o21 : Option Value) (o22 : Option Value) (o23 : Option Value), lX11_compare_14  fu v0 v2 v4 v6 j14 v8 v10 v12 v14 = some r → Γ 0 0 14 [some (.long v0), none, some (.long v2), none, some (.long v4), none, some (.long v6), none, some (.long v8), none, some (.long v10), none, some (.long v12), none, some (.long v14), none, o16, o17, o18, o19, o20, o21, o22, o23] [] ([]) := by
    intro j14
    induction j14 with
    | zero => intro v8 v10 v12 v14 o16 o17 o18 o19 o20 o21 o22 o23 hf; exact gno hf
    | succ j14 ih14 =>
      intro v8 v10 v12 v14 o16 o17 o18 o19 o20 o21 o22 o23 hf
      rw [lX11_compare_14] at hf
      refine g_lload h dX11_compare_14 rfl ?_
      refine g_lload h dX11_compare_16 rfl ?_
      obtain ⟨r18, q18, hf⟩ := gbind hf
      refine g_cSr h (qJ9_floorDiv_f86c9 q18) mJ9_floorDiv_f86c9 lkX11_129 dX11_compare_18 rfl rfl ⟨Nat.zero_le _, Nat.zero_le _⟩ ⟨by decide, by decide⟩ (Nat.le_of_ble_eq_true rfl) [] rfl rfl ?_
      refine g_lstore (lv' := [some _, none, some _, none, some _, none, some _, none, some _, none, some _, none, some _, none, some _, none, some _, none, _, _, _, _, _, _]) h dX11_compare_21 (by decide) rfl ?_
      refine g_lload h dX11_compare_23 rfl ?_
      refine g_lload h dX11_compare_25 rfl ?_
      obtain ⟨r27, q27, hf⟩ := gbind hf
      refine g_cSr h (qJ9_floorDiv_f86c9 q27) mJ9_floorDiv_f86c9 lkX11_129 dX11_compare_27 rfl rfl ⟨Nat.zero_le _, Nat.zero_le _⟩ ⟨by decide, by decide⟩ (Nat.le_of_ble_eq_true rfl) [] rfl rfl ?_
      refine g_lstore (lv' := [some _, none, some _, none, some _, none, some _, none, some _, none, some _, none, some _, none, some _, none, some _, none, some _, none, _, _, _, _]) h dX11_compare_30 (by decide) rfl ?_
      refine g_lload h dX11_compare_32 rfl ?_
      refine g_lload h dX11_compare_34 rfl ?_
      refine g_lcmp h dX11_compare_36 ?_
      refine g_lif_eq h dX11_compare_37 rfl (fun c37 => ?_) (fun c37 => ?_)
      · replace hf := ifp_t c37 hf
        refine g_lload h dX11_compare_54 rfl ?_
        refine g_lload h dX11_compare_56 rfl ?_
        obtain ⟨r58, q58, hf⟩ := gbind hf
        refine g_cSr h (qJ9_floorMod_f86c9 q58) mJ9_floorMod_f86c9 lkX11_134 dX11_compare_58 rfl rfl ⟨Nat.zero_le _, Nat.zero_le _⟩ ⟨by decide, by decide⟩ (Nat.le_of_ble_eq_true rfl) [] rfl rfl ?_
        refine g_lstore (lv' := [some _, none, some _, none, some _, none, some _, none, some _, none, some _, none, some _, none, some _, none, some _, none, some _, none, some _, none, _, _]) h dX11_compare_61 (by decide) rfl ?_
        refine g_lload h dX11_compare_63 rfl ?_
        refine g_lload h dX11_compare_65 rfl ?_
        obtain ⟨r67, q67, hf⟩ := gbind hf
        refine g_cSr h (qJ9_floorMod_f86c9 q67) mJ9_floorMod_f86c9 lkX11_134 dX11_compare_67 rfl rfl ⟨Nat.zero_le _, Nat.zero_le _⟩ ⟨by decide, by decide⟩ (Nat.le_of_ble_eq_true rfl) [] rfl rfl ?_
        refine g_lstore (lv' := [some _, none, some _, none, some _, none, some _, none, some _, none, some _, none, some _, none, some _, none, some _, none, some _, none, some _, none, some _, none]) h dX11_compare_70 (by decide) rfl ?_
        refine g_lload h dX11_compare_72 rfl ?_
        refine g_lconst (v := 0) h dX11_compare_74 (by decide) ?_
        refine g_lcmp h dX11_compare_75 ?_
        refine g_lif_eq h dX11_compare_76 rfl (fun c76 => ?_) (fun c76 => ?_)
        · replace hf := ifp_t c76 hf
          exact jn86 _ _ _ _ _ _ _ _ _ _ _ _ _ _ hf
        · replace hf := ifp_f c76 hf
          refine g_lload h dX11_compare_79 rfl ?_
          refine g_lconst (v := 0) h dX11_compare_81 (by decide) ?_
          refine g_lcmp h dX11_compare_82 ?_
          refine g_lif_ne h dX11_compare_83 rfl (fun c83 => ?_) (fun c83 => ?_)
          · replace hf := ifp_f c83 hf
            refine g_lload h dX11_compare_111 rfl ?_
            refine g_lstore (lv' := [some _, none, some _, none, some _, none, some _, none, some _, none, some _, none, some _, none, some _, none, some _, none, some _, none, some _, none, some _, none]) h dX11_compare_113 (by decide) rfl ?_
            refine g_lload h dX11_compare_115 rfl ?_
            refine g_lstore (lv' := [some _, none, some _, none, some _, none, some _, none, some _, none, some _, none, some _, none, some _, none, some _, none, some _, none, some _, none, some _, none]) h dX11_compare_117 (by decide) rfl ?_
            refine g_lload h dX11_compare_119 rfl ?_
            refine g_lstore (lv' := [some _, none, some _, none, some _, none, some _, none, some _, none, some _, none, some _, none, some _, none, some _, none, some _, none, some _, none, some _, none]) h dX11_compare_121 (by decide) rfl ?_
            refine g_lload h dX11_compare_123 rfl ?_
            refine g_lstore (lv' := [some _, none, some _, none, some _, none, some _, none, some _, none, some _, none, some _, none, some _, none, some _, none, some _, none, some _, none, some _, none]) h dX11_compare_125 (by decide) rfl ?_
            refine g_goto h dX11_compare_127 rfl ?_
            exact ih14 _ _ _ _ _ _ _ _ _ _ _ _ hf
          · replace hf := ifp_t c83 hf
            exact jn86 _ _ _ _ _ _ _ _ _ _ _ _ _ _ hf
      · replace hf := ifp_f c37 hf
        refine g_lload h dX11_compare_40 rfl ?_
        refine g_lload h dX11_compare_42 rfl ?_
        refine g_lcmp h dX11_compare_44 ?_
        refine g_lif_ge h dX11_compare_45 rfl (fun c45 => ?_) (fun c45 => ?_)
        · replace hf := ifp_t c45 hf
          refine g_iconst (v := 1) h dX11_compare_52 (by decide) ?_
          have er := Option.some.inj hf
          subst er
          exact g_ireturn h dX11_compare_53 rfl rfl ⟨Nat.zero_le _, Nat.zero_le _, rfl, rfl, rfl⟩
        · replace hf := ifp_f c45 hf
          refine g_iconst (v := (-1)) h dX11_compare_48 (by decide) ?_
          refine g_goto h dX11_compare_49 rfl ?_
          have er := Option.some.inj hf
          subst er
          exact g_ireturn h dX11_compare_53 rfl rfl ⟨Nat.zero_le _, Nat.zero_le _, rfl, rfl, rfl⟩
  refine g_lload_n h dX11_compare_0 rfl ?_
  refine g_lstore (lv' := [some _, none, some _, none, some _, none, some _, none, some _, none, _, _, _, _, _, _, _, _, _, _, _, _, _, _]) h dX11_compare_1 (by decide) rfl ?_
  refine g_lload_n h dX11_compare_3 rfl ?_
  refine g_lstore (lv' := [some _, none, some _, none, some _, none, some _, none, some _, none, some _, none, _, _, _, _, _, _, _, _, _, _, _, _]) h dX11_compare_4 (by decide) rfl ?_
  refine g_lload h dX11_compare_6 rfl ?_
  refine g_lstore (lv' := [some _, none, some _, none, some _, none, some _, none, some _, none, some _, none, some _, none, _, _, _, _, _, _, _, _, _, _]) h dX11_compare_8 (by decide) rfl ?_
  refine g_lload h dX11_compare_10 rfl ?_
  refine g_lstore (lv' := [some _, none, some _, none, some _, none, some _, none, some _, none, some _, none, some _, none, some _, none, _, _, _, _, _, _, _, _]) h dX11_compare_12 (by decide) rfl ?_
  exact loop14 _ _ _ _ _ _ _ _ _ _ _ _ _ hf
def lX11_becomesFound_33  (fu : Nat) (v1 : Int32) : Nat → (Int32) → (gS) → Option (gS)
  | 0, _, _ => none
  | j + 1, v2, S0 => (if (iF S0 20) ≤ v2 then ((fX11_sumLeft fu S0).bind fun r73 => ((some (sL S0 19 r73)).bind fun S0x76 => (some S0x76))) else ((gIx v2 4).bind fun k51 => ((some (sAu S0 16 k51 ((iA S0 21) k51))).bind fun S0x52 => ((some (sBu S0x52 17 k51 ((lA S0x52 24) k51))).bind fun S0x64 => ((lX11_becomesFound_33  fu v1 j) (v2 + 1) S0x64)))))
def fX11_becomesFound (fu : Nat) (S0 : gS) (v1 : Int32) : Option (gS) := ((some (sI S0 12 (1 : Int32))).bind fun S0x2 => ((some (sI S0x2 13 (0 : Int32))).bind fun S0x7 => ((some (sI S0x7 14 v1)).bind fun S0x12 => ((some (sI S0x12 15 (iF S0x12 20))).bind fun S0x20 => ((some (sL S0x20 18 (lF S0x20 25))).bind fun S0x28 => (lX11_becomesFound_33  fu v1 fu (0 : Int32) S0x28))))))
set_option maxHeartbeats 4000000 in
set_option maxRecDepth 100000 in
theorem qX11_becomesFound {l : Launch} {E : gE} {a0 : Nat → Nat} {fu : Nat} {S0 : gS} {v1 : Int32} {r : gS} (hf : fX11_becomesFound fu S0 v1 = some r) : CtrF l yX11_becomesFound cX11_becomesFound 3 none (gR 1 25) E [.ref (a0 0), .int v1] (wRf E a0 S0) none (wRf E a0 r) := by
  refine ctr_of false (plainFor_of_name (by decide)) (Nat.le_of_ble_eq_true rfl) (fun q => by cases q) (fun Γ h => ?_)
  refine g_lv [some _, some _, _] rfl ?_
  rw [fX11_becomesFound] at hf
  have loop33 : ∀ (j33 : Nat) (v2 : Int32) (S0 : gS) , lX11_becomesFound_33  fu v1 j33 v2 S0 = some r → Γ 0 0 33 [some (.ref (a0 0)), some (.int v1), some (.int v2)] [] (wRf E a0 S0) := by
    intro j33
    induction j33 with
    | zero => intro v2 S0 hf; exact gno hf
    | succ j33 ih33 =>
      intro v2 S0 hf
      rw [lX11_becomesFound_33] at hf
      refine g_iload_n h dX11_becomesFound_33 rfl ?_
      refine g_aload_n h dX11_becomesFound_34 rfl ?_
      refine g_get h flX11_101 dX11_becomesFound_35 0 rfl rfl ?_
      refine g_ic_ge h dX11_becomesFound_38 rfl (fun c38 => ?_) (fun c38 => ?_)
      · replace hf := ifp_t c38 hf
        refine g_aload_n h dX11_becomesFound_71 rfl ?_
        refine g_aload_n h dX11_becomesFound_72 rfl ?_
        obtain ⟨r73, q73, hf⟩ := gbind hf
        refine g_cVr h (qX11_sumLeft (a0 := a0) q73) mX11_sumLeft lkX11_149 dX11_becomesFound_73 rfl rfl ⟨Nat.zero_le _, Nat.zero_le _⟩ ⟨by decide, by decide⟩ (Nat.le_of_ble_eq_true rfl) [0, 1, 2, 3, 4, 5, 6, 7, 8, 9, 10, 11, 12, 13, 14, 15] rfl rfl 0 rfl rfl ?_
        obtain ⟨S0x76, q76, hf⟩ := gbind hf
        refine g_put (ws' := wRf E a0 S0x76) (ty := .long) h flX11_153 gftX11 rfl (by decide +kernel) dX11_becomesFound_76 0 rfl rfl rfl (Nat.le_of_ble_eq_true rfl) (by cases q76; rfl) ?_
        have er := Option.some.inj hf
        subst er
        exact g_return h dX11_becomesFound_79 rfl ⟨Nat.zero_le _, Nat.zero_le _, rfl, rfl, rfl⟩
      · replace hf := ifp_f c38 hf
        refine g_aload_n h dX11_becomesFound_41 rfl ?_
        refine g_get h flX11_35 dX11_becomesFound_42 0 rfl rfl ?_
        refine g_iload_n h dX11_becomesFound_45 rfl ?_
        refine g_aload_n h dX11_becomesFound_46 rfl ?_
        refine g_get h flX11_41 dX11_becomesFound_47 0 rfl rfl ?_
        refine g_iload_n h dX11_becomesFound_50 rfl ?_
        obtain ⟨k51, q51, hf⟩ := gbind hf
        have e51 := (gIx_s q51).1
        have b51 := (gIx_s q51).2
        refine g_iald h dX11_becomesFound_51 11 k51 rfl e51 b51 (by decide) ?_
        obtain ⟨S0x52, w52, hf⟩ := gbind hf
        refine g_iast (ws' := wRf E a0 S0x52) h dX11_becomesFound_52 9 k51 rfl e51 b51 (by decide) (by cases w52; rfl) ?_
        refine g_aload_n h dX11_becomesFound_53 rfl ?_
        refine g_get h flX11_38 dX11_becomesFound_54 0 rfl rfl ?_
        refine g_iload_n h dX11_becomesFound_57 rfl ?_
        refine g_aload_n h dX11_becomesFound_58 rfl ?_
        refine g_get h flX11_50 dX11_becomesFound_59 0 rfl rfl ?_
        refine g_iload_n h dX11_becomesFound_62 rfl ?_
        refine g_lald h dX11_becomesFound_63 14 k51 rfl e51 b51 (by decide) ?_
        obtain ⟨S0x64, w64, hf⟩ := gbind hf
        refine g_last (ws' := wRf E a0 S0x64) h dX11_becomesFound_64 10 k51 rfl e51 b51 (by decide) (by cases w64; rfl) ?_
        refine g_iinc (v := (v2 + 1)) (lv' := [some _, some _, some _]) h dX11_becomesFound_65 rfl rfl (by decide) rfl ?_
        refine g_goto h dX11_becomesFound_68 rfl ?_
        exact ih33 _ _ hf
  refine g_aload_n h dX11_becomesFound_0 rfl ?_
  refine g_iconst (v := 1) h dX11_becomesFound_1 (by decide) ?_
  obtain ⟨S0x2, q2, hf⟩ := gbind hf
  refine g_put (ws' := wRf E a0 S0x2) (ty := .boolean) h flX11_137 gftX11 rfl (by decide +kernel) dX11_becomesFound_2 0 rfl rfl rfl (Nat.le_of_ble_eq_true rfl) (by cases q2; rfl) ?_
  refine g_aload_n h dX11_becomesFound_5 rfl ?_
  refine g_iconst (v := 0) h dX11_becomesFound_6 (by decide) ?_
  obtain ⟨S0x7, q7, hf⟩ := gbind hf
  refine g_put (ws' := wRf E a0 S0x7) (ty := .boolean) h flX11_70 gftX11 rfl (by decide +kernel) dX11_becomesFound_7 0 rfl rfl rfl (Nat.le_of_ble_eq_true rfl) (by cases q7; rfl) ?_
  refine g_aload_n h dX11_becomesFound_10 rfl ?_
  refine g_iload_n h dX11_becomesFound_11 rfl ?_
  obtain ⟨S0x12, q12, hf⟩ := gbind hf
  refine g_put (ws' := wRf E a0 S0x12) (ty := .int) h flX11_140 gftX11 rfl (by decide +kernel) dX11_becomesFound_12 0 rfl rfl rfl (Nat.le_of_ble_eq_true rfl) (by cases q12; rfl) ?_
  refine g_aload_n h dX11_becomesFound_15 rfl ?_
  refine g_aload_n h dX11_becomesFound_16 rfl ?_
  refine g_get h flX11_101 dX11_becomesFound_17 0 rfl rfl ?_
  obtain ⟨S0x20, q20, hf⟩ := gbind hf
  refine g_put (ws' := wRf E a0 S0x20) (ty := .int) h flX11_143 gftX11 rfl (by decide +kernel) dX11_becomesFound_20 0 rfl rfl rfl (Nat.le_of_ble_eq_true rfl) (by cases q20; rfl) ?_
  refine g_aload_n h dX11_becomesFound_23 rfl ?_
  refine g_aload_n h dX11_becomesFound_24 rfl ?_
  refine g_get h flX11_121 dX11_becomesFound_25 0 rfl rfl ?_
  obtain ⟨S0x28, q28, hf⟩ := gbind hf
  refine g_put (ws' := wRf E a0 S0x28) (ty := .long) h flX11_146 gftX11 rfl (by decide +kernel) dX11_becomesFound_28 0 rfl rfl rfl (Nat.le_of_ble_eq_true rfl) (by cases q28; rfl) ?_
  refine g_iconst (v := 0) h dX11_becomesFound_31 (by decide) ?_
  refine g_istore_n (lv' := [some _, some _, some _]) h dX11_becomesFound_32 (by decide) rfl ?_
  exact loop33 _ _ _  hf
def lX11_bits_4  (fu : Nat) (v0 : Int32) : Nat → (Int32) → (Int32) → Option (Int32)
  | 0, _, _ => none
  | j + 1, v1, v2 => (if (32 : Int32) ≤ v2 then (some v1) else ((lX11_bits_4  fu v0 j) (v1 + (((v0.toUInt32 >>> (v2.toUInt32 &&& Int32.toUInt32 31)).toInt32) &&& (1 : Int32))) (v2 + 1)))
def fX11_bits (fu : Nat)  (v0 : Int32) : Option (Int32) := (lX11_bits_4  fu v0 fu (0 : Int32) (0 : Int32))
set_option maxHeartbeats 4000000 in
set_option maxRecDepth 100000 in
theorem qX11_bits {l : Launch} {E : gE}  {fu : Nat}  {v0 : Int32} {r : Int32} (hf : fX11_bits fu  v0 = some r) : CtrF l yX11_bits cX11_bits 3 (some .int) (gR 0 0) E [.int v0] ([]) (some (.int r)) ([]) := by
  refine ctr_of false (plainFor_of_name (by decide)) (Nat.le_of_ble_eq_true rfl) (fun q => by cases q) (fun Γ h => ?_)
  refine g_lv [some _, _, _] rfl ?_
  rw [fX11_bits] at hf
  have loop4 : ∀ (j4 : Nat) (v1 : Int32) (v2 : Int32) , lX11_bits_4  fu v0 j4 v1 v2 = some r → Γ 0 0 4 [some (.int v0), some (.int v1), some (.int v2)] [] ([]) := by
    intro j4
    induction j4 with
    | zero => intro v1 v2 hf; exact gno hf
    | succ j4 ih4 =>
      intro v1 v2 hf
      rw [lX11_bits_4] at hf
      refine g_iload_n h dX11_bits_4 rfl ?_
      refine g_bipush (v := 32) h dX11_bits_5 (by decide) ?_
      refine g_ic_ge h dX11_bits_7 rfl (fun c7 => ?_) (fun c7 => ?_)
      · replace hf := ifp_t c7 hf
        refine g_iload_n h dX11_bits_24 rfl ?_
        have er := Option.some.inj hf
        subst er
        exact g_ireturn h dX11_bits_25 rfl rfl ⟨Nat.zero_le _, Nat.zero_le _, rfl, rfl, rfl⟩
      · replace hf := ifp_f c7 hf
        refine g_iload_n h dX11_bits_10 rfl ?_
        refine g_iload_n h dX11_bits_11 rfl ?_
        refine g_iload_n h dX11_bits_12 rfl ?_
        refine g_iushr h dX11_bits_13 ?_
        refine g_iconst (v := 1) h dX11_bits_14 (by decide) ?_
        refine g_iand h dX11_bits_15 ?_
        refine g_iadd h dX11_bits_16 ?_
        refine g_istore_n (lv' := [some _, some _, some _]) h dX11_bits_17 (by decide) rfl ?_
        refine g_iinc (v := (v2 + 1)) (lv' := [some _, some _, some _]) h dX11_bits_18 rfl rfl (by decide) rfl ?_
        refine g_goto h dX11_bits_21 rfl ?_
        exact ih4 _ _ hf
  refine g_iconst (v := 0) h dX11_bits_0 (by decide) ?_
  refine g_istore_n (lv' := [some _, some _, _]) h dX11_bits_1 (by decide) rfl ?_
  refine g_iconst (v := 0) h dX11_bits_2 (by decide) ?_
  refine g_istore_n (lv' := [some _, some _, some _]) h dX11_bits_3 (by decide) rfl ?_
  exact loop4 _ _ _  hf
def lX11_find_70  (fu : Nat) (v1 : Int32) : Nat → (Int32) → (Int32) → (gS) → Option (Int64 × gS)
  | 0, _, _, _ => none
  | j + 1, v2, v3, S0 => (if (iF S0 20) ≤ v3 then ((fX11_tellFinding fu S0 (-9000000000000000006 : Int64)).bind fun r118 => (some (r118.1, r118.2))) else ((fX11_rank fu S0 v3).bind fun r85 => (if r85.1 = v2 then ((gIx v3 4).bind fun k98 => ((some (sL r85.2 11 ((lF S0 11) ||| ((1 : Int64) <<< (((iA r85.2 21) k98).toInt64 &&& 63))))).bind fun S0x105 => ((lX11_find_70  fu v1 j) v2 (v3 + 1) S0x105))) else ((some (sL r85.2 11 ((lF S0 11) ||| (0 : Int64)))).bind fun S0x105 => ((lX11_find_70  fu v1 j) v2 (v3 + 1) S0x105)))))
def fX11_find (fu : Nat) (S0 : gS) (v1 : Int32) : Option (Int64 × gS) := (if v1 < (1 : Int32) then ((fX11_tellFinding fu S0 (-9000000000000000001 : Int64)).bind fun r29 => (some (r29.1, r29.2))) else (if ((1 : Int32) <<< (((iA S0 0) 0) &&& 31)) ≤ v1 then ((fX11_tellFinding fu S0 (-9000000000000000001 : Int64)).bind fun r29 => (some (r29.1, r29.2))) else ((fX11_bits fu v1).bind fun r18 => (if r18 ≤ (4 : Int32) then ((fX11_takeModel fu S0 v1).bind fun r35 => ((fX11_solve fu r35 (-1 : Int32)).bind fun r40 => (if r40.1 = true then ((fX11_becomesFound fu r40.2 v1).bind fun r48 => (some (((iF r48 20).toInt64), r48))) else ((some (sL r40.2 11 (0 : Int64))).bind fun S0x59 => ((fX11_rank fu S0x59 (-1 : Int32)).bind fun r64 => (lX11_find_70  fu v1 fu r64.1 (0 : Int32) r64.2)))))) else ((fX11_tellFinding fu S0 (-9000000000000000001 : Int64)).bind fun r29 => (some (r29.1, r29.2)))))))
set_option maxHeartbeats 4000000 in
set_option maxRecDepth 100000 in
theorem qX11_find {l : Launch} {E : gE} {a0 : Nat → Nat} {fu : Nat} {S0 : gS} {v1 : Int32} {r : Int64 × gS} (hf : fX11_find fu S0 v1 = some r) : CtrF l yX11_find cX11_find 4 (some .long) (gR 5 123) E [.ref (a0 0), .int v1] (wRf E a0 S0) (some (.long r.1)) (wRf E a0 r.2) := by
  refine ctr_of false (plainFor_of_name (by decide)) (Nat.le_of_ble_eq_true rfl) (fun q => by cases q) (fun Γ h => ?_)
  refine g_lv [some _, some _, _, _] rfl ?_
  rw [fX11_find] at hf
  have loop70 : ∀ (j70 : Nat) (v2 : Int32) (v3 : Int32) (S0 : gS) , lX11_find_70  fu v1 j70 v2 v3 S0 = some r → Γ 0 0 70 [some (.ref (a0 0)), some (.int v1), some (.int v2), some (.int v3)] [] (wRf E a0 S0) := by
    intro j70
    induction j70 with
    | zero => intro v2 v3 S0 hf; exact gno hf
    | succ j70 ih70 =>
      intro v2 v3 S0 hf
      rw [lX11_find_70] at hf
      refine g_iload_n h dX11_find_70 rfl ?_
      refine g_aload_n h dX11_find_71 rfl ?_
      refine g_get h flX11_101 dX11_find_72 0 rfl rfl ?_
      refine g_ic_ge h dX11_find_75 rfl (fun c75 => ?_) (fun c75 => ?_)
      · replace hf := ifp_t c75 hf
        refine g_aload_n h dX11_find_114 rfl ?_
        refine g_ldc2 (v := (-9000000000000000006)) h dX11_find_115 gcX11_176 ?_
        obtain ⟨r118, q118, hf⟩ := gbind hf
        refine g_cVw (ws' := wRf E a0 r118.2) h (qX11_tellFinding (a0 := a0) q118) mX11_tellFinding lkX11_64 dX11_find_118 rfl rfl ⟨Nat.zero_le _, Nat.zero_le _⟩ ⟨by decide, by decide⟩ (Nat.le_of_ble_eq_true rfl) [0, 1, 2, 3, 4, 5, 6, 7, 8, 9, 10, 11, 12, 13, 14, 15] rfl rfl 0 rfl rfl mgX11_20 ?_
        have er := Option.some.inj hf
        subst er
        exact g_lreturn h dX11_find_121 rfl ⟨Nat.zero_le _, Nat.zero_le _, rfl, rfl, rfl⟩
      · replace hf := ifp_f c75 hf
        refine g_aload_n h dX11_find_78 rfl ?_
        refine g_dup h dX11_find_79 rfl ?_
        refine g_get h flX11_170 dX11_find_80 0 rfl rfl ?_
        refine g_aload_n h dX11_find_83 rfl ?_
        refine g_iload_n h dX11_find_84 rfl ?_
        obtain ⟨r85, q85, hf⟩ := gbind hf
        refine g_cVw (ws' := wRf E a0 r85.2) h (qX11_rank (a0 := a0) q85) mX11_rank lkX11_173 dX11_find_85 rfl rfl ⟨Nat.zero_le _, Nat.zero_le _⟩ ⟨by decide, by decide⟩ (Nat.le_of_ble_eq_true rfl) [0, 1, 2, 3, 4, 5, 6, 7, 8, 9, 10, 11, 12, 13, 14, 15] rfl rfl 0 rfl rfl mgX11_20 ?_
        refine g_iload_n h dX11_find_88 rfl ?_
        refine g_ic_ne h dX11_find_89 rfl (fun c89 => ?_) (fun c89 => ?_)
        · replace hf := ifp_f c89 hf
          refine g_lconst (v := 0) h dX11_find_103 (by decide) ?_
          refine g_lor h dX11_find_104 ?_
          obtain ⟨S0x105, q105, hf⟩ := gbind hf
          refine g_put (ws' := wRf E a0 S0x105) (ty := .long) h flX11_170 gftX11 rfl (by decide +kernel) dX11_find_105 0 rfl rfl rfl (Nat.le_of_ble_eq_true rfl) (by cases q105; rfl) ?_
          refine g_iinc (v := (v3 + 1)) (lv' := [some _, some _, some _, some _]) h dX11_find_108 rfl rfl (by decide) rfl ?_
          refine g_goto h dX11_find_111 rfl ?_
          exact ih70 _ _ _ hf
        · replace hf := ifp_t c89 hf
          refine g_lconst (v := 1) h dX11_find_92 (by decide) ?_
          refine g_aload_n h dX11_find_93 rfl ?_
          refine g_get h flX11_41 dX11_find_94 0 rfl rfl ?_
          refine g_iload_n h dX11_find_97 rfl ?_
          obtain ⟨k98, q98, hf⟩ := gbind hf
          have e98 := (gIx_s q98).1
          have b98 := (gIx_s q98).2
          refine g_iald h dX11_find_98 11 k98 rfl e98 b98 (by decide) ?_
          refine g_lshl h dX11_find_99 ?_
          refine g_goto h dX11_find_100 rfl ?_
          refine g_lor h dX11_find_104 ?_
          obtain ⟨S0x105, q105, hf⟩ := gbind hf
          refine g_put (ws' := wRf E a0 S0x105) (ty := .long) h flX11_170 gftX11 rfl (by decide +kernel) dX11_find_105 0 rfl rfl rfl (Nat.le_of_ble_eq_true rfl) (by cases q105; rfl) ?_
          refine g_iinc (v := (v3 + 1)) (lv' := [some _, some _, some _, some _]) h dX11_find_108 rfl rfl (by decide) rfl ?_
          refine g_goto h dX11_find_111 rfl ?_
          exact ih70 _ _ _ hf
  refine g_iload_n h dX11_find_0 rfl ?_
  refine g_iconst (v := 1) h dX11_find_1 (by decide) ?_
  refine g_ic_lt h dX11_find_2 rfl (fun c2 => ?_) (fun c2 => ?_)
  · replace hf := ifp_t c2 hf
    refine g_aload_n h dX11_find_25 rfl ?_
    refine g_ldc2 (v := (-9000000000000000001)) h dX11_find_26 gcX11_62 ?_
    obtain ⟨r29, q29, hf⟩ := gbind hf
    refine g_cVw (ws' := wRf E a0 r29.2) h (qX11_tellFinding (a0 := a0) q29) mX11_tellFinding lkX11_64 dX11_find_29 rfl rfl ⟨Nat.zero_le _, Nat.zero_le _⟩ ⟨by decide, by decide⟩ (Nat.le_of_ble_eq_true rfl) [0, 1, 2, 3, 4, 5, 6, 7, 8, 9, 10, 11, 12, 13, 14, 15] rfl rfl 0 rfl rfl mgX11_20 ?_
    have er := Option.some.inj hf
    subst er
    exact g_lreturn h dX11_find_32 rfl ⟨Nat.zero_le _, Nat.zero_le _, rfl, rfl, rfl⟩
  · replace hf := ifp_f c2 hf
    refine g_iload_n h dX11_find_5 rfl ?_
    refine g_iconst (v := 1) h dX11_find_6 (by decide) ?_
    refine g_aload_n h dX11_find_7 rfl ?_
    refine g_get h flX11_9 dX11_find_8 0 rfl rfl ?_
    refine g_iconst (v := 0) h dX11_find_11 (by decide) ?_
    refine g_iald h dX11_find_12 1 0 rfl rfl (by decide) (by decide) ?_
    refine g_ishl h dX11_find_13 ?_
    refine g_ic_ge h dX11_find_14 rfl (fun c14 => ?_) (fun c14 => ?_)
    · replace hf := ifp_t c14 hf
      refine g_aload_n h dX11_find_25 rfl ?_
      refine g_ldc2 (v := (-9000000000000000001)) h dX11_find_26 gcX11_62 ?_
      obtain ⟨r29, q29, hf⟩ := gbind hf
      refine g_cVw (ws' := wRf E a0 r29.2) h (qX11_tellFinding (a0 := a0) q29) mX11_tellFinding lkX11_64 dX11_find_29 rfl rfl ⟨Nat.zero_le _, Nat.zero_le _⟩ ⟨by decide, by decide⟩ (Nat.le_of_ble_eq_true rfl) [0, 1, 2, 3, 4, 5, 6, 7, 8, 9, 10, 11, 12, 13, 14, 15] rfl rfl 0 rfl rfl mgX11_20 ?_
      have er := Option.some.inj hf
      subst er
      exact g_lreturn h dX11_find_32 rfl ⟨Nat.zero_le _, Nat.zero_le _, rfl, rfl, rfl⟩
    · replace hf := ifp_f c14 hf
      refine g_iload_n h dX11_find_17 rfl ?_
      obtain ⟨r18, q18, hf⟩ := gbind hf
      refine g_cSr h (qX11_bits q18) mX11_bits lkX11_156 dX11_find_18 rfl rfl ⟨Nat.zero_le _, Nat.zero_le _⟩ ⟨by decide, by decide⟩ (Nat.le_of_ble_eq_true rfl) [] rfl rfl ?_
      refine g_iconst (v := 4) h dX11_find_21 (by decide) ?_
      refine g_ic_le h dX11_find_22 rfl (fun c22 => ?_) (fun c22 => ?_)
      · replace hf := ifp_t c22 hf
        refine g_aload_n h dX11_find_33 rfl ?_
        refine g_iload_n h dX11_find_34 rfl ?_
        obtain ⟨r35, q35, hf⟩ := gbind hf
        refine g_cVv (ws' := wRf E a0 r35) h (qX11_takeModel (a0 := a0) q35) mX11_takeModel lkX11_160 dX11_find_35 rfl rfl ⟨Nat.zero_le _, Nat.zero_le _⟩ ⟨by decide, by decide⟩ (Nat.le_of_ble_eq_true rfl) [0, 1, 2, 3, 4, 5, 6, 7, 8, 9, 10, 11, 12, 13, 14, 15] rfl rfl 0 rfl rfl mgX11_20 ?_
        refine g_aload_n h dX11_find_38 rfl ?_
        refine g_iconst (v := (-1)) h dX11_find_39 (by decide) ?_
        obtain ⟨r40, q40, hf⟩ := gbind hf
        refine g_cVw (ws' := wRf E a0 r40.2) h (qX11_solve (a0 := a0) q40) mX11_solve lkX11_164 dX11_find_40 rfl rfl ⟨Nat.zero_le _, Nat.zero_le _⟩ ⟨by decide, by decide⟩ (Nat.le_of_ble_eq_true rfl) [0, 1, 2, 3, 4, 5, 6, 7, 8, 9, 10, 11, 12, 13, 14, 15] rfl rfl 0 rfl rfl mgX11_20 ?_
        refine g_ifb_eq h dX11_find_43 rfl (fun c43 => ?_) (fun c43 => ?_)
        · replace hf := ifb_f c43 hf
          refine g_aload_n h dX11_find_57 rfl ?_
          refine g_lconst (v := 0) h dX11_find_58 (by decide) ?_
          obtain ⟨S0x59, q59, hf⟩ := gbind hf
          refine g_put (ws' := wRf E a0 S0x59) (ty := .long) h flX11_170 gftX11 rfl (by decide +kernel) dX11_find_59 0 rfl rfl rfl (Nat.le_of_ble_eq_true rfl) (by cases q59; rfl) ?_
          refine g_aload_n h dX11_find_62 rfl ?_
          refine g_iconst (v := (-1)) h dX11_find_63 (by decide) ?_
          obtain ⟨r64, q64, hf⟩ := gbind hf
          refine g_cVw (ws' := wRf E a0 r64.2) h (qX11_rank (a0 := a0) q64) mX11_rank lkX11_173 dX11_find_64 rfl rfl ⟨Nat.zero_le _, Nat.zero_le _⟩ ⟨by decide, by decide⟩ (Nat.le_of_ble_eq_true rfl) [0, 1, 2, 3, 4, 5, 6, 7, 8, 9, 10, 11, 12, 13, 14, 15] rfl rfl 0 rfl rfl mgX11_20 ?_
          refine g_istore_n (lv' := [some _, some _, some _, _]) h dX11_find_67 (by decide) rfl ?_
          refine g_iconst (v := 0) h dX11_find_68 (by decide) ?_
          refine g_istore_n (lv' := [some _, some _, some _, some _]) h dX11_find_69 (by decide) rfl ?_
          exact loop70 _ _ _ _  hf
        · replace hf := ifb_t c43 hf
          refine g_aload_n h dX11_find_46 rfl ?_
          refine g_iload_n h dX11_find_47 rfl ?_
          obtain ⟨r48, q48, hf⟩ := gbind hf
          refine g_cVv (ws' := wRf E a0 r48) h (qX11_becomesFound (a0 := a0) q48) mX11_becomesFound lkX11_167 dX11_find_48 rfl rfl ⟨Nat.zero_le _, Nat.zero_le _⟩ ⟨by decide, by decide⟩ (Nat.le_of_ble_eq_true rfl) [0, 1, 2, 3, 4, 5, 6, 7, 8, 9, 10, 11, 12, 13, 14, 15] rfl rfl 0 rfl rfl mgX11_20 ?_
          refine g_aload_n h dX11_find_51 rfl ?_
          refine g_get h flX11_101 dX11_find_52 0 rfl rfl ?_
          refine g_i2l h dX11_find_55 ?_
          have er := Option.some.inj hf
          subst er
          exact g_lreturn h dX11_find_56 rfl ⟨Nat.zero_le _, Nat.zero_le _, rfl, rfl, rfl⟩
      · replace hf := ifp_f c22 hf
        refine g_aload_n h dX11_find_25 rfl ?_
        refine g_ldc2 (v := (-9000000000000000001)) h dX11_find_26 gcX11_62 ?_
        obtain ⟨r29, q29, hf⟩ := gbind hf
        refine g_cVw (ws' := wRf E a0 r29.2) h (qX11_tellFinding (a0 := a0) q29) mX11_tellFinding lkX11_64 dX11_find_29 rfl rfl ⟨Nat.zero_le _, Nat.zero_le _⟩ ⟨by decide, by decide⟩ (Nat.le_of_ble_eq_true rfl) [0, 1, 2, 3, 4, 5, 6, 7, 8, 9, 10, 11, 12, 13, 14, 15] rfl rfl 0 rfl rfl mgX11_20 ?_
        have er := Option.some.inj hf
        subst er
        exact g_lreturn h dX11_find_32 rfl ⟨Nat.zero_le _, Nat.zero_le _, rfl, rfl, rfl⟩
def fX11_loose (fu : Nat) (S0 : gS)  : Option (Int64) := (some (lF S0 11))
set_option maxHeartbeats 4000000 in
set_option maxRecDepth 100000 in
theorem qX11_loose {l : Launch} {E : gE} {a0 : Nat → Nat} {fu : Nat} {S0 : gS}  {r : Int64} (hf : fX11_loose fu S0  = some r) : CtrF l yX11_loose cX11_loose 1 (some .long) (gR 0 0) E [.ref (a0 0)] (wRf E a0 S0) (some (.long r)) (wRf E a0 S0) := by
  refine ctr_of false (plainFor_of_name (by decide)) (Nat.le_of_ble_eq_true rfl) (fun q => by cases q) (fun Γ h => ?_)
  refine g_lv [some _] rfl ?_
  rw [fX11_loose] at hf
  refine g_aload_n h dX11_loose_0 rfl ?_
  refine g_get h flX11_170 dX11_loose_1 0 rfl rfl ?_
  have er := Option.some.inj hf
  subst er
  exact g_lreturn h dX11_loose_4 rfl ⟨Nat.zero_le _, Nat.zero_le _, rfl, rfl, rfl⟩
def fX11_notFound (fu : Nat) (S0 : gS)  : Option (Int64) := (if (iF S0 12) = 0 then (some (-9000000000000000002 : Int64)) else (if (iF S0 13) = 0 then (some (0 : Int64)) else (some (-9000000000000000007 : Int64))))
set_option maxHeartbeats 4000000 in
set_option maxRecDepth 100000 in
theorem qX11_notFound {l : Launch} {E : gE} {a0 : Nat → Nat} {fu : Nat} {S0 : gS}  {r : Int64} (hf : fX11_notFound fu S0  = some r) : CtrF l yX11_notFound cX11_notFound 1 (some .long) (gR 0 0) E [.ref (a0 0)] (wRf E a0 S0) (some (.long r)) (wRf E a0 S0) := by
  refine ctr_of false (plainFor_of_name (by decide)) (Nat.le_of_ble_eq_true rfl) (fun q => by cases q) (fun Γ h => ?_)
  refine g_lv [some _] rfl ?_
  rw [fX11_notFound] at hf
  refine g_aload_n h dX11_notFound_0 rfl ?_
  refine g_get h flX11_137 dX11_notFound_1 0 rfl rfl ?_
  refine g_if_ne h dX11_notFound_4 rfl (fun c4 => ?_) (fun c4 => ?_)
  · replace hf := ifp_f c4 hf
    refine g_aload_n h dX11_notFound_13 rfl ?_
    refine g_get h flX11_70 dX11_notFound_14 0 rfl rfl ?_
    refine g_if_eq h dX11_notFound_17 rfl (fun c17 => ?_) (fun c17 => ?_)
    · replace hf := ifp_t c17 hf
      refine g_lconst (v := 0) h dX11_notFound_26 (by decide) ?_
      have er := Option.some.inj hf
      subst er
      exact g_lreturn h dX11_notFound_27 rfl ⟨Nat.zero_le _, Nat.zero_le _, rfl, rfl, rfl⟩
    · replace hf := ifp_f c17 hf
      refine g_ldc2 (v := (-9000000000000000007)) h dX11_notFound_20 gcX11_178 ?_
      refine g_goto h dX11_notFound_23 rfl ?_
      have er := Option.some.inj hf
      subst er
      exact g_lreturn h dX11_notFound_27 rfl ⟨Nat.zero_le _, Nat.zero_le _, rfl, rfl, rfl⟩
  · replace hf := ifp_t c4 hf
    refine g_ldc2 (v := (-9000000000000000002)) h dX11_notFound_7 gcX11_96 ?_
    refine g_goto h dX11_notFound_10 rfl ?_
    have er := Option.some.inj hf
    subst er
    exact g_lreturn h dX11_notFound_27 rfl ⟨Nat.zero_le _, Nat.zero_le _, rfl, rfl, rfl⟩
def lX11_placeOf_4  (fu : Nat) (S0 : gS) (v1 : Int32) : Nat → (Int32) → (Int32) → Option (Int32)
  | 0, _, _ => none
  | j + 1, v2, v3 => (if (iF S0 15) ≤ v3 then (some v2) else ((gIx v3 4).bind fun k17 => (if ((iA S0 16) k17) = v1 then ((lX11_placeOf_4  fu S0 v1 j) v3 (v3 + 1)) else ((lX11_placeOf_4  fu S0 v1 j) v2 (v3 + 1)))))
def fX11_placeOf (fu : Nat) (S0 : gS) (v1 : Int32) : Option (Int32) := (lX11_placeOf_4  fu S0 v1 fu (-1 : Int32) (0 : Int32))
set_option maxHeartbeats 4000000 in
set_option maxRecDepth 100000 in
theorem qX11_placeOf {l : Launch} {E : gE} {a0 : Nat → Nat} {fu : Nat} {S0 : gS} {v1 : Int32} {r : Int32} (hf : fX11_placeOf fu S0 v1 = some r) : CtrF l yX11_placeOf cX11_placeOf 4 (some .int) (gR 0 0) E [.ref (a0 0), .int v1] (wRf E a0 S0) (some (.int r)) (wRf E a0 S0) := by
  refine ctr_of false (plainFor_of_name (by decide)) (Nat.le_of_ble_eq_true rfl) (fun q => by cases q) (fun Γ h => ?_)
  refine g_lv [some _, some _, _, _] rfl ?_
  rw [fX11_placeOf] at hf
  have loop4 : ∀ (j4 : Nat) (v2 : Int32) (v3 : Int32) , lX11_placeOf_4  fu S0 v1 j4 v2 v3 = some r → Γ 0 0 4 [some (.ref (a0 0)), some (.int v1), some (.int v2), some (.int v3)] [] (wRf E a0 S0) := by
    intro j4
    induction j4 with
    | zero => intro v2 v3 hf; exact gno hf
    | succ j4 ih4 =>
      intro v2 v3 hf
      rw [lX11_placeOf_4] at hf
      refine g_iload_n h dX11_placeOf_4 rfl ?_
      refine g_aload_n h dX11_placeOf_5 rfl ?_
      refine g_get h flX11_143 dX11_placeOf_6 0 rfl rfl ?_
      refine g_ic_ge h dX11_placeOf_9 rfl (fun c9 => ?_) (fun c9 => ?_)
      · replace hf := ifp_t c9 hf
        refine g_iload_n h dX11_placeOf_34 rfl ?_
        have er := Option.some.inj hf
        subst er
        exact g_ireturn h dX11_placeOf_35 rfl rfl ⟨Nat.zero_le _, Nat.zero_le _, rfl, rfl, rfl⟩
      · replace hf := ifp_f c9 hf
        refine g_aload_n h dX11_placeOf_12 rfl ?_
        refine g_get h flX11_35 dX11_placeOf_13 0 rfl rfl ?_
        refine g_iload_n h dX11_placeOf_16 rfl ?_
        obtain ⟨k17, q17, hf⟩ := gbind hf
        have e17 := (gIx_s q17).1
        have b17 := (gIx_s q17).2
        refine g_iald h dX11_placeOf_17 9 k17 rfl e17 b17 (by decide) ?_
        refine g_iload_n h dX11_placeOf_18 rfl ?_
        refine g_ic_ne h dX11_placeOf_19 rfl (fun c19 => ?_) (fun c19 => ?_)
        · replace hf := ifp_f c19 hf
          refine g_iload_n h dX11_placeOf_26 rfl ?_
          refine g_istore_n (lv' := [some _, some _, some _, some _]) h dX11_placeOf_27 (by decide) rfl ?_
          refine g_iinc (v := (v3 + 1)) (lv' := [some _, some _, some _, some _]) h dX11_placeOf_28 rfl rfl (by decide) rfl ?_
          refine g_goto h dX11_placeOf_31 rfl ?_
          exact ih4 _ _ hf
        · replace hf := ifp_t c19 hf
          refine g_iload_n h dX11_placeOf_22 rfl ?_
          refine g_goto h dX11_placeOf_23 rfl ?_
          refine g_istore_n (lv' := [some _, some _, some _, some _]) h dX11_placeOf_27 (by decide) rfl ?_
          refine g_iinc (v := (v3 + 1)) (lv' := [some _, some _, some _, some _]) h dX11_placeOf_28 rfl rfl (by decide) rfl ?_
          refine g_goto h dX11_placeOf_31 rfl ?_
          exact ih4 _ _ hf
  refine g_iconst (v := (-1)) h dX11_placeOf_0 (by decide) ?_
  refine g_istore_n (lv' := [some _, some _, some _, _]) h dX11_placeOf_1 (by decide) rfl ?_
  refine g_iconst (v := 0) h dX11_placeOf_2 (by decide) ?_
  refine g_istore_n (lv' := [some _, some _, some _, some _]) h dX11_placeOf_3 (by decide) rfl ?_
  exact loop4 _ _ _  hf
def fX11_size (fu : Nat) (S0 : gS) (v1 : Int32) (v2 : Bool) : Option (Int64 × gS) := ((fX11_notFound fu S0).bind fun r1 => (if r1 = (0 : Int64) then ((fX11_placeOf fu S0 v1).bind fun r20 => (if 0 ≤ r20 then ((gIx r20 4).bind fun k43 => ((fX11_part fu ((lA S0 17) k43) (lF S0 18) v2).bind fun r49 => (some (r49, S0)))) else ((fX11_tellFinding fu S0 (-9000000000000000001 : Int64)).bind fun r32 => (some (r32.1, r32.2))))) else ((fX11_notFound fu S0).bind fun r11 => ((fX11_tellFinding fu S0 r11).bind fun r14 => (some (r14.1, r14.2))))))
set_option maxHeartbeats 4000000 in
set_option maxRecDepth 100000 in
theorem qX11_size {l : Launch} {E : gE} {a0 : Nat → Nat} {fu : Nat} {S0 : gS} {v1 : Int32} {v2 : Bool} {r : Int64 × gS} (hf : fX11_size fu S0 v1 v2 = some r) : CtrF l yX11_size cX11_size 4 (some .long) (gR 2 55) E [.ref (a0 0), .int v1, .int (bI v2)] (wRf E a0 S0) (some (.long r.1)) (wRf E a0 r.2) := by
  refine ctr_of false (plainFor_of_name (by decide)) (Nat.le_of_ble_eq_true rfl) (fun q => by cases q) (fun Γ h => ?_)
  refine g_lv [some _, some _, some _, _] rfl ?_
  rw [fX11_size] at hf
  refine g_aload_n h dX11_size_0 rfl ?_
  obtain ⟨r1, q1, hf⟩ := gbind hf
  refine g_cVr h (qX11_notFound (a0 := a0) q1) mX11_notFound lkX11_180 dX11_size_1 rfl rfl ⟨Nat.zero_le _, Nat.zero_le _⟩ ⟨by decide, by decide⟩ (Nat.le_of_ble_eq_true rfl) [0, 1, 2, 3, 4, 5, 6, 7, 8, 9, 10, 11, 12, 13, 14, 15] rfl rfl 0 rfl rfl ?_
  refine g_lconst (v := 0) h dX11_size_4 (by decide) ?_
  refine g_lcmp h dX11_size_5 ?_
  refine g_lif_eq h dX11_size_6 rfl (fun c6 => ?_) (fun c6 => ?_)
  · replace hf := ifp_t c6 hf
    refine g_aload_n h dX11_size_18 rfl ?_
    refine g_iload_n h dX11_size_19 rfl ?_
    obtain ⟨r20, q20, hf⟩ := gbind hf
    refine g_cVr h (qX11_placeOf (a0 := a0) q20) mX11_placeOf lkX11_183 dX11_size_20 rfl rfl ⟨Nat.zero_le _, Nat.zero_le _⟩ ⟨by decide, by decide⟩ (Nat.le_of_ble_eq_true rfl) [0, 1, 2, 3, 4, 5, 6, 7, 8, 9, 10, 11, 12, 13, 14, 15] rfl rfl 0 rfl rfl ?_
    refine g_istore_n (lv' := [some _, some _, some _, some _]) h dX11_size_23 (by decide) rfl ?_
    refine g_iload_n h dX11_size_24 rfl ?_
    refine g_if_ge h dX11_size_25 rfl (fun c25 => ?_) (fun c25 => ?_)
    · replace hf := ifp_t c25 hf
      refine g_aload_n h dX11_size_38 rfl ?_
      refine g_get h flX11_38 dX11_size_39 0 rfl rfl ?_
      refine g_iload_n h dX11_size_42 rfl ?_
      obtain ⟨k43, q43, hf⟩ := gbind hf
      have e43 := (gIx_s q43).1
      have b43 := (gIx_s q43).2
      refine g_lald h dX11_size_43 10 k43 rfl e43 b43 (by decide) ?_
      refine g_aload_n h dX11_size_44 rfl ?_
      refine g_get h flX11_146 dX11_size_45 0 rfl rfl ?_
      refine g_iload_n h dX11_size_48 rfl ?_
      obtain ⟨r49, q49, hf⟩ := gbind hf
      refine g_cSr h (qX11_part q49) mX11_part lkX11_186 dX11_size_49 rfl rfl ⟨Nat.zero_le _, Nat.zero_le _⟩ ⟨by decide, by decide⟩ (Nat.le_of_ble_eq_true rfl) [] rfl rfl ?_
      have er := Option.some.inj hf
      subst er
      exact g_lreturn h dX11_size_52 rfl ⟨Nat.zero_le _, Nat.zero_le _, rfl, rfl, rfl⟩
    · replace hf := ifp_f c25 hf
      refine g_aload_n h dX11_size_28 rfl ?_
      refine g_ldc2 (v := (-9000000000000000001)) h dX11_size_29 gcX11_62 ?_
      obtain ⟨r32, q32, hf⟩ := gbind hf
      refine g_cVw (ws' := wRf E a0 r32.2) h (qX11_tellFinding (a0 := a0) q32) mX11_tellFinding lkX11_64 dX11_size_32 rfl rfl ⟨Nat.zero_le _, Nat.zero_le _⟩ ⟨by decide, by decide⟩ (Nat.le_of_ble_eq_true rfl) [0, 1, 2, 3, 4, 5, 6, 7, 8, 9, 10, 11, 12, 13, 14, 15] rfl rfl 0 rfl rfl mgX11_20 ?_
      refine g_goto h dX11_size_35 rfl ?_
      have er := Option.some.inj hf
      subst er
      exact g_lreturn h dX11_size_52 rfl ⟨Nat.zero_le _, Nat.zero_le _, rfl, rfl, rfl⟩
  · replace hf := ifp_f c6 hf
    refine g_aload_n h dX11_size_9 rfl ?_
    refine g_aload_n h dX11_size_10 rfl ?_
    obtain ⟨r11, q11, hf⟩ := gbind hf
    refine g_cVr h (qX11_notFound (a0 := a0) q11) mX11_notFound lkX11_180 dX11_size_11 rfl rfl ⟨Nat.zero_le _, Nat.zero_le _⟩ ⟨by decide, by decide⟩ (Nat.le_of_ble_eq_true rfl) [0, 1, 2, 3, 4, 5, 6, 7, 8, 9, 10, 11, 12, 13, 14, 15] rfl rfl 0 rfl rfl ?_
    obtain ⟨r14, q14, hf⟩ := gbind hf
    refine g_cVw (ws' := wRf E a0 r14.2) h (qX11_tellFinding (a0 := a0) q14) mX11_tellFinding lkX11_64 dX11_size_14 rfl rfl ⟨Nat.zero_le _, Nat.zero_le _⟩ ⟨by decide, by decide⟩ (Nat.le_of_ble_eq_true rfl) [0, 1, 2, 3, 4, 5, 6, 7, 8, 9, 10, 11, 12, 13, 14, 15] rfl rfl 0 rfl rfl mgX11_20 ?_
    have er := Option.some.inj hf
    subst er
    exact g_lreturn h dX11_size_17 rfl ⟨Nat.zero_le _, Nat.zero_le _, rfl, rfl, rfl⟩
def lX11_foretoldAt_5  (fu : Nat) (S0 : gS) (v1 : Int32) : Nat → (Int64) → (Int32) → Option (Int64)
  | 0, _, _ => none
  | j + 1, v2, v4 => (if (iF S0 15) ≤ v4 then (some v2) else ((gIx v4 4).bind fun k22 => ((fX11_shown fu S0 ((iA S0 16) k22) v1).bind fun r24 => ((lX11_foretoldAt_5  fu S0 v1 j) (v2 + (r24 * ((lA S0 17) k22))) (v4 + 1)))))
def fX11_foretoldAt (fu : Nat) (S0 : gS) (v1 : Int32) : Option (Int64) := (lX11_foretoldAt_5  fu S0 v1 fu (0 : Int64) (0 : Int32))
set_option maxHeartbeats 4000000 in
set_option maxRecDepth 100000 in
theorem qX11_foretoldAt {l : Launch} {E : gE} {a0 : Nat → Nat} {fu : Nat} {S0 : gS} {v1 : Int32} {r : Int64} (hf : fX11_foretoldAt fu S0 v1 = some r) : CtrF l yX11_foretoldAt cX11_foretoldAt 5 (some .long) (gR 1 28) E [.ref (a0 0), .int v1] (wRf E a0 S0) (some (.long r)) (wRf E a0 S0) := by
  refine ctr_of false (plainFor_of_name (by decide)) (Nat.le_of_ble_eq_true rfl) (fun q => by cases q) (fun Γ h => ?_)
  refine g_lv [some _, some _, _, _, _] rfl ?_
  rw [fX11_foretoldAt] at hf
  have loop5 : ∀ (j5 : Nat) (v2 : Int64) (v4 : Int32) , lX11_foretoldAt_5  fu S0 v1 j5 v2 v4 = some r → Γ 0 0 5 [some (.ref (a0 0)), some (.int v1), some (.long v2), none, some (.int v4)] [] (wRf E a0 S0) := by
    intro j5
    induction j5 with
    | zero => intro v2 v4 hf; exact gno hf
    | succ j5 ih5 =>
      intro v2 v4 hf
      rw [lX11_foretoldAt_5] at hf
      refine g_iload h dX11_foretoldAt_5 rfl ?_
      refine g_aload_n h dX11_foretoldAt_7 rfl ?_
      refine g_get h flX11_143 dX11_foretoldAt_8 0 rfl rfl ?_
      refine g_ic_ge h dX11_foretoldAt_11 rfl (fun c11 => ?_) (fun c11 => ?_)
      · replace hf := ifp_t c11 hf
        refine g_lload_n h dX11_foretoldAt_43 rfl ?_
        have er := Option.some.inj hf
        subst er
        exact g_lreturn h dX11_foretoldAt_44 rfl ⟨Nat.zero_le _, Nat.zero_le _, rfl, rfl, rfl⟩
      · replace hf := ifp_f c11 hf
        refine g_lload_n h dX11_foretoldAt_14 rfl ?_
        refine g_aload_n h dX11_foretoldAt_15 rfl ?_
        refine g_aload_n h dX11_foretoldAt_16 rfl ?_
        refine g_get h flX11_35 dX11_foretoldAt_17 0 rfl rfl ?_
        refine g_iload h dX11_foretoldAt_20 rfl ?_
        obtain ⟨k22, q22, hf⟩ := gbind hf
        have e22 := (gIx_s q22).1
        have b22 := (gIx_s q22).2
        refine g_iald h dX11_foretoldAt_22 9 k22 rfl e22 b22 (by decide) ?_
        refine g_iload_n h dX11_foretoldAt_23 rfl ?_
        obtain ⟨r24, q24, hf⟩ := gbind hf
        refine g_cVr h (qX11_shown (a0 := a0) q24) mX11_shown lkX11_81 dX11_foretoldAt_24 rfl rfl ⟨Nat.zero_le _, Nat.zero_le _⟩ ⟨by decide, by decide⟩ (Nat.le_of_ble_eq_true rfl) [0, 1, 2, 3, 4, 5, 6, 7, 8, 9, 10, 11, 12, 13, 14, 15] rfl rfl 0 rfl rfl ?_
        refine g_aload_n h dX11_foretoldAt_27 rfl ?_
        refine g_get h flX11_38 dX11_foretoldAt_28 0 rfl rfl ?_
        refine g_iload h dX11_foretoldAt_31 rfl ?_
        refine g_lald h dX11_foretoldAt_33 10 k22 rfl e22 b22 (by decide) ?_
        refine g_lmul h dX11_foretoldAt_34 ?_
        refine g_ladd h dX11_foretoldAt_35 ?_
        refine g_lstore_n (lv' := [some _, some _, some _, none, some _]) h dX11_foretoldAt_36 (by decide) rfl ?_
        refine g_iinc (v := (v4 + 1)) (lv' := [some _, some _, some _, none, some _]) h dX11_foretoldAt_37 rfl rfl (by decide) rfl ?_
        refine g_goto h dX11_foretoldAt_40 rfl ?_
        exact ih5 _ _ hf
  refine g_lconst (v := 0) h dX11_foretoldAt_0 (by decide) ?_
  refine g_lstore_n (lv' := [some _, some _, some _, none, _]) h dX11_foretoldAt_1 (by decide) rfl ?_
  refine g_iconst (v := 0) h dX11_foretoldAt_2 (by decide) ?_
  refine g_istore (lv' := [some _, some _, some _, none, some _]) h dX11_foretoldAt_3 (by decide) rfl ?_
  exact loop5 _ _ _  hf
def fX11_left (fu : Nat) (S0 : gS) (v1 : Int32) (v2 : Bool) : Option (Int64 × gS) := ((fX11_notFound fu S0).bind fun r1 => (if r1 = (0 : Int64) then ((fX11_isReading fu S0 v1).bind fun r20 => (if r20 = true then ((gIx ((52 : Int32) + v1) 160).bind fun k42 => ((gIx ((32 : Int32) + v1) 160).bind fun k58 => ((fX11_foretoldAt fu S0 ((iA S0 0) k58)).bind fun r59 => ((fX11_part fu (((((iA S0 0) k42).toInt64) * (lF S0 18)) - r59) (lF S0 18) v2).bind fun r68 => (some (r68, S0)))))) else ((fX11_tellFinding fu S0 (-9000000000000000001 : Int64)).bind fun r30 => (some (r30.1, r30.2))))) else ((fX11_notFound fu S0).bind fun r11 => ((fX11_tellFinding fu S0 r11).bind fun r14 => (some (r14.1, r14.2))))))
set_option maxHeartbeats 4000000 in
set_option maxRecDepth 100000 in
theorem qX11_left {l : Launch} {E : gE} {a0 : Nat → Nat} {fu : Nat} {S0 : gS} {v1 : Int32} {v2 : Bool} {r : Int64 × gS} (hf : fX11_left fu S0 v1 v2 = some r) : CtrF l yX11_left cX11_left 3 (some .long) (gR 2 55) E [.ref (a0 0), .int v1, .int (bI v2)] (wRf E a0 S0) (some (.long r.1)) (wRf E a0 r.2) := by
  refine ctr_of false (plainFor_of_name (by decide)) (Nat.le_of_ble_eq_true rfl) (fun q => by cases q) (fun Γ h => ?_)
  refine g_lv [some _, some _, some _] rfl ?_
  rw [fX11_left] at hf
  refine g_aload_n h dX11_left_0 rfl ?_
  obtain ⟨r1, q1, hf⟩ := gbind hf
  refine g_cVr h (qX11_notFound (a0 := a0) q1) mX11_notFound lkX11_180 dX11_left_1 rfl rfl ⟨Nat.zero_le _, Nat.zero_le _⟩ ⟨by decide, by decide⟩ (Nat.le_of_ble_eq_true rfl) [0, 1, 2, 3, 4, 5, 6, 7, 8, 9, 10, 11, 12, 13, 14, 15] rfl rfl 0 rfl rfl ?_
  refine g_lconst (v := 0) h dX11_left_4 (by decide) ?_
  refine g_lcmp h dX11_left_5 ?_
  refine g_lif_eq h dX11_left_6 rfl (fun c6 => ?_) (fun c6 => ?_)
  · replace hf := ifp_t c6 hf
    refine g_aload_n h dX11_left_18 rfl ?_
    refine g_iload_n h dX11_left_19 rfl ?_
    obtain ⟨r20, q20, hf⟩ := gbind hf
    refine g_cVr h (qX11_isReading (a0 := a0) q20) mX11_isReading lkX11_91 dX11_left_20 rfl rfl ⟨Nat.zero_le _, Nat.zero_le _⟩ ⟨by decide, by decide⟩ (Nat.le_of_ble_eq_true rfl) [0, 1, 2, 3, 4, 5, 6, 7, 8, 9, 10, 11, 12, 13, 14, 15] rfl rfl 0 rfl rfl ?_
    refine g_ifb_ne h dX11_left_23 rfl (fun c23 => ?_) (fun c23 => ?_)
    · replace hf := ifb_t c23 hf
      refine g_aload_n h dX11_left_34 rfl ?_
      refine g_get h flX11_9 dX11_left_35 0 rfl rfl ?_
      refine g_bipush (v := 52) h dX11_left_38 (by decide) ?_
      refine g_iload_n h dX11_left_40 rfl ?_
      refine g_iadd h dX11_left_41 ?_
      obtain ⟨k42, q42, hf⟩ := gbind hf
      have e42 := (gIx_s q42).1
      have b42 := (gIx_s q42).2
      refine g_iald h dX11_left_42 1 k42 rfl e42 b42 (by decide) ?_
      refine g_i2l h dX11_left_43 ?_
      refine g_aload_n h dX11_left_44 rfl ?_
      refine g_get h flX11_146 dX11_left_45 0 rfl rfl ?_
      refine g_lmul h dX11_left_48 ?_
      refine g_aload_n h dX11_left_49 rfl ?_
      refine g_aload_n h dX11_left_50 rfl ?_
      refine g_get h flX11_9 dX11_left_51 0 rfl rfl ?_
      refine g_bipush (v := 32) h dX11_left_54 (by decide) ?_
      refine g_iload_n h dX11_left_56 rfl ?_
      refine g_iadd h dX11_left_57 ?_
      obtain ⟨k58, q58, hf⟩ := gbind hf
      have e58 := (gIx_s q58).1
      have b58 := (gIx_s q58).2
      refine g_iald h dX11_left_58 1 k58 rfl e58 b58 (by decide) ?_
      obtain ⟨r59, q59, hf⟩ := gbind hf
      refine g_cVr h (qX11_foretoldAt (a0 := a0) q59) mX11_foretoldAt lkX11_190 dX11_left_59 rfl rfl ⟨Nat.zero_le _, Nat.zero_le _⟩ ⟨by decide, by decide⟩ (Nat.le_of_ble_eq_true rfl) [0, 1, 2, 3, 4, 5, 6, 7, 8, 9, 10, 11, 12, 13, 14, 15] rfl rfl 0 rfl rfl ?_
      refine g_lsub h dX11_left_62 ?_
      refine g_aload_n h dX11_left_63 rfl ?_
      refine g_get h flX11_146 dX11_left_64 0 rfl rfl ?_
      refine g_iload_n h dX11_left_67 rfl ?_
      obtain ⟨r68, q68, hf⟩ := gbind hf
      refine g_cSr h (qX11_part q68) mX11_part lkX11_186 dX11_left_68 rfl rfl ⟨Nat.zero_le _, Nat.zero_le _⟩ ⟨by decide, by decide⟩ (Nat.le_of_ble_eq_true rfl) [] rfl rfl ?_
      have er := Option.some.inj hf
      subst er
      exact g_lreturn h dX11_left_71 rfl ⟨Nat.zero_le _, Nat.zero_le _, rfl, rfl, rfl⟩
    · replace hf := ifb_f c23 hf
      refine g_aload_n h dX11_left_26 rfl ?_
      refine g_ldc2 (v := (-9000000000000000001)) h dX11_left_27 gcX11_62 ?_
      obtain ⟨r30, q30, hf⟩ := gbind hf
      refine g_cVw (ws' := wRf E a0 r30.2) h (qX11_tellFinding (a0 := a0) q30) mX11_tellFinding lkX11_64 dX11_left_30 rfl rfl ⟨Nat.zero_le _, Nat.zero_le _⟩ ⟨by decide, by decide⟩ (Nat.le_of_ble_eq_true rfl) [0, 1, 2, 3, 4, 5, 6, 7, 8, 9, 10, 11, 12, 13, 14, 15] rfl rfl 0 rfl rfl mgX11_20 ?_
      have er := Option.some.inj hf
      subst er
      exact g_lreturn h dX11_left_33 rfl ⟨Nat.zero_le _, Nat.zero_le _, rfl, rfl, rfl⟩
  · replace hf := ifp_f c6 hf
    refine g_aload_n h dX11_left_9 rfl ?_
    refine g_aload_n h dX11_left_10 rfl ?_
    obtain ⟨r11, q11, hf⟩ := gbind hf
    refine g_cVr h (qX11_notFound (a0 := a0) q11) mX11_notFound lkX11_180 dX11_left_11 rfl rfl ⟨Nat.zero_le _, Nat.zero_le _⟩ ⟨by decide, by decide⟩ (Nat.le_of_ble_eq_true rfl) [0, 1, 2, 3, 4, 5, 6, 7, 8, 9, 10, 11, 12, 13, 14, 15] rfl rfl 0 rfl rfl ?_
    obtain ⟨r14, q14, hf⟩ := gbind hf
    refine g_cVw (ws' := wRf E a0 r14.2) h (qX11_tellFinding (a0 := a0) q14) mX11_tellFinding lkX11_64 dX11_left_14 rfl rfl ⟨Nat.zero_le _, Nat.zero_le _⟩ ⟨by decide, by decide⟩ (Nat.le_of_ble_eq_true rfl) [0, 1, 2, 3, 4, 5, 6, 7, 8, 9, 10, 11, 12, 13, 14, 15] rfl rfl 0 rfl rfl mgX11_20 ?_
    have er := Option.some.inj hf
    subst er
    exact g_lreturn h dX11_left_17 rfl ⟨Nat.zero_le _, Nat.zero_le _, rfl, rfl, rfl⟩
def fX11_sum (fu : Nat) (S0 : gS) (v1 : Bool) : Option (Int64 × gS) := ((fX11_notFound fu S0).bind fun r1 => (if r1 = (0 : Int64) then ((fX11_part fu (lF S0 19) (lF S0 18) v1).bind fun r29 => (some (r29, S0))) else ((fX11_notFound fu S0).bind fun r11 => ((fX11_tellFinding fu S0 r11).bind fun r14 => (some (r14.1, r14.2))))))
set_option maxHeartbeats 4000000 in
set_option maxRecDepth 100000 in
theorem qX11_sum {l : Launch} {E : gE} {a0 : Nat → Nat} {fu : Nat} {S0 : gS} {v1 : Bool} {r : Int64 × gS} (hf : fX11_sum fu S0 v1 = some r) : CtrF l yX11_sum cX11_sum 2 (some .long) (gR 2 55) E [.ref (a0 0), .int (bI v1)] (wRf E a0 S0) (some (.long r.1)) (wRf E a0 r.2) := by
  refine ctr_of false (plainFor_of_name (by decide)) (Nat.le_of_ble_eq_true rfl) (fun q => by cases q) (fun Γ h => ?_)
  refine g_lv [some _, some _] rfl ?_
  rw [fX11_sum] at hf
  refine g_aload_n h dX11_sum_0 rfl ?_
  obtain ⟨r1, q1, hf⟩ := gbind hf
  refine g_cVr h (qX11_notFound (a0 := a0) q1) mX11_notFound lkX11_180 dX11_sum_1 rfl rfl ⟨Nat.zero_le _, Nat.zero_le _⟩ ⟨by decide, by decide⟩ (Nat.le_of_ble_eq_true rfl) [0, 1, 2, 3, 4, 5, 6, 7, 8, 9, 10, 11, 12, 13, 14, 15] rfl rfl 0 rfl rfl ?_
  refine g_lconst (v := 0) h dX11_sum_4 (by decide) ?_
  refine g_lcmp h dX11_sum_5 ?_
  refine g_lif_eq h dX11_sum_6 rfl (fun c6 => ?_) (fun c6 => ?_)
  · replace hf := ifp_t c6 hf
    refine g_aload_n h dX11_sum_20 rfl ?_
    refine g_get h flX11_153 dX11_sum_21 0 rfl rfl ?_
    refine g_aload_n h dX11_sum_24 rfl ?_
    refine g_get h flX11_146 dX11_sum_25 0 rfl rfl ?_
    refine g_iload_n h dX11_sum_28 rfl ?_
    obtain ⟨r29, q29, hf⟩ := gbind hf
    refine g_cSr h (qX11_part q29) mX11_part lkX11_186 dX11_sum_29 rfl rfl ⟨Nat.zero_le _, Nat.zero_le _⟩ ⟨by decide, by decide⟩ (Nat.le_of_ble_eq_true rfl) [] rfl rfl ?_
    have er := Option.some.inj hf
    subst er
    exact g_lreturn h dX11_sum_32 rfl ⟨Nat.zero_le _, Nat.zero_le _, rfl, rfl, rfl⟩
  · replace hf := ifp_f c6 hf
    refine g_aload_n h dX11_sum_9 rfl ?_
    refine g_aload_n h dX11_sum_10 rfl ?_
    obtain ⟨r11, q11, hf⟩ := gbind hf
    refine g_cVr h (qX11_notFound (a0 := a0) q11) mX11_notFound lkX11_180 dX11_sum_11 rfl rfl ⟨Nat.zero_le _, Nat.zero_le _⟩ ⟨by decide, by decide⟩ (Nat.le_of_ble_eq_true rfl) [0, 1, 2, 3, 4, 5, 6, 7, 8, 9, 10, 11, 12, 13, 14, 15] rfl rfl 0 rfl rfl ?_
    obtain ⟨r14, q14, hf⟩ := gbind hf
    refine g_cVw (ws' := wRf E a0 r14.2) h (qX11_tellFinding (a0 := a0) q14) mX11_tellFinding lkX11_64 dX11_sum_14 rfl rfl ⟨Nat.zero_le _, Nat.zero_le _⟩ ⟨by decide, by decide⟩ (Nat.le_of_ble_eq_true rfl) [0, 1, 2, 3, 4, 5, 6, 7, 8, 9, 10, 11, 12, 13, 14, 15] rfl rfl 0 rfl rfl mgX11_20 ?_
    refine g_goto h dX11_sum_17 rfl ?_
    have er := Option.some.inj hf
    subst er
    exact g_lreturn h dX11_sum_32 rfl ⟨Nat.zero_le _, Nat.zero_le _, rfl, rfl, rfl⟩
def fX11_foretold (fu : Nat) (S0 : gS) (v1 : Int32) (v2 : Bool) : Option (Int64 × gS) := ((fX11_notFound fu S0).bind fun r1 => (if r1 = (0 : Int64) then ((fX11_isState fu v1).bind fun r19 => (if r19 = true then ((fX11_foretoldAt fu S0 v1).bind fun r27 => ((fX11_part fu r27 (lF S0 18) v2).bind fun r35 => (some (r35, S0)))) else ((fX11_tellFinding fu S0 (-9000000000000000001 : Int64)).bind fun r45 => (some (r45.1, r45.2))))) else ((fX11_notFound fu S0).bind fun r11 => ((fX11_tellFinding fu S0 r11).bind fun r14 => (some (r14.1, r14.2))))))
set_option maxHeartbeats 4000000 in
set_option maxRecDepth 100000 in
theorem qX11_foretold {l : Launch} {E : gE} {a0 : Nat → Nat} {fu : Nat} {S0 : gS} {v1 : Int32} {v2 : Bool} {r : Int64 × gS} (hf : fX11_foretold fu S0 v1 v2 = some r) : CtrF l yX11_foretold cX11_foretold 3 (some .long) (gR 2 55) E [.ref (a0 0), .int v1, .int (bI v2)] (wRf E a0 S0) (some (.long r.1)) (wRf E a0 r.2) := by
  refine ctr_of false (plainFor_of_name (by decide)) (Nat.le_of_ble_eq_true rfl) (fun q => by cases q) (fun Γ h => ?_)
  refine g_lv [some _, some _, some _] rfl ?_
  rw [fX11_foretold] at hf
  refine g_aload_n h dX11_foretold_0 rfl ?_
  obtain ⟨r1, q1, hf⟩ := gbind hf
  refine g_cVr h (qX11_notFound (a0 := a0) q1) mX11_notFound lkX11_180 dX11_foretold_1 rfl rfl ⟨Nat.zero_le _, Nat.zero_le _⟩ ⟨by decide, by decide⟩ (Nat.le_of_ble_eq_true rfl) [0, 1, 2, 3, 4, 5, 6, 7, 8, 9, 10, 11, 12, 13, 14, 15] rfl rfl 0 rfl rfl ?_
  refine g_lconst (v := 0) h dX11_foretold_4 (by decide) ?_
  refine g_lcmp h dX11_foretold_5 ?_
  refine g_lif_eq h dX11_foretold_6 rfl (fun c6 => ?_) (fun c6 => ?_)
  · replace hf := ifp_t c6 hf
    refine g_iload_n h dX11_foretold_18 rfl ?_
    obtain ⟨r19, q19, hf⟩ := gbind hf
    refine g_cSr h (qX11_isState q19) mX11_isState lkX11_78 dX11_foretold_19 rfl rfl ⟨Nat.zero_le _, Nat.zero_le _⟩ ⟨by decide, by decide⟩ (Nat.le_of_ble_eq_true rfl) [] rfl rfl ?_
    refine g_ifb_eq h dX11_foretold_22 rfl (fun c22 => ?_) (fun c22 => ?_)
    · replace hf := ifb_f c22 hf
      refine g_aload_n h dX11_foretold_41 rfl ?_
      refine g_ldc2 (v := (-9000000000000000001)) h dX11_foretold_42 gcX11_62 ?_
      obtain ⟨r45, q45, hf⟩ := gbind hf
      refine g_cVw (ws' := wRf E a0 r45.2) h (qX11_tellFinding (a0 := a0) q45) mX11_tellFinding lkX11_64 dX11_foretold_45 rfl rfl ⟨Nat.zero_le _, Nat.zero_le _⟩ ⟨by decide, by decide⟩ (Nat.le_of_ble_eq_true rfl) [0, 1, 2, 3, 4, 5, 6, 7, 8, 9, 10, 11, 12, 13, 14, 15] rfl rfl 0 rfl rfl mgX11_20 ?_
      have er := Option.some.inj hf
      subst er
      exact g_lreturn h dX11_foretold_48 rfl ⟨Nat.zero_le _, Nat.zero_le _, rfl, rfl, rfl⟩
    · replace hf := ifb_t c22 hf
      refine g_aload_n h dX11_foretold_25 rfl ?_
      refine g_iload_n h dX11_foretold_26 rfl ?_
      obtain ⟨r27, q27, hf⟩ := gbind hf
      refine g_cVr h (qX11_foretoldAt (a0 := a0) q27) mX11_foretoldAt lkX11_190 dX11_foretold_27 rfl rfl ⟨Nat.zero_le _, Nat.zero_le _⟩ ⟨by decide, by decide⟩ (Nat.le_of_ble_eq_true rfl) [0, 1, 2, 3, 4, 5, 6, 7, 8, 9, 10, 11, 12, 13, 14, 15] rfl rfl 0 rfl rfl ?_
      refine g_aload_n h dX11_foretold_30 rfl ?_
      refine g_get h flX11_146 dX11_foretold_31 0 rfl rfl ?_
      refine g_iload_n h dX11_foretold_34 rfl ?_
      obtain ⟨r35, q35, hf⟩ := gbind hf
      refine g_cSr h (qX11_part q35) mX11_part lkX11_186 dX11_foretold_35 rfl rfl ⟨Nat.zero_le _, Nat.zero_le _⟩ ⟨by decide, by decide⟩ (Nat.le_of_ble_eq_true rfl) [] rfl rfl ?_
      refine g_goto h dX11_foretold_38 rfl ?_
      have er := Option.some.inj hf
      subst er
      exact g_lreturn h dX11_foretold_48 rfl ⟨Nat.zero_le _, Nat.zero_le _, rfl, rfl, rfl⟩
  · replace hf := ifp_f c6 hf
    refine g_aload_n h dX11_foretold_9 rfl ?_
    refine g_aload_n h dX11_foretold_10 rfl ?_
    obtain ⟨r11, q11, hf⟩ := gbind hf
    refine g_cVr h (qX11_notFound (a0 := a0) q11) mX11_notFound lkX11_180 dX11_foretold_11 rfl rfl ⟨Nat.zero_le _, Nat.zero_le _⟩ ⟨by decide, by decide⟩ (Nat.le_of_ble_eq_true rfl) [0, 1, 2, 3, 4, 5, 6, 7, 8, 9, 10, 11, 12, 13, 14, 15] rfl rfl 0 rfl rfl ?_
    obtain ⟨r14, q14, hf⟩ := gbind hf
    refine g_cVw (ws' := wRf E a0 r14.2) h (qX11_tellFinding (a0 := a0) q14) mX11_tellFinding lkX11_64 dX11_foretold_14 rfl rfl ⟨Nat.zero_le _, Nat.zero_le _⟩ ⟨by decide, by decide⟩ (Nat.le_of_ble_eq_true rfl) [0, 1, 2, 3, 4, 5, 6, 7, 8, 9, 10, 11, 12, 13, 14, 15] rfl rfl 0 rfl rfl mgX11_20 ?_
    have er := Option.some.inj hf
    subst er
    exact g_lreturn h dX11_foretold_17 rfl ⟨Nat.zero_le _, Nat.zero_le _, rfl, rfl, rfl⟩
def fX11_model (fu : Nat) (S0 : gS)  : Option (Int64 × gS) := ((fX11_notFound fu S0).bind fun r1 => (if r1 = (0 : Int64) then (some (((iF S0 14).toInt64), S0)) else ((fX11_notFound fu S0).bind fun r11 => ((fX11_tellFinding fu S0 r11).bind fun r14 => (some (r14.1, r14.2))))))
set_option maxHeartbeats 4000000 in
set_option maxRecDepth 100000 in
theorem qX11_model {l : Launch} {E : gE} {a0 : Nat → Nat} {fu : Nat} {S0 : gS}  {r : Int64 × gS} (hf : fX11_model fu S0  = some r) : CtrF l yX11_model cX11_model 1 (some .long) (gR 1 22) E [.ref (a0 0)] (wRf E a0 S0) (some (.long r.1)) (wRf E a0 r.2) := by
  refine ctr_of false (plainFor_of_name (by decide)) (Nat.le_of_ble_eq_true rfl) (fun q => by cases q) (fun Γ h => ?_)
  refine g_lv [some _] rfl ?_
  rw [fX11_model] at hf
  refine g_aload_n h dX11_model_0 rfl ?_
  obtain ⟨r1, q1, hf⟩ := gbind hf
  refine g_cVr h (qX11_notFound (a0 := a0) q1) mX11_notFound lkX11_180 dX11_model_1 rfl rfl ⟨Nat.zero_le _, Nat.zero_le _⟩ ⟨by decide, by decide⟩ (Nat.le_of_ble_eq_true rfl) [0, 1, 2, 3, 4, 5, 6, 7, 8, 9, 10, 11, 12, 13, 14, 15] rfl rfl 0 rfl rfl ?_
  refine g_lconst (v := 0) h dX11_model_4 (by decide) ?_
  refine g_lcmp h dX11_model_5 ?_
  refine g_lif_eq h dX11_model_6 rfl (fun c6 => ?_) (fun c6 => ?_)
  · replace hf := ifp_t c6 hf
    refine g_aload_n h dX11_model_20 rfl ?_
    refine g_get h flX11_140 dX11_model_21 0 rfl rfl ?_
    refine g_i2l h dX11_model_24 ?_
    have er := Option.some.inj hf
    subst er
    exact g_lreturn h dX11_model_25 rfl ⟨Nat.zero_le _, Nat.zero_le _, rfl, rfl, rfl⟩
  · replace hf := ifp_f c6 hf
    refine g_aload_n h dX11_model_9 rfl ?_
    refine g_aload_n h dX11_model_10 rfl ?_
    obtain ⟨r11, q11, hf⟩ := gbind hf
    refine g_cVr h (qX11_notFound (a0 := a0) q11) mX11_notFound lkX11_180 dX11_model_11 rfl rfl ⟨Nat.zero_le _, Nat.zero_le _⟩ ⟨by decide, by decide⟩ (Nat.le_of_ble_eq_true rfl) [0, 1, 2, 3, 4, 5, 6, 7, 8, 9, 10, 11, 12, 13, 14, 15] rfl rfl 0 rfl rfl ?_
    obtain ⟨r14, q14, hf⟩ := gbind hf
    refine g_cVw (ws' := wRf E a0 r14.2) h (qX11_tellFinding (a0 := a0) q14) mX11_tellFinding lkX11_64 dX11_model_14 rfl rfl ⟨Nat.zero_le _, Nat.zero_le _⟩ ⟨by decide, by decide⟩ (Nat.le_of_ble_eq_true rfl) [0, 1, 2, 3, 4, 5, 6, 7, 8, 9, 10, 11, 12, 13, 14, 15] rfl rfl 0 rfl rfl mgX11_20 ?_
    refine g_goto h dX11_model_17 rfl ?_
    have er := Option.some.inj hf
    subst er
    exact g_lreturn h dX11_model_25 rfl ⟨Nat.zero_le _, Nat.zero_le _, rfl, rfl, rfl⟩
