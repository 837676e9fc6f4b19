set_option maxHeartbeats 4000000 in
set_option maxRecDepth 100000 in
theorem kX2_commonOf {l : Launch} {E : gE} {a0 b0 : Int64}  : CtrF l yX2_commonOf cX2_commonOf 7 (some .long) (gR 0 0) E [.long a0, .long b0] ([]) (some (.long (eu 100 a0 b0))) ([]) := by
  refine ctr_of false (plainFor_of_name (by decide)) (Nat.le_of_ble_eq_true rfl) (fun q => by cases q) (fun Γ h => ?_)
  refine g_lv [some _, none, some _, none, _, _, _] rfl ?_
  refine g_iconst (v := 0) h dX2_commonOf_0 (by decide) ?_
  refine g_istore (lv' := [some _, none, some _, none, some _, _, _]) h dX2_commonOf_1 (by decide) rfl ?_
  have loop3 : ∀ (j : Nat) (k : Nat) (a b : Int64) (o5 : Option Value) (_ : k ≤ 100) (_ : eu 100 a0 b0 = eu (100 - k) a b), 100 - k < j → Γ 0 0 3 [some (.long a), none, some (.long b), none, some (.int (nI k)), o5, none] [] [] := by
    intro j
    induction j with
    | zero => intro k a b o5 hk hinv hj; exact absurd hj (Nat.not_lt_zero _)
    | succ j ih =>
      intro k a b o5 hk hinv hj
      refine g_iload h dX2_commonOf_3 rfl ?_
      refine g_bipush (v := 100) h dX2_commonOf_5 (by decide) ?_
      refine g_ic_ge h dX2_commonOf_7 rfl (fun c7 => ?_) (fun c7 => ?_)
      · replace c7 := (nI_leI (a := 100) (by omega) (by omega)).mp c7
        refine g_lload_n h dX2_commonOf_32 rfl ?_
        refine g_lreturn h dX2_commonOf_33 rfl ⟨Nat.zero_le _, Nat.zero_le _, rfl, ?_, ?_⟩
        · first | (rw [hinv, show 100 - k = 0 by omega]; rfl) | (rw [hinv, c13, eu_z])
        · rfl
      · replace c7 := (not_congr (nI_leI (a := 100) (by omega) (by omega))).mp c7
        refine g_lload_n h dX2_commonOf_10 rfl ?_
        refine g_lconst (v := 0) h dX2_commonOf_11 (by decide) ?_
        refine g_lcmp h dX2_commonOf_12 ?_
        refine g_lif_eq h dX2_commonOf_13 rfl (fun c13 => ?_) (fun c13 => ?_)
        · refine g_lload_n h dX2_commonOf_32 rfl ?_
          refine g_lreturn h dX2_commonOf_33 rfl ⟨Nat.zero_le _, Nat.zero_le _, rfl, ?_, ?_⟩
          · first | (rw [hinv, show 100 - k = 0 by omega]; rfl) | (rw [hinv, c13, eu_z])
          · rfl
        · refine g_lload_n h dX2_commonOf_16 rfl ?_
          refine g_lload_n h dX2_commonOf_17 rfl ?_
          refine g_lrem h dX2_commonOf_18 c13 ?_
          refine g_lstore (lv' := [some _, none, some _, none, some _, some _, none]) h dX2_commonOf_19 (by decide) rfl ?_
          refine g_lload_n h dX2_commonOf_21 rfl ?_
          refine g_lstore_n (lv' := [some _, none, some _, none, some _, some _, none]) h dX2_commonOf_22 (by decide) rfl ?_
          refine g_lload h dX2_commonOf_23 rfl ?_
          refine g_lstore_n (lv' := [some _, none, some _, none, some _, some _, none]) h dX2_commonOf_25 (by decide) rfl ?_
          refine g_iinc (lv' := [some _, none, some _, none, some _, some _, none]) h dX2_commonOf_26 rfl (nI_inc1 _) (by decide) rfl ?_
          refine g_goto h dX2_commonOf_29 rfl ?_
          exact ih (k + 1) b _ _ (by omega) (by rw [hinv, show 100 - k = 100 - (k + 1) + 1 by omega, eu_s c13]) (by omega)
  exact loop3 _ 0 a0 b0 none (by omega) rfl (Nat.lt_succ_self _)
set_option maxHeartbeats 4000000 in
set_option maxRecDepth 100000 in
theorem kX2_lowest {l : Launch} {E : gE} {a u : Int64} {b : Bool}  : CtrF l yX2_lowest cX2_lowest 9 (some .long) (gR 1 26) E [.long a, .long u, .int (bI b)] ([]) (some (.long (lows a u b))) ([]) := by
  refine ctr_of false (plainFor_of_name (by decide)) (Nat.le_of_ble_eq_true rfl) (fun q => by cases q) (fun Γ h => ?_)
  refine g_lv [some _, none, some _, none, some _, _, _, _, _] rfl ?_
  refine g_iload h dX2_lowest_0 rfl ?_
  refine g_ifb_eq h dX2_lowest_2 rfl (fun c2 => ?_) (fun c2 => ?_)
  · refine g_lload_n h dX2_lowest_9 rfl ?_
    refine g_lstore (lv' := [some _, none, some _, none, some _, some _, none, _, _]) h dX2_lowest_10 (by decide) rfl ?_
    refine g_lload_n h dX2_lowest_12 rfl ?_
    refine g_cSr h kJ9_abs_067f4 mJ9_abs_067f4 lkX2_7 dX2_lowest_13 rfl rfl ⟨Nat.zero_le _, Nat.zero_le _⟩ ⟨by decide, by decide⟩ (Nat.le_of_ble_eq_true rfl) [] rfl rfl ?_
    refine g_lload_n h dX2_lowest_16 rfl ?_
    refine g_cSr h kX2_commonOf mX2_commonOf lkX2_13 dX2_lowest_17 rfl rfl ⟨Nat.zero_le _, Nat.zero_le _⟩ ⟨by decide, by decide⟩ (Nat.le_of_ble_eq_true rfl) [] rfl rfl ?_
    refine g_lstore (lv' := [some _, none, some _, none, some _, some _, none, some _, none]) h dX2_lowest_20 (by decide) rfl ?_
    refine g_lload h dX2_lowest_22 rfl ?_
    refine g_lconst (v := 1) h dX2_lowest_24 (by decide) ?_
    refine g_lcmp h dX2_lowest_25 ?_
    refine g_lif_le h dX2_lowest_26 rfl (fun c26 => ?_) (fun c26 => ?_)
    · refine g_lload h dX2_lowest_37 rfl ?_
      refine g_lreturn h dX2_lowest_39 rfl ⟨Nat.zero_le _, Nat.zero_le _, rfl, ?_, ?_⟩
      · subst c2
        first | exact congrArg (fun x => some (Value.long x)) (if_pos c26).symm | exact congrArg (fun x => some (Value.long x)) (if_neg c26).symm
      · rfl
    · refine g_lload h dX2_lowest_29 rfl ?_
      refine g_lload h dX2_lowest_31 rfl ?_
      refine g_ldiv h dX2_lowest_33 (fun q => by rw [q] at c26; exact c26 (by decide)) ?_
      refine g_goto h dX2_lowest_34 rfl ?_
      refine g_lreturn h dX2_lowest_39 rfl ⟨Nat.zero_le _, Nat.zero_le _, rfl, ?_, ?_⟩
      · subst c2
        first | exact congrArg (fun x => some (Value.long x)) (if_pos c26).symm | exact congrArg (fun x => some (Value.long x)) (if_neg c26).symm
      · rfl
  · refine g_lload_n h dX2_lowest_5 rfl ?_
    refine g_goto h dX2_lowest_6 rfl ?_
    refine g_lstore (lv' := [some _, none, some _, none, some _, some _, none, _, _]) h dX2_lowest_10 (by decide) rfl ?_
    refine g_lload_n h dX2_lowest_12 rfl ?_
    refine g_cSr h kJ9_abs_067f4 mJ9_abs_067f4 lkX2_7 dX2_lowest_13 rfl rfl ⟨Nat.zero_le _, Nat.zero_le _⟩ ⟨by decide, by decide⟩ (Nat.le_of_ble_eq_true rfl) [] rfl rfl ?_
    refine g_lload_n h dX2_lowest_16 rfl ?_
    refine g_cSr h kX2_commonOf mX2_commonOf lkX2_13 dX2_lowest_17 rfl rfl ⟨Nat.zero_le _, Nat.zero_le _⟩ ⟨by decide, by decide⟩ (Nat.le_of_ble_eq_true rfl) [] rfl rfl ?_
    refine g_lstore (lv' := [some _, none, some _, none, some _, some _, none, some _, none]) h dX2_lowest_20 (by decide) rfl ?_
    refine g_lload h dX2_lowest_22 rfl ?_
    refine g_lconst (v := 1) h dX2_lowest_24 (by decide) ?_
    refine g_lcmp h dX2_lowest_25 ?_
    refine g_lif_le h dX2_lowest_26 rfl (fun c26 => ?_) (fun c26 => ?_)
    · refine g_lload h dX2_lowest_37 rfl ?_
      refine g_lreturn h dX2_lowest_39 rfl ⟨Nat.zero_le _, Nat.zero_le _, rfl, ?_, ?_⟩
      · subst c2
        first | exact congrArg (fun x => some (Value.long x)) (if_pos c26).symm | exact congrArg (fun x => some (Value.long x)) (if_neg c26).symm
      · rfl
    · refine g_lload h dX2_lowest_29 rfl ?_
      refine g_lload h dX2_lowest_31 rfl ?_
      refine g_ldiv h dX2_lowest_33 (fun q => by rw [q] at c26; exact c26 (by decide)) ?_
      refine g_goto h dX2_lowest_34 rfl ?_
      refine g_lreturn h dX2_lowest_39 rfl ⟨Nat.zero_le _, Nat.zero_le _, rfl, ?_, ?_⟩
      · subst c2
        first | exact congrArg (fun x => some (Value.long x)) (if_pos c26).symm | exact congrArg (fun x => some (Value.long x)) (if_neg c26).symm
      · rfl
set_option maxHeartbeats 4000000 in
set_option maxRecDepth 100000 in
theorem kJ9_floorDiv_f86c9 {l : Launch} {E : gE} {a b : Int64} (hb : ¬ b = 0) : CtrF l yJ9_floorDiv_f86c9 cJ9_floorDiv_f86c9 6 (some .long) (gR 0 0) E [.long a, .long b] ([]) (some (.long (fdv a b))) ([]) := by
  refine ctr_of false (by decide +kernel) (Nat.le_of_ble_eq_true rfl) (fun q => by cases q) (fun Γ h => ?_)
  refine g_lv [some _, none, some _, none, _, _] rfl ?_
  refine g_lload_n h dJ9_floorDiv_f86c9_0 rfl ?_
  refine g_lload_n h dJ9_floorDiv_f86c9_1 rfl ?_
  refine g_ldiv h dJ9_floorDiv_f86c9_2 hb ?_
  refine g_lstore (lv' := [some _, none, some _, none, some _, none]) h dJ9_floorDiv_f86c9_3 (by decide) rfl ?_
  refine g_lload_n h dJ9_floorDiv_f86c9_5 rfl ?_
  refine g_lload_n h dJ9_floorDiv_f86c9_6 rfl ?_
  refine g_lxor h dJ9_floorDiv_f86c9_7 ?_
  refine g_lconst (v := 0) h dJ9_floorDiv_f86c9_8 (by decide) ?_
  refine g_lcmp h dJ9_floorDiv_f86c9_9 ?_
  refine g_lif_ge h dJ9_floorDiv_f86c9_10 rfl (fun c10 => ?_) (fun c10 => ?_)
  · refine g_lload h dJ9_floorDiv_f86c9_27 rfl ?_
    refine g_lreturn h dJ9_floorDiv_f86c9_29 rfl ⟨Nat.zero_le _, Nat.zero_le _, rfl, ?_, ?_⟩
    · first | (rw [fdv, if_pos c10]; done) | (rw [fdv, if_neg c10, if_pos c19]; done) | (rw [fdv, if_neg c10, if_neg c19]; done)
    · rfl
  · refine g_lload h dJ9_floorDiv_f86c9_13 rfl ?_
    refine g_lload_n h dJ9_floorDiv_f86c9_15 rfl ?_
    refine g_lmul h dJ9_floorDiv_f86c9_16 ?_
    refine g_lload_n h dJ9_floorDiv_f86c9_17 rfl ?_
    refine g_lcmp h dJ9_floorDiv_f86c9_18 ?_
    refine g_lif_eq h dJ9_floorDiv_f86c9_19 rfl (fun c19 => ?_) (fun c19 => ?_)
    · refine g_lload h dJ9_floorDiv_f86c9_27 rfl ?_
      refine g_lreturn h dJ9_floorDiv_f86c9_29 rfl ⟨Nat.zero_le _, Nat.zero_le _, rfl, ?_, ?_⟩
      · first | (rw [fdv, if_pos c10]; done) | (rw [fdv, if_neg c10, if_pos c19]; done) | (rw [fdv, if_neg c10, if_neg c19]; done)
      · rfl
    · refine g_lload h dJ9_floorDiv_f86c9_22 rfl ?_
      refine g_lconst (v := 1) h dJ9_floorDiv_f86c9_24 (by decide) ?_
      refine g_lsub h dJ9_floorDiv_f86c9_25 ?_
      refine g_lreturn h dJ9_floorDiv_f86c9_26 rfl ⟨Nat.zero_le _, Nat.zero_le _, rfl, ?_, ?_⟩
      · first | (rw [fdv, if_pos c10]; done) | (rw [fdv, if_neg c10, if_pos c19]; done) | (rw [fdv, if_neg c10, if_neg c19]; done)
      · rfl
set_option maxHeartbeats 4000000 in
set_option maxRecDepth 100000 in
theorem kJ9_floorMod_f86c9 {l : Launch} {E : gE} {a b : Int64} (hb : ¬ b = 0) : CtrF l yJ9_floorMod_f86c9 cJ9_floorMod_f86c9 6 (some .long) (gR 0 0) E [.long a, .long b] ([]) (some (.long (fmd a b))) ([]) := by
  refine ctr_of false (by decide +kernel) (Nat.le_of_ble_eq_true rfl) (fun q => by cases q) (fun Γ h => ?_)
  refine g_lv [some _, none, some _, none, _, _] rfl ?_
  refine g_lload_n h dJ9_floorMod_f86c9_0 rfl ?_
  refine g_lload_n h dJ9_floorMod_f86c9_1 rfl ?_
  refine g_lrem h dJ9_floorMod_f86c9_2 hb ?_
  refine g_lstore (lv' := [some _, none, some _, none, some _, none]) h dJ9_floorMod_f86c9_3 (by decide) rfl ?_
  refine g_lload_n h dJ9_floorMod_f86c9_5 rfl ?_
  refine g_lload_n h dJ9_floorMod_f86c9_6 rfl ?_
  refine g_lxor h dJ9_floorMod_f86c9_7 ?_
  refine g_lconst (v := 0) h dJ9_floorMod_f86c9_8 (by decide) ?_
  refine g_lcmp h dJ9_floorMod_f86c9_9 ?_
  refine g_lif_ge h dJ9_floorMod_f86c9_10 rfl (fun c10 => ?_) (fun c10 => ?_)
  · refine g_lload h dJ9_floorMod_f86c9_25 rfl ?_
    refine g_lreturn h dJ9_floorMod_f86c9_27 rfl ⟨Nat.zero_le _, Nat.zero_le _, rfl, ?_, ?_⟩
    · first | (rw [fmd, if_pos c10]; done) | (rw [fmd, if_neg c10, if_pos c17]; done) | (rw [fmd, if_neg c10, if_neg c17]; done)
    · rfl
  · refine g_lload h dJ9_floorMod_f86c9_13 rfl ?_
    refine g_lconst (v := 0) h dJ9_floorMod_f86c9_15 (by decide) ?_
    refine g_lcmp h dJ9_floorMod_f86c9_16 ?_
    refine g_lif_eq h dJ9_floorMod_f86c9_17 rfl (fun c17 => ?_) (fun c17 => ?_)
    · refine g_lload h dJ9_floorMod_f86c9_25 rfl ?_
      refine g_lreturn h dJ9_floorMod_f86c9_27 rfl ⟨Nat.zero_le _, Nat.zero_le _, rfl, ?_, ?_⟩
      · first | (rw [fmd, if_pos c10]; done) | (rw [fmd, if_neg c10, if_pos c17]; done) | (rw [fmd, if_neg c10, if_neg c17]; done)
      · rfl
    · refine g_lload h dJ9_floorMod_f86c9_20 rfl ?_
      refine g_lload_n h dJ9_floorMod_f86c9_22 rfl ?_
      refine g_ladd h dJ9_floorMod_f86c9_23 ?_
      refine g_lreturn h dJ9_floorMod_f86c9_24 rfl ⟨Nat.zero_le _, Nat.zero_le _, rfl, ?_, ?_⟩
      · first | (rw [fmd, if_pos c10]; done) | (rw [fmd, if_neg c10, if_pos c17]; done) | (rw [fmd, if_neg c10, if_neg c17]; done)
      · rfl
set_option maxHeartbeats 4000000 in
set_option maxRecDepth 100000 in
theorem kJ13_compare_74951 {l : Launch} {E : gE} {x y : Int64}  : CtrF l yJ13_compare_74951 cJ13_compare_74951 4 (some .int) (gR 0 0) E [.long x, .long y] ([]) (some (.int (cmpL x y))) ([]) := by
  refine ctr_of false (by decide +kernel) (Nat.le_of_ble_eq_true rfl) (fun q => by cases q) (fun Γ h => ?_)
  refine g_lv [some _, none, some _, none] rfl ?_
  refine g_lload_n h dJ13_compare_74951_0 rfl ?_
  refine g_lload_n h dJ13_compare_74951_1 rfl ?_
  refine g_lcmp h dJ13_compare_74951_2 ?_
  refine g_lif_ge h dJ13_compare_74951_3 rfl (fun c3 => ?_) (fun c3 => ?_)
  · refine g_lload_n h dJ13_compare_74951_10 rfl ?_
    refine g_lload_n h dJ13_compare_74951_11 rfl ?_
    refine g_lcmp h dJ13_compare_74951_12 ?_
    refine g_lif_ne h dJ13_compare_74951_13 rfl (fun c13 => ?_) (fun c13 => ?_)
    · refine g_iconst (v := 1) h dJ13_compare_74951_20 (by decide) ?_
      refine g_ireturn h dJ13_compare_74951_21 rfl rfl ⟨Nat.zero_le _, Nat.zero_le _, rfl, ?_, ?_⟩
      · first | (rw [cmpL, if_neg c3]; done) | (rw [cmpL, if_pos c3, if_pos c13]; done) | (rw [cmpL, if_pos c3, if_neg c13]; done)
      · rfl
    · refine g_iconst (v := 0) h dJ13_compare_74951_16 (by decide) ?_
      refine g_goto h dJ13_compare_74951_17 rfl ?_
      refine g_ireturn h dJ13_compare_74951_21 rfl rfl ⟨Nat.zero_le _, Nat.zero_le _, rfl, ?_, ?_⟩
      · first | (rw [cmpL, if_neg c3]; done) | (rw [cmpL, if_pos c3, if_pos c13]; done) | (rw [cmpL, if_pos c3, if_neg c13]; done)
      · rfl
  · refine g_iconst (v := (-1)) h dJ13_compare_74951_6 (by decide) ?_
    refine g_goto h dJ13_compare_74951_7 rfl ?_
    refine g_ireturn h dJ13_compare_74951_21 rfl rfl ⟨Nat.zero_le _, Nat.zero_le _, rfl, ?_, ?_⟩
    · first | (rw [cmpL, if_neg c3]; done) | (rw [cmpL, if_pos c3, if_pos c13]; done) | (rw [cmpL, if_pos c3, if_neg c13]; done)
    · rfl
set_option maxHeartbeats 4000000 in
set_option maxRecDepth 100000 in
theorem kJ6_bitCount_0f7a4 {l : Launch} {E : gE} {k : Nat} (hk : k < 256) : CtrF l yJ6_bitCount_0f7a4 cJ6_bitCount_0f7a4 1 (some .int) (gR 0 0) E [.int (nI k)] ([]) (some (.int (nI (popc k)))) ([]) := by
  refine ctr_of false (by decide +kernel) (Nat.le_of_ble_eq_true rfl) (fun q => by cases q) (fun Γ h => ?_)
  refine g_lv [some _] rfl ?_
  refine g_iload_n h dJ6_bitCount_0f7a4_0 rfl ?_
  refine g_iload_n h dJ6_bitCount_0f7a4_1 rfl ?_
  refine g_iconst (v := 1) h dJ6_bitCount_0f7a4_2 (by decide) ?_
  refine g_iushr h dJ6_bitCount_0f7a4_3 ?_
  refine g_ldcw (v := 1431655765) h dJ6_bitCount_0f7a4_4 (gtm (by decide +kernel)) ?_
  refine g_iand h dJ6_bitCount_0f7a4_7 ?_
  refine g_isub h dJ6_bitCount_0f7a4_8 ?_
  refine g_topi (bc1 (nI k)) rfl ?_
  refine g_istore_n (lv' := [some _]) h dJ6_bitCount_0f7a4_9 (by decide) rfl ?_
  refine g_iload_n h dJ6_bitCount_0f7a4_10 rfl ?_
  refine g_ldcw (v := 858993459) h dJ6_bitCount_0f7a4_11 (gtm (by decide +kernel)) ?_
  refine g_iand h dJ6_bitCount_0f7a4_14 ?_
  refine g_iload_n h dJ6_bitCount_0f7a4_15 rfl ?_
  refine g_iconst (v := 2) h dJ6_bitCount_0f7a4_16 (by decide) ?_
  refine g_iushr h dJ6_bitCount_0f7a4_17 ?_
  refine g_ldcw (v := 858993459) h dJ6_bitCount_0f7a4_18 (gtm (by decide +kernel)) ?_
  refine g_iand h dJ6_bitCount_0f7a4_21 ?_
  refine g_iadd h dJ6_bitCount_0f7a4_22 ?_
  refine g_topi (bc2 (bc1 (nI k))) rfl ?_
  refine g_istore_n (lv' := [some _]) h dJ6_bitCount_0f7a4_23 (by decide) rfl ?_
  refine g_iload_n h dJ6_bitCount_0f7a4_24 rfl ?_
  refine g_iload_n h dJ6_bitCount_0f7a4_25 rfl ?_
  refine g_iconst (v := 4) h dJ6_bitCount_0f7a4_26 (by decide) ?_
  refine g_iushr h dJ6_bitCount_0f7a4_27 ?_
  refine g_iadd h dJ6_bitCount_0f7a4_28 ?_
  refine g_ldcw (v := 252645135) h dJ6_bitCount_0f7a4_29 (gtm (by decide +kernel)) ?_
  refine g_iand h dJ6_bitCount_0f7a4_32 ?_
  refine g_topi (bc3 (bc2 (bc1 (nI k)))) rfl ?_
  refine g_istore_n (lv' := [some _]) h dJ6_bitCount_0f7a4_33 (by decide) rfl ?_
  refine g_iload_n h dJ6_bitCount_0f7a4_34 rfl ?_
  refine g_iload_n h dJ6_bitCount_0f7a4_35 rfl ?_
  refine g_bipush (v := 8) h dJ6_bitCount_0f7a4_36 (by decide) ?_
  refine g_iushr h dJ6_bitCount_0f7a4_38 ?_
  refine g_iadd h dJ6_bitCount_0f7a4_39 ?_
  refine g_topi (bc4 (bc3 (bc2 (bc1 (nI k))))) rfl ?_
  refine g_istore_n (lv' := [some _]) h dJ6_bitCount_0f7a4_40 (by decide) rfl ?_
  refine g_iload_n h dJ6_bitCount_0f7a4_41 rfl ?_
  refine g_iload_n h dJ6_bitCount_0f7a4_42 rfl ?_
  refine g_bipush (v := 16) h dJ6_bitCount_0f7a4_43 (by decide) ?_
  refine g_iushr h dJ6_bitCount_0f7a4_45 ?_
  refine g_iadd h dJ6_bitCount_0f7a4_46 ?_
  refine g_topi (bc5 (bc4 (bc3 (bc2 (bc1 (nI k)))))) rfl ?_
  refine g_istore_n (lv' := [some _]) h dJ6_bitCount_0f7a4_47 (by decide) rfl ?_
  refine g_iload_n h dJ6_bitCount_0f7a4_48 rfl ?_
  refine g_bipush (v := 63) h dJ6_bitCount_0f7a4_49 (by decide) ?_
  refine g_iand h dJ6_bitCount_0f7a4_51 ?_
  refine g_topi (nI (popc k)) (bcE_ok k hk) ?_
  refine g_ireturn h dJ6_bitCount_0f7a4_52 rfl rfl ⟨Nat.zero_le _, Nat.zero_le _, rfl, ?_, ?_⟩
  · rfl
  · rfl
