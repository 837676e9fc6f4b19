set_option maxHeartbeats 4000000 in
set_option maxRecDepth 100000 in
theorem kX0_allows {l : Launch} {E : gE} {x a b : Int32}  : CtrF l yX0_allows cX0_allows 3 (some .boolean) (gR 1 22) E [.int x, .int a, .int b] ([]) (some (.int (bI (allw x a b)))) ([]) := by
  refine ctr_of false (plainFor_of_name (by decide)) (Nat.le_of_ble_eq_true rfl) (fun q => by cases q) (fun Γ h => ?_)
  refine g_lv [some _, some _, some _] rfl ?_
  refine g_iload_n h dX0_allows_0 rfl ?_
  refine g_ts6_0 h dX0_allows_1 rfl rfl rfl rfl rfl rfl rfl (fun c1 => ?_) (fun c1 => ?_) (fun c1 => ?_) (fun c1 => ?_) (fun c1 => ?_) (fun c1 => ?_) (fun c1 => ?_)
  · refine g_iconst (v := 1) h dX0_allows_40 (by decide) ?_
    refine g_ireturn h dX0_allows_41 rfl (by first | rfl | exact bI_nar _) ⟨Nat.zero_le _, Nat.zero_le _, rfl, ?_, ?_⟩
    · first | (rw [allw, if_pos c1]; rfl) | (rw [allw, if_neg (by omega), if_pos (by omega), c48]; rfl) | (rw [allw, if_neg (by omega), if_pos (by omega), c48, c57]; rfl) | (rw [allw, if_neg (by omega), if_neg (by omega), if_pos (by omega), c73]; rfl) | (rw [allw, if_neg (by omega), if_neg (by omega), if_pos (by omega), c73, c83]; rfl) | (rw [allw, if_neg (by omega), if_neg (by omega), if_neg (by omega)]; rfl)
    · rfl
  · refine g_iload_n h dX0_allows_42 rfl ?_
    refine g_iconst (v := 0) h dX0_allows_43 (by decide) ?_
    refine g_iconst (v := 3) h dX0_allows_44 (by decide) ?_
    refine g_cSr h kX2_within mX2_within lkX0_24 dX0_allows_45 rfl rfl ⟨Nat.zero_le _, Nat.zero_le _⟩ ⟨by decide, by decide⟩ (Nat.le_of_ble_eq_true rfl) [] rfl rfl ?_
    refine g_ifb_eq h dX0_allows_48 rfl (fun c48 => ?_) (fun c48 => ?_)
    · refine g_iconst (v := 0) h dX0_allows_64 (by decide) ?_
      refine g_ireturn h dX0_allows_65 rfl (by first | rfl | exact bI_nar _) ⟨Nat.zero_le _, Nat.zero_le _, rfl, ?_, ?_⟩
      · first | (rw [allw, if_pos c1]; rfl) | (rw [allw, if_neg (by omega), if_pos (by omega), c48]; rfl) | (rw [allw, if_neg (by omega), if_pos (by omega), c48, c57]; rfl) | (rw [allw, if_neg (by omega), if_neg (by omega), if_pos (by omega), c73]; rfl) | (rw [allw, if_neg (by omega), if_neg (by omega), if_pos (by omega), c73, c83]; rfl) | (rw [allw, if_neg (by omega), if_neg (by omega), if_neg (by omega)]; rfl)
      · rfl
    · refine g_iload_n h dX0_allows_51 rfl ?_
      refine g_iconst (v := 1) h dX0_allows_52 (by decide) ?_
      refine g_iconst (v := 3) h dX0_allows_53 (by decide) ?_
      refine g_cSr h kX2_within mX2_within lkX0_24 dX0_allows_54 rfl rfl ⟨Nat.zero_le _, Nat.zero_le _⟩ ⟨by decide, by decide⟩ (Nat.le_of_ble_eq_true rfl) [] rfl rfl ?_
      refine g_ifb_eq h dX0_allows_57 rfl (fun c57 => ?_) (fun c57 => ?_)
      · refine g_iconst (v := 0) h dX0_allows_64 (by decide) ?_
        refine g_ireturn h dX0_allows_65 rfl (by first | rfl | exact bI_nar _) ⟨Nat.zero_le _, Nat.zero_le _, rfl, ?_, ?_⟩
        · first | (rw [allw, if_pos c1]; rfl) | (rw [allw, if_neg (by omega), if_pos (by omega), c48]; rfl) | (rw [allw, if_neg (by omega), if_pos (by omega), c48, c57]; rfl) | (rw [allw, if_neg (by omega), if_neg (by omega), if_pos (by omega), c73]; rfl) | (rw [allw, if_neg (by omega), if_neg (by omega), if_pos (by omega), c73, c83]; rfl) | (rw [allw, if_neg (by omega), if_neg (by omega), if_neg (by omega)]; rfl)
        · rfl
      · refine g_iconst (v := 1) h dX0_allows_60 (by decide) ?_
        refine g_goto h dX0_allows_61 rfl ?_
        refine g_ireturn h dX0_allows_65 rfl (by first | rfl | exact bI_nar _) ⟨Nat.zero_le _, Nat.zero_le _, rfl, ?_, ?_⟩
        · first | (rw [allw, if_pos c1]; rfl) | (rw [allw, if_neg (by omega), if_pos (by omega), c48]; rfl) | (rw [allw, if_neg (by omega), if_pos (by omega), c48, c57]; rfl) | (rw [allw, if_neg (by omega), if_neg (by omega), if_pos (by omega), c73]; rfl) | (rw [allw, if_neg (by omega), if_neg (by omega), if_pos (by omega), c73, c83]; rfl) | (rw [allw, if_neg (by omega), if_neg (by omega), if_neg (by omega)]; rfl)
        · rfl
  · refine g_iload_n h dX0_allows_66 rfl ?_
    refine g_bipush (v := (-2)) h dX0_allows_67 (by decide) ?_
    refine g_iconst (v := 2) h dX0_allows_69 (by decide) ?_
    refine g_cSr h kX2_within mX2_within lkX0_24 dX0_allows_70 rfl rfl ⟨Nat.zero_le _, Nat.zero_le _⟩ ⟨by decide, by decide⟩ (Nat.le_of_ble_eq_true rfl) [] rfl rfl ?_
    refine g_ifb_eq h dX0_allows_73 rfl (fun c73 => ?_) (fun c73 => ?_)
    · refine g_iconst (v := 0) h dX0_allows_90 (by decide) ?_
      refine g_ireturn h dX0_allows_91 rfl (by first | rfl | exact bI_nar _) ⟨Nat.zero_le _, Nat.zero_le _, rfl, ?_, ?_⟩
      · first | (rw [allw, if_pos c1]; rfl) | (rw [allw, if_neg (by omega), if_pos (by omega), c48]; rfl) | (rw [allw, if_neg (by omega), if_pos (by omega), c48, c57]; rfl) | (rw [allw, if_neg (by omega), if_neg (by omega), if_pos (by omega), c73]; rfl) | (rw [allw, if_neg (by omega), if_neg (by omega), if_pos (by omega), c73, c83]; rfl) | (rw [allw, if_neg (by omega), if_neg (by omega), if_neg (by omega)]; rfl)
      · rfl
    · refine g_iload_n h dX0_allows_76 rfl ?_
      refine g_bipush (v := (-2)) h dX0_allows_77 (by decide) ?_
      refine g_iconst (v := 2) h dX0_allows_79 (by decide) ?_
      refine g_cSr h kX2_within mX2_within lkX0_24 dX0_allows_80 rfl rfl ⟨Nat.zero_le _, Nat.zero_le _⟩ ⟨by decide, by decide⟩ (Nat.le_of_ble_eq_true rfl) [] rfl rfl ?_
      refine g_ifb_eq h dX0_allows_83 rfl (fun c83 => ?_) (fun c83 => ?_)
      · refine g_iconst (v := 0) h dX0_allows_90 (by decide) ?_
        refine g_ireturn h dX0_allows_91 rfl (by first | rfl | exact bI_nar _) ⟨Nat.zero_le _, Nat.zero_le _, rfl, ?_, ?_⟩
        · first | (rw [allw, if_pos c1]; rfl) | (rw [allw, if_neg (by omega), if_pos (by omega), c48]; rfl) | (rw [allw, if_neg (by omega), if_pos (by omega), c48, c57]; rfl) | (rw [allw, if_neg (by omega), if_neg (by omega), if_pos (by omega), c73]; rfl) | (rw [allw, if_neg (by omega), if_neg (by omega), if_pos (by omega), c73, c83]; rfl) | (rw [allw, if_neg (by omega), if_neg (by omega), if_neg (by omega)]; rfl)
        · rfl
      · refine g_iconst (v := 1) h dX0_allows_86 (by decide) ?_
        refine g_goto h dX0_allows_87 rfl ?_
        refine g_ireturn h dX0_allows_91 rfl (by first | rfl | exact bI_nar _) ⟨Nat.zero_le _, Nat.zero_le _, rfl, ?_, ?_⟩
        · first | (rw [allw, if_pos c1]; rfl) | (rw [allw, if_neg (by omega), if_pos (by omega), c48]; rfl) | (rw [allw, if_neg (by omega), if_pos (by omega), c48, c57]; rfl) | (rw [allw, if_neg (by omega), if_neg (by omega), if_pos (by omega), c73]; rfl) | (rw [allw, if_neg (by omega), if_neg (by omega), if_pos (by omega), c73, c83]; rfl) | (rw [allw, if_neg (by omega), if_neg (by omega), if_neg (by omega)]; rfl)
        · rfl
  · refine g_iload_n h dX0_allows_66 rfl ?_
    refine g_bipush (v := (-2)) h dX0_allows_67 (by decide) ?_
    refine g_iconst (v := 2) h dX0_allows_69 (by decide) ?_
    refine g_cSr h kX2_within mX2_within lkX0_24 dX0_allows_70 rfl rfl ⟨Nat.zero_le _, Nat.zero_le _⟩ ⟨by decide, by decide⟩ (Nat.le_of_ble_eq_true rfl) [] rfl rfl ?_
    refine g_ifb_eq h dX0_allows_73 rfl (fun c73 => ?_) (fun c73 => ?_)
    · refine g_iconst (v := 0) h dX0_allows_90 (by decide) ?_
      refine g_ireturn h dX0_allows_91 rfl (by first | rfl | exact bI_nar _) ⟨Nat.zero_le _, Nat.zero_le _, rfl, ?_, ?_⟩
      · first | (rw [allw, if_pos c1]; rfl) | (rw [allw, if_neg (by omega), if_pos (by omega), c48]; rfl) | (rw [allw, if_neg (by omega), if_pos (by omega), c48, c57]; rfl) | (rw [allw, if_neg (by omega), if_neg (by omega), if_pos (by omega), c73]; rfl) | (rw [allw, if_neg (by omega), if_neg (by omega), if_pos (by omega), c73, c83]; rfl) | (rw [allw, if_neg (by omega), if_neg (by omega), if_neg (by omega)]; rfl)
      · rfl
    · refine g_iload_n h dX0_allows_76 rfl ?_
      refine g_bipush (v := (-2)) h dX0_allows_77 (by decide) ?_
      refine g_iconst (v := 2) h dX0_allows_79 (by decide) ?_
      refine g_cSr h kX2_within mX2_within lkX0_24 dX0_allows_80 rfl rfl ⟨Nat.zero_le _, Nat.zero_le _⟩ ⟨by decide, by decide⟩ (Nat.le_of_ble_eq_true rfl) [] rfl rfl ?_
      refine g_ifb_eq h dX0_allows_83 rfl (fun c83 => ?_) (fun c83 => ?_)
      · refine g_iconst (v := 0) h dX0_allows_90 (by decide) ?_
        refine g_ireturn h dX0_allows_91 rfl (by first | rfl | exact bI_nar _) ⟨Nat.zero_le _, Nat.zero_le _, rfl, ?_, ?_⟩
        · first | (rw [allw, if_pos c1]; rfl) | (rw [allw, if_neg (by omega), if_pos (by omega), c48]; rfl) | (rw [allw, if_neg (by omega), if_pos (by omega), c48, c57]; rfl) | (rw [allw, if_neg (by omega), if_neg (by omega), if_pos (by omega), c73]; rfl) | (rw [allw, if_neg (by omega), if_neg (by omega), if_pos (by omega), c73, c83]; rfl) | (rw [allw, if_neg (by omega), if_neg (by omega), if_neg (by omega)]; rfl)
        · rfl
      · refine g_iconst (v := 1) h dX0_allows_86 (by decide) ?_
        refine g_goto h dX0_allows_87 rfl ?_
        refine g_ireturn h dX0_allows_91 rfl (by first | rfl | exact bI_nar _) ⟨Nat.zero_le _, Nat.zero_le _, rfl, ?_, ?_⟩
        · first | (rw [allw, if_pos c1]; rfl) | (rw [allw, if_neg (by omega), if_pos (by omega), c48]; rfl) | (rw [allw, if_neg (by omega), if_pos (by omega), c48, c57]; rfl) | (rw [allw, if_neg (by omega), if_neg (by omega), if_pos (by omega), c73]; rfl) | (rw [allw, if_neg (by omega), if_neg (by omega), if_pos (by omega), c73, c83]; rfl) | (rw [allw, if_neg (by omega), if_neg (by omega), if_neg (by omega)]; rfl)
        · rfl
  · refine g_iload_n h dX0_allows_66 rfl ?_
    refine g_bipush (v := (-2)) h dX0_allows_67 (by decide) ?_
    refine g_iconst (v := 2) h dX0_allows_69 (by decide) ?_
    refine g_cSr h kX2_within mX2_within lkX0_24 dX0_allows_70 rfl rfl ⟨Nat.zero_le _, Nat.zero_le _⟩ ⟨by decide, by decide⟩ (Nat.le_of_ble_eq_true rfl) [] rfl rfl ?_
    refine g_ifb_eq h dX0_allows_73 rfl (fun c73 => ?_) (fun c73 => ?_)
    · refine g_iconst (v := 0) h dX0_allows_90 (by decide) ?_
      refine g_ireturn h dX0_allows_91 rfl (by first | rfl | exact bI_nar _) ⟨Nat.zero_le _, Nat.zero_le _, rfl, ?_, ?_⟩
      · first | (rw [allw, if_pos c1]; rfl) | (rw [allw, if_neg (by omega), if_pos (by omega), c48]; rfl) | (rw [allw, if_neg (by omega), if_pos (by omega), c48, c57]; rfl) | (rw [allw, if_neg (by omega), if_neg (by omega), if_pos (by omega), c73]; rfl) | (rw [allw, if_neg (by omega), if_neg (by omega), if_pos (by omega), c73, c83]; rfl) | (rw [allw, if_neg (by omega), if_neg (by omega), if_neg (by omega)]; rfl)
      · rfl
    · refine g_iload_n h dX0_allows_76 rfl ?_
      refine g_bipush (v := (-2)) h dX0_allows_77 (by decide) ?_
      refine g_iconst (v := 2) h dX0_allows_79 (by decide) ?_
      refine g_cSr h kX2_within mX2_within lkX0_24 dX0_allows_80 rfl rfl ⟨Nat.zero_le _, Nat.zero_le _⟩ ⟨by decide, by decide⟩ (Nat.le_of_ble_eq_true rfl) [] rfl rfl ?_
      refine g_ifb_eq h dX0_allows_83 rfl (fun c83 => ?_) (fun c83 => ?_)
      · refine g_iconst (v := 0) h dX0_allows_90 (by decide) ?_
        refine g_ireturn h dX0_allows_91 rfl (by first | rfl | exact bI_nar _) ⟨Nat.zero_le _, Nat.zero_le _, rfl, ?_, ?_⟩
        · first | (rw [allw, if_pos c1]; rfl) | (rw [allw, if_neg (by omega), if_pos (by omega), c48]; rfl) | (rw [allw, if_neg (by omega), if_pos (by omega), c48, c57]; rfl) | (rw [allw, if_neg (by omega), if_neg (by omega), if_pos (by omega), c73]; rfl) | (rw [allw, if_neg (by omega), if_neg (by omega), if_pos (by omega), c73, c83]; rfl) | (rw [allw, if_neg (by omega), if_neg (by omega), if_neg (by omega)]; rfl)
        · rfl
      · refine g_iconst (v := 1) h dX0_allows_86 (by decide) ?_
        refine g_goto h dX0_allows_87 rfl ?_
        refine g_ireturn h dX0_allows_91 rfl (by first | rfl | exact bI_nar _) ⟨Nat.zero_le _, Nat.zero_le _, rfl, ?_, ?_⟩
        · first | (rw [allw, if_pos c1]; rfl) | (rw [allw, if_neg (by omega), if_pos (by omega), c48]; rfl) | (rw [allw, if_neg (by omega), if_pos (by omega), c48, c57]; rfl) | (rw [allw, if_neg (by omega), if_neg (by omega), if_pos (by omega), c73]; rfl) | (rw [allw, if_neg (by omega), if_neg (by omega), if_pos (by omega), c73, c83]; rfl) | (rw [allw, if_neg (by omega), if_neg (by omega), if_neg (by omega)]; rfl)
        · rfl
  · refine g_iload_n h dX0_allows_42 rfl ?_
    refine g_iconst (v := 0) h dX0_allows_43 (by decide) ?_
    refine g_iconst (v := 3) h dX0_allows_44 (by decide) ?_
    refine g_cSr h kX2_within mX2_within lkX0_24 dX0_allows_45 rfl rfl ⟨Nat.zero_le _, Nat.zero_le _⟩ ⟨by decide, by decide⟩ (Nat.le_of_ble_eq_true rfl) [] rfl rfl ?_
    refine g_ifb_eq h dX0_allows_48 rfl (fun c48 => ?_) (fun c48 => ?_)
    · refine g_iconst (v := 0) h dX0_allows_64 (by decide) ?_
      refine g_ireturn h dX0_allows_65 rfl (by first | rfl | exact bI_nar _) ⟨Nat.zero_le _, Nat.zero_le _, rfl, ?_, ?_⟩
      · first | (rw [allw, if_pos c1]; rfl) | (rw [allw, if_neg (by omega), if_pos (by omega), c48]; rfl) | (rw [allw, if_neg (by omega), if_pos (by omega), c48, c57]; rfl) | (rw [allw, if_neg (by omega), if_neg (by omega), if_pos (by omega), c73]; rfl) | (rw [allw, if_neg (by omega), if_neg (by omega), if_pos (by omega), c73, c83]; rfl) | (rw [allw, if_neg (by omega), if_neg (by omega), if_neg (by omega)]; rfl)
      · rfl
    · refine g_iload_n h dX0_allows_51 rfl ?_
      refine g_iconst (v := 1) h dX0_allows_52 (by decide) ?_
      refine g_iconst (v := 3) h dX0_allows_53 (by decide) ?_
      refine g_cSr h kX2_within mX2_within lkX0_24 dX0_allows_54 rfl rfl ⟨Nat.zero_le _, Nat.zero_le _⟩ ⟨by decide, by decide⟩ (Nat.le_of_ble_eq_true rfl) [] rfl rfl ?_
      refine g_ifb_eq h dX0_allows_57 rfl (fun c57 => ?_) (fun c57 => ?_)
      · refine g_iconst (v := 0) h dX0_allows_64 (by decide) ?_
        refine g_ireturn h dX0_allows_65 rfl (by first | rfl | exact bI_nar _) ⟨Nat.zero_le _, Nat.zero_le _, rfl, ?_, ?_⟩
        · first | (rw [allw, if_pos c1]; rfl) | (rw [allw, if_neg (by omega), if_pos (by omega), c48]; rfl) | (rw [allw, if_neg (by omega), if_pos (by omega), c48, c57]; rfl) | (rw [allw, if_neg (by omega), if_neg (by omega), if_pos (by omega), c73]; rfl) | (rw [allw, if_neg (by omega), if_neg (by omega), if_pos (by omega), c73, c83]; rfl) | (rw [allw, if_neg (by omega), if_neg (by omega), if_neg (by omega)]; rfl)
        · rfl
      · refine g_iconst (v := 1) h dX0_allows_60 (by decide) ?_
        refine g_goto h dX0_allows_61 rfl ?_
        refine g_ireturn h dX0_allows_65 rfl (by first | rfl | exact bI_nar _) ⟨Nat.zero_le _, Nat.zero_le _, rfl, ?_, ?_⟩
        · first | (rw [allw, if_pos c1]; rfl) | (rw [allw, if_neg (by omega), if_pos (by omega), c48]; rfl) | (rw [allw, if_neg (by omega), if_pos (by omega), c48, c57]; rfl) | (rw [allw, if_neg (by omega), if_neg (by omega), if_pos (by omega), c73]; rfl) | (rw [allw, if_neg (by omega), if_neg (by omega), if_pos (by omega), c73, c83]; rfl) | (rw [allw, if_neg (by omega), if_neg (by omega), if_neg (by omega)]; rfl)
        · rfl
  · refine g_iconst (v := 0) h dX0_allows_92 (by decide) ?_
    refine g_ireturn h dX0_allows_93 rfl (by first | rfl | exact bI_nar _) ⟨Nat.zero_le _, Nat.zero_le _, rfl, ?_, ?_⟩
    · first | (rw [allw, if_pos c1]; rfl) | (rw [allw, if_neg (by omega), if_pos (by omega), c48]; rfl) | (rw [allw, if_neg (by omega), if_pos (by omega), c48, c57]; rfl) | (rw [allw, if_neg (by omega), if_neg (by omega), if_pos (by omega), c73]; rfl) | (rw [allw, if_neg (by omega), if_neg (by omega), if_pos (by omega), c73, c83]; rfl) | (rw [allw, if_neg (by omega), if_neg (by omega), if_neg (by omega)]; rfl)
    · rfl
set_option maxHeartbeats 4000000 in
set_option maxRecDepth 100000 in
theorem kX0_length {l : Launch} {E : gE} {h0 h1 h2 h3 h4 n : Nat} {kd fa fb : Nat → Int32}  : CtrF l yX0_length cX0_length 1 (some .int) (gR 1 20) E [.ref h0] (wCa E h0 h1 h2 h3 h4 kd n fa fb) (some (.int (nI n))) (wCa E h0 h1 h2 h3 h4 kd n fa fb) := by
  refine ctr_of false (plainFor_of_name (by decide)) (Nat.le_of_ble_eq_true rfl) (fun q => by cases q) (fun Γ h => ?_)
  refine g_lv [some _] rfl ?_
  refine g_aload_n h dX0_length_0 rfl ?_
  refine g_get h flX0_20 dX0_length_1 0 rfl rfl ?_
  refine g_cVr h kX3_length mX3_length lkX0_30 dX0_length_4 rfl rfl ⟨Nat.zero_le _, Nat.zero_le _⟩ ⟨by decide, by decide⟩ (Nat.le_of_ble_eq_true rfl) [2, 3, 4] rfl rfl 2 rfl rfl ?_
  refine g_ireturn h dX0_length_7 rfl rfl ⟨Nat.zero_le _, Nat.zero_le _, rfl, ?_, ?_⟩
  · rfl
  · rfl
set_option maxHeartbeats 4000000 in
set_option maxRecDepth 100000 in
theorem kX0_has {l : Launch} {E : gE} {h0 h1 h2 h3 h4 n : Nat} {kd fa fb : Nat → Int32} {i : Int32} (hn : n ≤ 8) : CtrF l yX0_has cX0_has 2 (some .boolean) (gR 1 21) E [.ref h0, .int i] (wCa E h0 h1 h2 h3 h4 kd n fa fb) (some (.int (bI (pin i n)))) (wCa E h0 h1 h2 h3 h4 kd n fa fb) := by
  refine ctr_of false (plainFor_of_name (by decide)) (Nat.le_of_ble_eq_true rfl) (fun q => by cases q) (fun Γ h => ?_)
  refine g_lv [some _, some _] rfl ?_
  refine g_aload_n h dX0_has_0 rfl ?_
  refine g_get h flX0_20 dX0_has_1 0 rfl rfl ?_
  refine g_iload_n h dX0_has_4 rfl ?_
  refine g_cVr h (kX3_has (nat8 hn)) mX3_has lkX0_34 dX0_has_5 rfl rfl ⟨Nat.zero_le _, Nat.zero_le _⟩ ⟨by decide, by decide⟩ (Nat.le_of_ble_eq_true rfl) [2, 3, 4] rfl rfl 2 rfl rfl ?_
  refine g_ireturn h dX0_has_8 rfl (bI_nar _) ⟨Nat.zero_le _, Nat.zero_le _, rfl, ?_, ?_⟩
  · rfl
  · rfl
set_option maxHeartbeats 4000000 in
set_option maxRecDepth 100000 in
theorem kX0_isFull {l : Launch} {E : gE} {h0 h1 h2 h3 h4 n : Nat} {kd fa fb : Nat → Int32} (hn : n ≤ 8) : CtrF l yX0_isFull cX0_isFull 1 (some .boolean) (gR 1 20) E [.ref h0] (wCa E h0 h1 h2 h3 h4 kd n fa fb) (some (.int (bI (decide (8 ≤ n))))) (wCa E h0 h1 h2 h3 h4 kd n fa fb) := by
  refine ctr_of false (plainFor_of_name (by decide)) (Nat.le_of_ble_eq_true rfl) (fun q => by cases q) (fun Γ h => ?_)
  refine g_lv [some _] rfl ?_
  refine g_aload_n h dX0_isFull_0 rfl ?_
  refine g_get h flX0_20 dX0_isFull_1 0 rfl rfl ?_
  refine g_cVr h (kX3_isFull (nat8 hn) (by decide)) mX3_isFull lkX0_38 dX0_isFull_4 rfl rfl ⟨Nat.zero_le _, Nat.zero_le _⟩ ⟨by decide, by decide⟩ (Nat.le_of_ble_eq_true rfl) [2, 3, 4] rfl rfl 2 rfl rfl ?_
  refine g_ireturn h dX0_isFull_7 rfl (bI_nar _) ⟨Nat.zero_le _, Nat.zero_le _, rfl, ?_, ?_⟩
  · rfl
  · rfl
set_option maxHeartbeats 4000000 in
set_option maxRecDepth 100000 in
theorem kX0_append {l : Launch} {E : gE} {h0 h1 h2 h3 h4 n : Nat} {kd fa fb : Nat → Int32} {x a b : Int32} (hn : n < 8) (hx : wit x 0 5 = true) : CtrF l yX0_append cX0_append 4 (some .int) (gR 2 42) E [.ref h0, .int x, .int a, .int b] (wCa E h0 h1 h2 h3 h4 kd n fa fb) (some (.int (nI n))) (wCa E h0 h1 h2 h3 h4 (upd kd n x) (n + 1) (upd fa n (if x = 0 then 0 else a)) (upd fb n (if x = 0 then 0 else b))) := by
  refine ctr_of false (plainFor_of_name (by decide)) (Nat.le_of_ble_eq_true rfl) (fun q => by cases q) (fun Γ h => ?_)
  refine g_lv [some _, some _, some _, some _] rfl ?_
  refine g_aload_n h dX0_append_0 rfl ?_
  refine g_cVr h (kX0_isFull (by omega)) mX0_isFull lkX0_42 dX0_append_1 rfl rfl ⟨Nat.zero_le _, Nat.zero_le _⟩ ⟨by decide, by decide⟩ (Nat.le_of_ble_eq_true rfl) [0, 1, 2, 3, 4] rfl rfl 0 rfl rfl ?_
  refine g_ifb_ne h dX0_append_4 rfl (fun c4 => ?_) (fun c4 => ?_)
  · exact absurd (of_decide_eq_true c4) (by omega)
  · refine g_iload_n h dX0_append_7 rfl ?_
    refine g_cSr h kX0_isKind mX0_isKind lkX0_43 dX0_append_8 rfl rfl ⟨Nat.zero_le _, Nat.zero_le _⟩ ⟨by decide, by decide⟩ (Nat.le_of_ble_eq_true rfl) [] rfl rfl ?_
    refine g_ifb_ne h dX0_append_11 rfl (fun c11 => ?_) (fun c11 => ?_)
    · refine g_aload_n h dX0_append_21 rfl ?_
      refine g_get h flX0_9 dX0_append_22 0 rfl rfl ?_
      refine g_aload_n h dX0_append_25 rfl ?_
      refine g_cVr h kX0_length mX0_length lkX0_46 dX0_append_26 rfl rfl ⟨Nat.zero_le _, Nat.zero_le _⟩ ⟨by decide, by decide⟩ (Nat.le_of_ble_eq_true rfl) [0, 1, 2, 3, 4] rfl rfl 0 rfl rfl ?_
      refine g_iload_n h dX0_append_29 rfl ?_
      refine g_iast (ws' := [_, _, _, _, _]) h dX0_append_30 1 _ rfl rfl (by omega) (by omega) rfl ?_
      refine g_iload_n h dX0_append_31 rfl ?_
      refine g_if_ne h dX0_append_32 rfl (fun c32 => ?_) (fun c32 => ?_)
      · refine g_aload_n h dX0_append_47 rfl ?_
        refine g_get h flX0_20 dX0_append_48 0 rfl rfl ?_
        refine g_iload_n h dX0_append_51 rfl ?_
        refine g_iload_n h dX0_append_52 rfl ?_
        refine g_cVw (ws' := [_, _, _, _, _]) h (kX3_append hn (by decide)) mX3_append lkX0_47 dX0_append_53 rfl rfl ⟨Nat.zero_le _, Nat.zero_le _⟩ ⟨by decide, by decide⟩ (Nat.le_of_ble_eq_true rfl) [2, 3, 4] rfl rfl 2 rfl rfl rfl ?_
        refine g_ireturn h dX0_append_56 rfl rfl ⟨Nat.zero_le _, Nat.zero_le _, rfl, ?_, ?_⟩
        · rfl
        · first | (rw [updI_if c32, updI_if c32] <;> rfl) | (rw [updI_if' c32, updI_if' c32] <;> rfl)
      · refine g_aload_n h dX0_append_35 rfl ?_
        refine g_get h flX0_20 dX0_append_36 0 rfl rfl ?_
        refine g_iconst (v := 0) h dX0_append_39 (by decide) ?_
        refine g_iconst (v := 0) h dX0_append_40 (by decide) ?_
        refine g_cVw (ws' := [_, _, _, _, _]) h (kX3_append hn (by decide)) mX3_append lkX0_47 dX0_append_41 rfl rfl ⟨Nat.zero_le _, Nat.zero_le _⟩ ⟨by decide, by decide⟩ (Nat.le_of_ble_eq_true rfl) [2, 3, 4] rfl rfl 2 rfl rfl rfl ?_
        refine g_goto h dX0_append_44 rfl ?_
        refine g_ireturn h dX0_append_56 rfl rfl ⟨Nat.zero_le _, Nat.zero_le _, rfl, ?_, ?_⟩
        · rfl
        · first | (rw [updI_if c32, updI_if c32] <;> rfl) | (rw [updI_if' c32, updI_if' c32] <;> rfl)
    · rw [hx] at c11; cases c11
set_option maxHeartbeats 4000000 in
set_option maxRecDepth 100000 in
theorem kX0_numberA {l : Launch} {E : gE} {h0 h1 h2 h3 h4 n : Nat} {kd fa fb : Nat → Int32} {i : Int32} (hn : n ≤ 8) : CtrF l yX0_numberA cX0_numberA 2 (some .int) (gR 2 42) E [.ref h0, .int i] (wCa E h0 h1 h2 h3 h4 kd n fa fb) (some (.int (pget fa n i))) (wCa E h0 h1 h2 h3 h4 kd n fa fb) := by
  refine ctr_of false (plainFor_of_name (by decide)) (Nat.le_of_ble_eq_true rfl) (fun q => by cases q) (fun Γ h => ?_)
  refine g_lv [some _, some _] rfl ?_
  refine g_aload_n h dX0_numberA_0 rfl ?_
  refine g_get h flX0_20 dX0_numberA_1 0 rfl rfl ?_
  refine g_iload_n h dX0_numberA_4 rfl ?_
  refine g_cVr h (kX3_first hn (by decide)) mX3_first lkX0_55 dX0_numberA_5 rfl rfl ⟨Nat.zero_le _, Nat.zero_le _⟩ ⟨by decide, by decide⟩ (Nat.le_of_ble_eq_true rfl) [2, 3, 4] rfl rfl 2 rfl rfl ?_
  refine g_ireturn h dX0_numberA_8 rfl rfl ⟨Nat.zero_le _, Nat.zero_le _, rfl, ?_, ?_⟩
  · rfl
  · rfl
set_option maxHeartbeats 4000000 in
set_option maxRecDepth 100000 in
theorem kX0_hanging {l : Launch} {E : gE} {p a b z : Int32}  : CtrF l yX0_hanging cX0_hanging 5 (some .int) (gR 0 0) E [.int p, .int a, .int b, .int z] ([]) (some (.int (hang p a b z))) ([]) := by
  refine ctr_of false (plainFor_of_name (by decide)) (Nat.le_of_ble_eq_true rfl) (fun q => by cases q) (fun Γ h => ?_)
  refine g_lv [some _, some _, some _, some _, _] rfl ?_
  refine g_iload_n h dX0_hanging_0 rfl ?_
  refine g_iconst (v := 2) h dX0_hanging_1 (by decide) ?_
  refine g_ic_ge h dX0_hanging_2 rfl (fun c2 => ?_) (fun c2 => ?_)
  · refine g_iload_n h dX0_hanging_7 rfl ?_
    refine g_iconst (v := 2) h dX0_hanging_8 (by decide) ?_
    refine g_isub h dX0_hanging_9 ?_
    refine g_iload_n h dX0_hanging_10 rfl ?_
    refine g_isub h dX0_hanging_11 ?_
    refine g_iconst (v := 4) h dX0_hanging_12 (by decide) ?_
    refine g_iadd h dX0_hanging_13 ?_
    refine g_iconst (v := 4) h dX0_hanging_14 (by decide) ?_
    refine g_irem h dX0_hanging_15 (by decide) ?_
    refine g_istore (lv' := [some _, some _, some _, some _, some _]) h dX0_hanging_16 (by decide) rfl ?_
    refine g_iload h dX0_hanging_18 rfl ?_
    refine g_if_ne h dX0_hanging_20 rfl (fun c20 => ?_) (fun c20 => ?_)
    · refine g_iload h dX0_hanging_25 rfl ?_
      refine g_iconst (v := 2) h dX0_hanging_27 (by decide) ?_
      refine g_ic_ne h dX0_hanging_28 rfl (fun c28 => ?_) (fun c28 => ?_)
      · refine g_iload_n h dX0_hanging_36 rfl ?_
        refine g_ireturn h dX0_hanging_37 rfl rfl ⟨Nat.zero_le _, Nat.zero_le _, rfl, ?_, ?_⟩
        · first | (rw [hang, if_neg c2]; done) | (rw [hang, if_pos c2, if_pos c20]; done) | (rw [hang, if_pos c2, if_neg c20, if_pos c28]; done) | (rw [hang, if_pos c2, if_neg c20, if_neg c28]; done)
        · rfl
      · refine g_iload_n h dX0_hanging_31 rfl ?_
        refine g_ineg h dX0_hanging_32 ?_
        refine g_goto h dX0_hanging_33 rfl ?_
        refine g_ireturn h dX0_hanging_37 rfl rfl ⟨Nat.zero_le _, Nat.zero_le _, rfl, ?_, ?_⟩
        · first | (rw [hang, if_neg c2]; done) | (rw [hang, if_pos c2, if_pos c20]; done) | (rw [hang, if_pos c2, if_neg c20, if_pos c28]; done) | (rw [hang, if_pos c2, if_neg c20, if_neg c28]; done)
        · rfl
    · refine g_iload_n h dX0_hanging_23 rfl ?_
      refine g_ireturn h dX0_hanging_24 rfl rfl ⟨Nat.zero_le _, Nat.zero_le _, rfl, ?_, ?_⟩
      · first | (rw [hang, if_neg c2]; done) | (rw [hang, if_pos c2, if_pos c20]; done) | (rw [hang, if_pos c2, if_neg c20, if_pos c28]; done) | (rw [hang, if_pos c2, if_neg c20, if_neg c28]; done)
      · rfl
  · refine g_iconst (v := 0) h dX0_hanging_5 (by decide) ?_
    refine g_ireturn h dX0_hanging_6 rfl rfl ⟨Nat.zero_le _, Nat.zero_le _, rfl, ?_, ?_⟩
    · first | (rw [hang, if_neg c2]; done) | (rw [hang, if_pos c2, if_pos c20]; done) | (rw [hang, if_pos c2, if_neg c20, if_pos c28]; done) | (rw [hang, if_pos c2, if_neg c20, if_neg c28]; done)
    · rfl
set_option maxHeartbeats 4000000 in
set_option maxRecDepth 100000 in
theorem kX0_shownIn {l : Launch} {E : gE} {h0 h1 h2 h3 h4 n : Nat} {kd fa fb : Nat → Int32} {c s : Int32} (hn : n ≤ 8) : CtrF l yX0_shownIn cX0_shownIn 8 (some .int) (gR 2 42) E [.ref h0, .int c, .int s] (wCa E h0 h1 h2 h3 h4 kd n fa fb) (some (.int (shw kd n fa fb c s))) (wCa E h0 h1 h2 h3 h4 kd n fa fb) := by
  refine ctr_of false (plainFor_of_name (by decide)) (Nat.le_of_ble_eq_true rfl) (fun q => by cases q) (fun Γ h => ?_)
  refine g_lv [some _, some _, some _, _, _, _, _, _] rfl ?_
  refine g_aload_n h dX0_shownIn_0 rfl ?_
  refine g_iload_n h dX0_shownIn_1 rfl ?_
  refine g_cVr h (kX0_has hn) mX0_has lkX0_51 dX0_shownIn_2 rfl rfl ⟨Nat.zero_le _, Nat.zero_le _⟩ ⟨by decide, by decide⟩ (Nat.le_of_ble_eq_true rfl) [0, 1, 2, 3, 4] rfl rfl 0 rfl rfl ?_
  refine g_ifb_eq h dX0_shownIn_5 rfl (fun c5 => ?_) (fun c5 => ?_)
  · refine g_iconst (v := 0) h dX0_shownIn_15 (by decide) ?_
    refine g_ireturn h dX0_shownIn_16 rfl rfl ⟨Nat.zero_le _, Nat.zero_le _, rfl, ?_, ?_⟩
    · first | (rw [shw, c5]; rfl) | (rw [shw, c12, Bool.and_false]; rfl) | (rw [shw_lt hk hn c12, shF, if_pos c68]; done) | (rw [shw_lt hk hn c12, shF, if_neg (by omega), if_pos c68, if_pos c47]; done) | (rw [shw_lt hk hn c12, shF, if_neg (by omega), if_pos c68, if_neg c47]; done) | (rw [shw_lt hk hn c12, shF, if_neg (by omega), if_neg (by omega), if_pos c68, if_pos c47, if_neg c139]; done) | (rw [shw_lt hk hn c12, shF, if_neg (by omega), if_neg (by omega), if_pos c68, if_neg c47, if_neg c139]; done) | (rw [shw_lt hk hn c12, shF, if_neg (by omega), if_neg (by omega), if_pos c68, if_pos c47, if_pos c139]; done) | (rw [shw_lt hk hn c12, shF, if_neg (by omega), if_neg (by omega), if_pos c68, if_neg c47, if_pos c139]; done) | (rw [shw_lt hk hn c12, shF, if_neg (by omega), if_neg (by omega), if_neg (by omega), if_pos c68, if_neg c158]; done) | (rw [shw_lt hk hn c12, shF, if_neg (by omega), if_neg (by omega), if_neg (by omega), if_pos c68, if_pos c158]; done) | (rw [shw_lt hk hn c12, shF, if_neg (by omega), if_neg (by omega), if_neg (by omega), if_neg (by omega), if_pos c68]; done) | (rw [shw_lt hk hn c12, shF, if_neg (by omega), if_neg (by omega), if_neg (by omega), if_neg (by omega), if_neg (by omega)]; done)
    · rfl
  · obtain ⟨k, hk, rfl⟩ := pin_ex c5 (nat8 hn)
    refine g_iload_n h dX0_shownIn_8 rfl ?_
    refine g_cNr h kX10_isState mX10_isState lkX0_59 dX0_shownIn_9 rfl rfl ⟨Nat.zero_le _, Nat.zero_le _⟩ ⟨by decide, by decide⟩ (Nat.le_of_ble_eq_true rfl) [] rfl rfl ?_
    refine g_ifb_ne h dX0_shownIn_12 rfl (fun c12 => ?_) (fun c12 => ?_)
    · refine g_aload_n h dX0_shownIn_17 rfl ?_
      refine g_get h flX0_20 dX0_shownIn_18 0 rfl rfl ?_
      refine g_iload_n h dX0_shownIn_21 rfl ?_
      refine g_cVr h (kX3_first hn (by decide)) mX3_first lkX0_55 dX0_shownIn_22 rfl rfl ⟨Nat.zero_le _, Nat.zero_le _⟩ ⟨by decide, by decide⟩ (Nat.le_of_ble_eq_true rfl) [2, 3, 4] rfl rfl 2 rfl rfl ?_
      rw [pget_lt hk (nat8 hn)]
      refine g_istore_n (lv' := [some _, some _, some _, some _, _, _, _, _]) h dX0_shownIn_25 (by decide) rfl ?_
      refine g_aload_n h dX0_shownIn_26 rfl ?_
      refine g_get h flX0_20 dX0_shownIn_27 0 rfl rfl ?_
      refine g_iload_n h dX0_shownIn_30 rfl ?_
      refine g_cVr h (kX3_second hn (by decide)) mX3_second lkX0_62 dX0_shownIn_31 rfl rfl ⟨Nat.zero_le _, Nat.zero_le _⟩ ⟨by decide, by decide⟩ (Nat.le_of_ble_eq_true rfl) [2, 3, 4] rfl rfl 2 rfl rfl ?_
      rw [pget_lt hk (nat8 hn)]
      refine g_istore (lv' := [some _, some _, some _, some _, some _, _, _, _]) h dX0_shownIn_34 (by decide) rfl ?_
      refine g_iload_n h dX0_shownIn_36 rfl ?_
      refine g_bipush (v := 6) h dX0_shownIn_37 (by decide) ?_
      refine g_idiv h dX0_shownIn_39 (by decide) ?_
      refine g_istore (lv' := [some _, some _, some _, some _, some _, some _, _, _]) h dX0_shownIn_40 (by decide) rfl ?_
      refine g_iload_n h dX0_shownIn_42 rfl ?_
      refine g_bipush (v := 6) h dX0_shownIn_43 (by decide) ?_
      refine g_irem h dX0_shownIn_45 (by decide) ?_
      refine g_iconst (v := 3) h dX0_shownIn_46 (by decide) ?_
      refine g_ic_ge h dX0_shownIn_47 rfl (fun c47 => ?_) (fun c47 => ?_)
      · refine g_iconst (v := 0) h dX0_shownIn_54 (by decide) ?_
        refine g_istore (lv' := [some _, some _, some _, some _, some _, some _, some _, _]) h dX0_shownIn_55 (by decide) rfl ?_
        refine g_iload_n h dX0_shownIn_57 rfl ?_
        refine g_iconst (v := 3) h dX0_shownIn_58 (by decide) ?_
        refine g_irem h dX0_shownIn_59 (by decide) ?_
        refine g_istore (lv' := [some _, some _, some _, some _, some _, some _, some _, some _]) h dX0_shownIn_60 (by decide) rfl ?_
        refine g_aload_n h dX0_shownIn_62 rfl ?_
        refine g_get h flX0_9 dX0_shownIn_63 0 rfl rfl ?_
        refine g_iload_n h dX0_shownIn_66 rfl ?_
        refine g_iald h dX0_shownIn_67 1 _ rfl rfl (by omega) (by omega) ?_
        refine g_ts5_1 h dX0_shownIn_68 rfl rfl rfl rfl rfl rfl (fun c68 => ?_) (fun c68 => ?_) (fun c68 => ?_) (fun c68 => ?_) (fun c68 => ?_) (fun c68 => ?_)
        · refine g_iload h dX0_shownIn_104 rfl ?_
          refine g_iload_n h dX0_shownIn_106 rfl ?_
          refine g_iload h dX0_shownIn_107 rfl ?_
          refine g_iconst (v := 0) h dX0_shownIn_109 (by decide) ?_
          refine g_cSr h kX0_hanging mX0_hanging lkX0_65 dX0_shownIn_110 rfl rfl ⟨Nat.zero_le _, Nat.zero_le _⟩ ⟨by decide, by decide⟩ (Nat.le_of_ble_eq_true rfl) [] rfl rfl ?_
          refine g_ireturn h dX0_shownIn_113 rfl rfl ⟨Nat.zero_le _, Nat.zero_le _, rfl, ?_, ?_⟩
          · first | (rw [shw, c5]; rfl) | (rw [shw, c12, Bool.and_false]; rfl) | (rw [shw_lt hk hn c12, shF, if_pos c68]; done) | (rw [shw_lt hk hn c12, shF, if_neg (by omega), if_pos c68, if_pos c47]; done) | (rw [shw_lt hk hn c12, shF, if_neg (by omega), if_pos c68, if_neg c47]; done) | (rw [shw_lt hk hn c12, shF, if_neg (by omega), if_neg (by omega), if_pos c68, if_pos c47, if_neg c139]; done) | (rw [shw_lt hk hn c12, shF, if_neg (by omega), if_neg (by omega), if_pos c68, if_neg c47, if_neg c139]; done) | (rw [shw_lt hk hn c12, shF, if_neg (by omega), if_neg (by omega), if_pos c68, if_pos c47, if_pos c139]; done) | (rw [shw_lt hk hn c12, shF, if_neg (by omega), if_neg (by omega), if_pos c68, if_neg c47, if_pos c139]; done) | (rw [shw_lt hk hn c12, shF, if_neg (by omega), if_neg (by omega), if_neg (by omega), if_pos c68, if_neg c158]; done) | (rw [shw_lt hk hn c12, shF, if_neg (by omega), if_neg (by omega), if_neg (by omega), if_pos c68, if_pos c158]; done) | (rw [shw_lt hk hn c12, shF, if_neg (by omega), if_neg (by omega), if_neg (by omega), if_neg (by omega), if_pos c68]; done) | (rw [shw_lt hk hn c12, shF, if_neg (by omega), if_neg (by omega), if_neg (by omega), if_neg (by omega), if_neg (by omega)]; done)
          · rfl
        · refine g_iload h dX0_shownIn_114 rfl ?_
          refine g_if_eq h dX0_shownIn_116 rfl (fun c116 => ?_) (fun c116 => ?_)
          · refine g_iload h dX0_shownIn_123 rfl ?_
            refine g_ireturn h dX0_shownIn_125 rfl rfl ⟨Nat.zero_le _, Nat.zero_le _, rfl, ?_, ?_⟩
            · first | (rw [shw, c5]; rfl) | (rw [shw, c12, Bool.and_false]; rfl) | (rw [shw_lt hk hn c12, shF, if_pos c68]; done) | (rw [shw_lt hk hn c12, shF, if_neg (by omega), if_pos c68, if_pos c47]; done) | (rw [shw_lt hk hn c12, shF, if_neg (by omega), if_pos c68, if_neg c47]; done) | (rw [shw_lt hk hn c12, shF, if_neg (by omega), if_neg (by omega), if_pos c68, if_pos c47, if_neg c139]; done) | (rw [shw_lt hk hn c12, shF, if_neg (by omega), if_neg (by omega), if_pos c68, if_neg c47, if_neg c139]; done) | (rw [shw_lt hk hn c12, shF, if_neg (by omega), if_neg (by omega), if_pos c68, if_pos c47, if_pos c139]; done) | (rw [shw_lt hk hn c12, shF, if_neg (by omega), if_neg (by omega), if_pos c68, if_neg c47, if_pos c139]; done) | (rw [shw_lt hk hn c12, shF, if_neg (by omega), if_neg (by omega), if_neg (by omega), if_pos c68, if_neg c158]; done) | (rw [shw_lt hk hn c12, shF, if_neg (by omega), if_neg (by omega), if_neg (by omega), if_pos c68, if_pos c158]; done) | (rw [shw_lt hk hn c12, shF, if_neg (by omega), if_neg (by omega), if_neg (by omega), if_neg (by omega), if_pos c68]; done) | (rw [shw_lt hk hn c12, shF, if_neg (by omega), if_neg (by omega), if_neg (by omega), if_neg (by omega), if_neg (by omega)]; done)
            · rfl
          · exact absurd c116 (by decide)
        · refine g_iload h dX0_shownIn_126 rfl ?_
          refine g_if_eq h dX0_shownIn_128 rfl (fun c128 => ?_) (fun c128 => ?_)
          · refine g_iload h dX0_shownIn_135 rfl ?_
            refine g_iload h dX0_shownIn_137 rfl ?_
            refine g_if_ne h dX0_shownIn_139 rfl (fun c139 => ?_) (fun c139 => ?_)
            · refine g_iconst (v := 0) h dX0_shownIn_146 (by decide) ?_
              refine g_iadd h dX0_shownIn_147 ?_
              refine g_ireturn h dX0_shownIn_148 rfl rfl ⟨Nat.zero_le _, Nat.zero_le _, rfl, ?_, ?_⟩
              · first | (rw [shw, c5]; rfl) | (rw [shw, c12, Bool.and_false]; rfl) | (rw [shw_lt hk hn c12, shF, if_pos c68]; done) | (rw [shw_lt hk hn c12, shF, if_neg (by omega), if_pos c68, if_pos c47]; done) | (rw [shw_lt hk hn c12, shF, if_neg (by omega), if_pos c68, if_neg c47]; done) | (rw [shw_lt hk hn c12, shF, if_neg (by omega), if_neg (by omega), if_pos c68, if_pos c47, if_neg c139]; done) | (rw [shw_lt hk hn c12, shF, if_neg (by omega), if_neg (by omega), if_pos c68, if_neg c47, if_neg c139]; done) | (rw [shw_lt hk hn c12, shF, if_neg (by omega), if_neg (by omega), if_pos c68, if_pos c47, if_pos c139]; done) | (rw [shw_lt hk hn c12, shF, if_neg (by omega), if_neg (by omega), if_pos c68, if_neg c47, if_pos c139]; done) | (rw [shw_lt hk hn c12, shF, if_neg (by omega), if_neg (by omega), if_neg (by omega), if_pos c68, if_neg c158]; done) | (rw [shw_lt hk hn c12, shF, if_neg (by omega), if_neg (by omega), if_neg (by omega), if_pos c68, if_pos c158]; done) | (rw [shw_lt hk hn c12, shF, if_neg (by omega), if_neg (by omega), if_neg (by omega), if_neg (by omega), if_pos c68]; done) | (rw [shw_lt hk hn c12, shF, if_neg (by omega), if_neg (by omega), if_neg (by omega), if_neg (by omega), if_neg (by omega)]; done)
              · rfl
            · refine g_iconst (v := 1) h dX0_shownIn_142 (by decide) ?_
              refine g_goto h dX0_shownIn_143 rfl ?_
              refine g_iadd h dX0_shownIn_147 ?_
              refine g_ireturn h dX0_shownIn_148 rfl rfl ⟨Nat.zero_le _, Nat.zero_le _, rfl, ?_, ?_⟩
              · first | (rw [shw, c5]; rfl) | (rw [shw, c12, Bool.and_false]; rfl) | (rw [shw_lt hk hn c12, shF, if_pos c68]; done) | (rw [shw_lt hk hn c12, shF, if_neg (by omega), if_pos c68, if_pos c47]; done) | (rw [shw_lt hk hn c12, shF, if_neg (by omega), if_pos c68, if_neg c47]; done) | (rw [shw_lt hk hn c12, shF, if_neg (by omega), if_neg (by omega), if_pos c68, if_pos c47, if_neg c139]; done) | (rw [shw_lt hk hn c12, shF, if_neg (by omega), if_neg (by omega), if_pos c68, if_neg c47, if_neg c139]; done) | (rw [shw_lt hk hn c12, shF, if_neg (by omega), if_neg (by omega), if_pos c68, if_pos c47, if_pos c139]; done) | (rw [shw_lt hk hn c12, shF, if_neg (by omega), if_neg (by omega), if_pos c68, if_neg c47, if_pos c139]; done) | (rw [shw_lt hk hn c12, shF, if_neg (by omega), if_neg (by omega), if_neg (by omega), if_pos c68, if_neg c158]; done) | (rw [shw_lt hk hn c12, shF, if_neg (by omega), if_neg (by omega), if_neg (by omega), if_pos c68, if_pos c158]; done) | (rw [shw_lt hk hn c12, shF, if_neg (by omega), if_neg (by omega), if_neg (by omega), if_neg (by omega), if_pos c68]; done) | (rw [shw_lt hk hn c12, shF, if_neg (by omega), if_neg (by omega), if_neg (by omega), if_neg (by omega), if_neg (by omega)]; done)
              · rfl
          · exact absurd c128 (by decide)
        · refine g_iload_n h dX0_shownIn_149 rfl ?_
          refine g_iload h dX0_shownIn_150 rfl ?_
          refine g_iconst (v := 1) h dX0_shownIn_152 (by decide) ?_
          refine g_isub h dX0_shownIn_153 ?_
          refine g_imul h dX0_shownIn_154 ?_
          refine g_iload h dX0_shownIn_155 rfl ?_
          refine g_iconst (v := 1) h dX0_shownIn_157 (by decide) ?_
          refine g_ic_ne h dX0_shownIn_158 rfl (fun c158 => ?_) (fun c158 => ?_)
          · refine g_iconst (v := 0) h dX0_shownIn_166 (by decide) ?_
            refine g_iadd h dX0_shownIn_167 ?_
            refine g_ireturn h dX0_shownIn_168 rfl rfl ⟨Nat.zero_le _, Nat.zero_le _, rfl, ?_, ?_⟩
            · first | (rw [shw, c5]; rfl) | (rw [shw, c12, Bool.and_false]; rfl) | (rw [shw_lt hk hn c12, shF, if_pos c68]; done) | (rw [shw_lt hk hn c12, shF, if_neg (by omega), if_pos c68, if_pos c47]; done) | (rw [shw_lt hk hn c12, shF, if_neg (by omega), if_pos c68, if_neg c47]; done) | (rw [shw_lt hk hn c12, shF, if_neg (by omega), if_neg (by omega), if_pos c68, if_pos c47, if_neg c139]; done) | (rw [shw_lt hk hn c12, shF, if_neg (by omega), if_neg (by omega), if_pos c68, if_neg c47, if_neg c139]; done) | (rw [shw_lt hk hn c12, shF, if_neg (by omega), if_neg (by omega), if_pos c68, if_pos c47, if_pos c139]; done) | (rw [shw_lt hk hn c12, shF, if_neg (by omega), if_neg (by omega), if_pos c68, if_neg c47, if_pos c139]; done) | (rw [shw_lt hk hn c12, shF, if_neg (by omega), if_neg (by omega), if_neg (by omega), if_pos c68, if_neg c158]; done) | (rw [shw_lt hk hn c12, shF, if_neg (by omega), if_neg (by omega), if_neg (by omega), if_pos c68, if_pos c158]; done) | (rw [shw_lt hk hn c12, shF, if_neg (by omega), if_neg (by omega), if_neg (by omega), if_neg (by omega), if_pos c68]; done) | (rw [shw_lt hk hn c12, shF, if_neg (by omega), if_neg (by omega), if_neg (by omega), if_neg (by omega), if_neg (by omega)]; done)
            · rfl
          · refine g_iload h dX0_shownIn_161 rfl ?_
            refine g_goto h dX0_shownIn_163 rfl ?_
            refine g_iadd h dX0_shownIn_167 ?_
            refine g_ireturn h dX0_shownIn_168 rfl rfl ⟨Nat.zero_le _, Nat.zero_le _, rfl, ?_, ?_⟩
            · first | (rw [shw, c5]; rfl) | (rw [shw, c12, Bool.and_false]; rfl) | (rw [shw_lt hk hn c12, shF, if_pos c68]; done) | (rw [shw_lt hk hn c12, shF, if_neg (by omega), if_pos c68, if_pos c47]; done) | (rw [shw_lt hk hn c12, shF, if_neg (by omega), if_pos c68, if_neg c47]; done) | (rw [shw_lt hk hn c12, shF, if_neg (by omega), if_neg (by omega), if_pos c68, if_pos c47, if_neg c139]; done) | (rw [shw_lt hk hn c12, shF, if_neg (by omega), if_neg (by omega), if_pos c68, if_neg c47, if_neg c139]; done) | (rw [shw_lt hk hn c12, shF, if_neg (by omega), if_neg (by omega), if_pos c68, if_pos c47, if_pos c139]; done) | (rw [shw_lt hk hn c12, shF, if_neg (by omega), if_neg (by omega), if_pos c68, if_neg c47, if_pos c139]; done) | (rw [shw_lt hk hn c12, shF, if_neg (by omega), if_neg (by omega), if_neg (by omega), if_pos c68, if_neg c158]; done) | (rw [shw_lt hk hn c12, shF, if_neg (by omega), if_neg (by omega), if_neg (by omega), if_pos c68, if_pos c158]; done) | (rw [shw_lt hk hn c12, shF, if_neg (by omega), if_neg (by omega), if_neg (by omega), if_neg (by omega), if_pos c68]; done) | (rw [shw_lt hk hn c12, shF, if_neg (by omega), if_neg (by omega), if_neg (by omega), if_neg (by omega), if_neg (by omega)]; done)
            · rfl
        · refine g_iload h dX0_shownIn_169 rfl ?_
          refine g_iload_n h dX0_shownIn_171 rfl ?_
          refine g_iload h dX0_shownIn_172 rfl ?_
          refine g_iconst (v := 1) h dX0_shownIn_174 (by decide) ?_
          refine g_cSr h kX0_hanging mX0_hanging lkX0_65 dX0_shownIn_175 rfl rfl ⟨Nat.zero_le _, Nat.zero_le _⟩ ⟨by decide, by decide⟩ (Nat.le_of_ble_eq_true rfl) [] rfl rfl ?_
          refine g_ireturn h dX0_shownIn_178 rfl rfl ⟨Nat.zero_le _, Nat.zero_le _, rfl, ?_, ?_⟩
          · first | (rw [shw, c5]; rfl) | (rw [shw, c12, Bool.and_false]; rfl) | (rw [shw_lt hk hn c12, shF, if_pos c68]; done) | (rw [shw_lt hk hn c12, shF, if_neg (by omega), if_pos c68, if_pos c47]; done) | (rw [shw_lt hk hn c12, shF, if_neg (by omega), if_pos c68, if_neg c47]; done) | (rw [shw_lt hk hn c12, shF, if_neg (by omega), if_neg (by omega), if_pos c68, if_pos c47, if_neg c139]; done) | (rw [shw_lt hk hn c12, shF, if_neg (by omega), if_neg (by omega), if_pos c68, if_neg c47, if_neg c139]; done) | (rw [shw_lt hk hn c12, shF, if_neg (by omega), if_neg (by omega), if_pos c68, if_pos c47, if_pos c139]; done) | (rw [shw_lt hk hn c12, shF, if_neg (by omega), if_neg (by omega), if_pos c68, if_neg c47, if_pos c139]; done) | (rw [shw_lt hk hn c12, shF, if_neg (by omega), if_neg (by omega), if_neg (by omega), if_pos c68, if_neg c158]; done) | (rw [shw_lt hk hn c12, shF, if_neg (by omega), if_neg (by omega), if_neg (by omega), if_pos c68, if_pos c158]; done) | (rw [shw_lt hk hn c12, shF, if_neg (by omega), if_neg (by omega), if_neg (by omega), if_neg (by omega), if_pos c68]; done) | (rw [shw_lt hk hn c12, shF, if_neg (by omega), if_neg (by omega), if_neg (by omega), if_neg (by omega), if_neg (by omega)]; done)
          · rfl
        · refine g_iconst (v := 1) h dX0_shownIn_179 (by decide) ?_
          refine g_ireturn h dX0_shownIn_180 rfl rfl ⟨Nat.zero_le _, Nat.zero_le _, rfl, ?_, ?_⟩
          · first | (rw [shw, c5]; rfl) | (rw [shw, c12, Bool.and_false]; rfl) | (rw [shw_lt hk hn c12, shF, if_pos c68]; done) | (rw [shw_lt hk hn c12, shF, if_neg (by omega), if_pos c68, if_pos c47]; done) | (rw [shw_lt hk hn c12, shF, if_neg (by omega), if_pos c68, if_neg c47]; done) | (rw [shw_lt hk hn c12, shF, if_neg (by omega), if_neg (by omega), if_pos c68, if_pos c47, if_neg c139]; done) | (rw [shw_lt hk hn c12, shF, if_neg (by omega), if_neg (by omega), if_pos c68, if_neg c47, if_neg c139]; done) | (rw [shw_lt hk hn c12, shF, if_neg (by omega), if_neg (by omega), if_pos c68, if_pos c47, if_pos c139]; done) | (rw [shw_lt hk hn c12, shF, if_neg (by omega), if_neg (by omega), if_pos c68, if_neg c47, if_pos c139]; done) | (rw [shw_lt hk hn c12, shF, if_neg (by omega), if_neg (by omega), if_neg (by omega), if_pos c68, if_neg c158]; done) | (rw [shw_lt hk hn c12, shF, if_neg (by omega), if_neg (by omega), if_neg (by omega), if_pos c68, if_pos c158]; done) | (rw [shw_lt hk hn c12, shF, if_neg (by omega), if_neg (by omega), if_neg (by omega), if_neg (by omega), if_pos c68]; done) | (rw [shw_lt hk hn c12, shF, if_neg (by omega), if_neg (by omega), if_neg (by omega), if_neg (by omega), if_neg (by omega)]; done)
          · rfl
      · refine g_iconst (v := 1) h dX0_shownIn_50 (by decide) ?_
        refine g_goto h dX0_shownIn_51 rfl ?_
        refine g_istore (lv' := [some _, some _, some _, some _, some _, some _, some _, _]) h dX0_shownIn_55 (by decide) rfl ?_
        refine g_iload_n h dX0_shownIn_57 rfl ?_
        refine g_iconst (v := 3) h dX0_shownIn_58 (by decide) ?_
        refine g_irem h dX0_shownIn_59 (by decide) ?_
        refine g_istore (lv' := [some _, some _, some _, some _, some _, some _, some _, some _]) h dX0_shownIn_60 (by decide) rfl ?_
        refine g_aload_n h dX0_shownIn_62 rfl ?_
        refine g_get h flX0_9 dX0_shownIn_63 0 rfl rfl ?_
        refine g_iload_n h dX0_shownIn_66 rfl ?_
        refine g_iald h dX0_shownIn_67 1 _ rfl rfl (by omega) (by omega) ?_
        refine g_ts5_1 h dX0_shownIn_68 rfl rfl rfl rfl rfl rfl (fun c68 => ?_) (fun c68 => ?_) (fun c68 => ?_) (fun c68 => ?_) (fun c68 => ?_) (fun c68 => ?_)
        · refine g_iload h dX0_shownIn_104 rfl ?_
          refine g_iload_n h dX0_shownIn_106 rfl ?_
          refine g_iload h dX0_shownIn_107 rfl ?_
          refine g_iconst (v := 0) h dX0_shownIn_109 (by decide) ?_
          refine g_cSr h kX0_hanging mX0_hanging lkX0_65 dX0_shownIn_110 rfl rfl ⟨Nat.zero_le _, Nat.zero_le _⟩ ⟨by decide, by decide⟩ (Nat.le_of_ble_eq_true rfl) [] rfl rfl ?_
          refine g_ireturn h dX0_shownIn_113 rfl rfl ⟨Nat.zero_le _, Nat.zero_le _, rfl, ?_, ?_⟩
          · first | (rw [shw, c5]; rfl) | (rw [shw, c12, Bool.and_false]; rfl) | (rw [shw_lt hk hn c12, shF, if_pos c68]; done) | (rw [shw_lt hk hn c12, shF, if_neg (by omega), if_pos c68, if_pos c47]; done) | (rw [shw_lt hk hn c12, shF, if_neg (by omega), if_pos c68, if_neg c47]; done) | (rw [shw_lt hk hn c12, shF, if_neg (by omega), if_neg (by omega), if_pos c68, if_pos c47, if_neg c139]; done) | (rw [shw_lt hk hn c12, shF, if_neg (by omega), if_neg (by omega), if_pos c68, if_neg c47, if_neg c139]; done) | (rw [shw_lt hk hn c12, shF, if_neg (by omega), if_neg (by omega), if_pos c68, if_pos c47, if_pos c139]; done) | (rw [shw_lt hk hn c12, shF, if_neg (by omega), if_neg (by omega), if_pos c68, if_neg c47, if_pos c139]; done) | (rw [shw_lt hk hn c12, shF, if_neg (by omega), if_neg (by omega), if_neg (by omega), if_pos c68, if_neg c158]; done) | (rw [shw_lt hk hn c12, shF, if_neg (by omega), if_neg (by omega), if_neg (by omega), if_pos c68, if_pos c158]; done) | (rw [shw_lt hk hn c12, shF, if_neg (by omega), if_neg (by omega), if_neg (by omega), if_neg (by omega), if_pos c68]; done) | (rw [shw_lt hk hn c12, shF, if_neg (by omega), if_neg (by omega), if_neg (by omega), if_neg (by omega), if_neg (by omega)]; done)
          · rfl
        · refine g_iload h dX0_shownIn_114 rfl ?_
          refine g_if_eq h dX0_shownIn_116 rfl (fun c116 => ?_) (fun c116 => ?_)
          · exact absurd c116 (by decide)
          · refine g_iload_n h dX0_shownIn_119 rfl ?_
            refine g_goto h dX0_shownIn_120 rfl ?_
            refine g_ireturn h dX0_shownIn_125 rfl rfl ⟨Nat.zero_le _, Nat.zero_le _, rfl, ?_, ?_⟩
            · first | (rw [shw, c5]; rfl) | (rw [shw, c12, Bool.and_false]; rfl) | (rw [shw_lt hk hn c12, shF, if_pos c68]; done) | (rw [shw_lt hk hn c12, shF, if_neg (by omega), if_pos c68, if_pos c47]; done) | (rw [shw_lt hk hn c12, shF, if_neg (by omega), if_pos c68, if_neg c47]; done) | (rw [shw_lt hk hn c12, shF, if_neg (by omega), if_neg (by omega), if_pos c68, if_pos c47, if_neg c139]; done) | (rw [shw_lt hk hn c12, shF, if_neg (by omega), if_neg (by omega), if_pos c68, if_neg c47, if_neg c139]; done) | (rw [shw_lt hk hn c12, shF, if_neg (by omega), if_neg (by omega), if_pos c68, if_pos c47, if_pos c139]; done) | (rw [shw_lt hk hn c12, shF, if_neg (by omega), if_neg (by omega), if_pos c68, if_neg c47, if_pos c139]; done) | (rw [shw_lt hk hn c12, shF, if_neg (by omega), if_neg (by omega), if_neg (by omega), if_pos c68, if_neg c158]; done) | (rw [shw_lt hk hn c12, shF, if_neg (by omega), if_neg (by omega), if_neg (by omega), if_pos c68, if_pos c158]; done) | (rw [shw_lt hk hn c12, shF, if_neg (by omega), if_neg (by omega), if_neg (by omega), if_neg (by omega), if_pos c68]; done) | (rw [shw_lt hk hn c12, shF, if_neg (by omega), if_neg (by omega), if_neg (by omega), if_neg (by omega), if_neg (by omega)]; done)
            · rfl
        · refine g_iload h dX0_shownIn_126 rfl ?_
          refine g_if_eq h dX0_shownIn_128 rfl (fun c128 => ?_) (fun c128 => ?_)
          · exact absurd c128 (by decide)
          · refine g_iload_n h dX0_shownIn_131 rfl ?_
            refine g_goto h dX0_shownIn_132 rfl ?_
            refine g_iload h dX0_shownIn_137 rfl ?_
            refine g_if_ne h dX0_shownIn_139 rfl (fun c139 => ?_) (fun c139 => ?_)
            · refine g_iconst (v := 0) h dX0_shownIn_146 (by decide) ?_
              refine g_iadd h dX0_shownIn_147 ?_
              refine g_ireturn h dX0_shownIn_148 rfl rfl ⟨Nat.zero_le _, Nat.zero_le _, rfl, ?_, ?_⟩
              · first | (rw [shw, c5]; rfl) | (rw [shw, c12, Bool.and_false]; rfl) | (rw [shw_lt hk hn c12, shF, if_pos c68]; done) | (rw [shw_lt hk hn c12, shF, if_neg (by omega), if_pos c68, if_pos c47]; done) | (rw [shw_lt hk hn c12, shF, if_neg (by omega), if_pos c68, if_neg c47]; done) | (rw [shw_lt hk hn c12, shF, if_neg (by omega), if_neg (by omega), if_pos c68, if_pos c47, if_neg c139]; done) | (rw [shw_lt hk hn c12, shF, if_neg (by omega), if_neg (by omega), if_pos c68, if_neg c47, if_neg c139]; done) | (rw [shw_lt hk hn c12, shF, if_neg (by omega), if_neg (by omega), if_pos c68, if_pos c47, if_pos c139]; done) | (rw [shw_lt hk hn c12, shF, if_neg (by omega), if_neg (by omega), if_pos c68, if_neg c47, if_pos c139]; done) | (rw [shw_lt hk hn c12, shF, if_neg (by omega), if_neg (by omega), if_neg (by omega), if_pos c68, if_neg c158]; done) | (rw [shw_lt hk hn c12, shF, if_neg (by omega), if_neg (by omega), if_neg (by omega), if_pos c68, if_pos c158]; done) | (rw [shw_lt hk hn c12, shF, if_neg (by omega), if_neg (by omega), if_neg (by omega), if_neg (by omega), if_pos c68]; done) | (rw [shw_lt hk hn c12, shF, if_neg (by omega), if_neg (by omega), if_neg (by omega), if_neg (by omega), if_neg (by omega)]; done)
              · rfl
            · refine g_iconst (v := 1) h dX0_shownIn_142 (by decide) ?_
              refine g_goto h dX0_shownIn_143 rfl ?_
              refine g_iadd h dX0_shownIn_147 ?_
              refine g_ireturn h dX0_shownIn_148 rfl rfl ⟨Nat.zero_le _, Nat.zero_le _, rfl, ?_, ?_⟩
              · first | (rw [shw, c5]; rfl) | (rw [shw, c12, Bool.and_false]; rfl) | (rw [shw_lt hk hn c12, shF, if_pos c68]; done) | (rw [shw_lt hk hn c12, shF, if_neg (by omega), if_pos c68, if_pos c47]; done) | (rw [shw_lt hk hn c12, shF, if_neg (by omega), if_pos c68, if_neg c47]; done) | (rw [shw_lt hk hn c12, shF, if_neg (by omega), if_neg (by omega), if_pos c68, if_pos c47, if_neg c139]; done) | (rw [shw_lt hk hn c12, shF, if_neg (by omega), if_neg (by omega), if_pos c68, if_neg c47, if_neg c139]; done) | (rw [shw_lt hk hn c12, shF, if_neg (by omega), if_neg (by omega), if_pos c68, if_pos c47, if_pos c139]; done) | (rw [shw_lt hk hn c12, shF, if_neg (by omega), if_neg (by omega), if_pos c68, if_neg c47, if_pos c139]; done) | (rw [shw_lt hk hn c12, shF, if_neg (by omega), if_neg (by omega), if_neg (by omega), if_pos c68, if_neg c158]; done) | (rw [shw_lt hk hn c12, shF, if_neg (by omega), if_neg (by omega), if_neg (by omega), if_pos c68, if_pos c158]; done) | (rw [shw_lt hk hn c12, shF, if_neg (by omega), if_neg (by omega), if_neg (by omega), if_neg (by omega), if_pos c68]; done) | (rw [shw_lt hk hn c12, shF, if_neg (by omega), if_neg (by omega), if_neg (by omega), if_neg (by omega), if_neg (by omega)]; done)
              · rfl
        · refine g_iload_n h dX0_shownIn_149 rfl ?_
          refine g_iload h dX0_shownIn_150 rfl ?_
          refine g_iconst (v := 1) h dX0_shownIn_152 (by decide) ?_
          refine g_isub h dX0_shownIn_153 ?_
          refine g_imul h dX0_shownIn_154 ?_
          refine g_iload h dX0_shownIn_155 rfl ?_
          refine g_iconst (v := 1) h dX0_shownIn_157 (by decide) ?_
          refine g_ic_ne h dX0_shownIn_158 rfl (fun c158 => ?_) (fun c158 => ?_)
          · refine g_iconst (v := 0) h dX0_shownIn_166 (by decide) ?_
            refine g_iadd h dX0_shownIn_167 ?_
            refine g_ireturn h dX0_shownIn_168 rfl rfl ⟨Nat.zero_le _, Nat.zero_le _, rfl, ?_, ?_⟩
            · first | (rw [shw, c5]; rfl) | (rw [shw, c12, Bool.and_false]; rfl) | (rw [shw_lt hk hn c12, shF, if_pos c68]; done) | (rw [shw_lt hk hn c12, shF, if_neg (by omega), if_pos c68, if_pos c47]; done) | (rw [shw_lt hk hn c12, shF, if_neg (by omega), if_pos c68, if_neg c47]; done) | (rw [shw_lt hk hn c12, shF, if_neg (by omega), if_neg (by omega), if_pos c68, if_pos c47, if_neg c139]; done) | (rw [shw_lt hk hn c12, shF, if_neg (by omega), if_neg (by omega), if_pos c68, if_neg c47, if_neg c139]; done) | (rw [shw_lt hk hn c12, shF, if_neg (by omega), if_neg (by omega), if_pos c68, if_pos c47, if_pos c139]; done) | (rw [shw_lt hk hn c12, shF, if_neg (by omega), if_neg (by omega), if_pos c68, if_neg c47, if_pos c139]; done) | (rw [shw_lt hk hn c12, shF, if_neg (by omega), if_neg (by omega), if_neg (by omega), if_pos c68, if_neg c158]; done) | (rw [shw_lt hk hn c12, shF, if_neg (by omega), if_neg (by omega), if_neg (by omega), if_pos c68, if_pos c158]; done) | (rw [shw_lt hk hn c12, shF, if_neg (by omega), if_neg (by omega), if_neg (by omega), if_neg (by omega), if_pos c68]; done) | (rw [shw_lt hk hn c12, shF, if_neg (by omega), if_neg (by omega), if_neg (by omega), if_neg (by omega), if_neg (by omega)]; done)
            · rfl
          · refine g_iload h dX0_shownIn_161 rfl ?_
            refine g_goto h dX0_shownIn_163 rfl ?_
            refine g_iadd h dX0_shownIn_167 ?_
            refine g_ireturn h dX0_shownIn_168 rfl rfl ⟨Nat.zero_le _, Nat.zero_le _, rfl, ?_, ?_⟩
            · first | (rw [shw, c5]; rfl) | (rw [shw, c12, Bool.and_false]; rfl) | (rw [shw_lt hk hn c12, shF, if_pos c68]; done) | (rw [shw_lt hk hn c12, shF, if_neg (by omega), if_pos c68, if_pos c47]; done) | (rw [shw_lt hk hn c12, shF, if_neg (by omega), if_pos c68, if_neg c47]; done) | (rw [shw_lt hk hn c12, shF, if_neg (by omega), if_neg (by omega), if_pos c68, if_pos c47, if_neg c139]; done) | (rw [shw_lt hk hn c12, shF, if_neg (by omega), if_neg (by omega), if_pos c68, if_neg c47, if_neg c139]; done) | (rw [shw_lt hk hn c12, shF, if_neg (by omega), if_neg (by omega), if_pos c68, if_pos c47, if_pos c139]; done) | (rw [shw_lt hk hn c12, shF, if_neg (by omega), if_neg (by omega), if_pos c68, if_neg c47, if_pos c139]; done) | (rw [shw_lt hk hn c12, shF, if_neg (by omega), if_neg (by omega), if_neg (by omega), if_pos c68, if_neg c158]; done) | (rw [shw_lt hk hn c12, shF, if_neg (by omega), if_neg (by omega), if_neg (by omega), if_pos c68, if_pos c158]; done) | (rw [shw_lt hk hn c12, shF, if_neg (by omega), if_neg (by omega), if_neg (by omega), if_neg (by omega), if_pos c68]; done) | (rw [shw_lt hk hn c12, shF, if_neg (by omega), if_neg (by omega), if_neg (by omega), if_neg (by omega), if_neg (by omega)]; done)
            · rfl
        · refine g_iload h dX0_shownIn_169 rfl ?_
          refine g_iload_n h dX0_shownIn_171 rfl ?_
          refine g_iload h dX0_shownIn_172 rfl ?_
          refine g_iconst (v := 1) h dX0_shownIn_174 (by decide) ?_
          refine g_cSr h kX0_hanging mX0_hanging lkX0_65 dX0_shownIn_175 rfl rfl ⟨Nat.zero_le _, Nat.zero_le _⟩ ⟨by decide, by decide⟩ (Nat.le_of_ble_eq_true rfl) [] rfl rfl ?_
          refine g_ireturn h dX0_shownIn_178 rfl rfl ⟨Nat.zero_le _, Nat.zero_le _, rfl, ?_, ?_⟩
          · first | (rw [shw, c5]; rfl) | (rw [shw, c12, Bool.and_false]; rfl) | (rw [shw_lt hk hn c12, shF, if_pos c68]; done) | (rw [shw_lt hk hn c12, shF, if_neg (by omega), if_pos c68, if_pos c47]; done) | (rw [shw_lt hk hn c12, shF, if_neg (by omega), if_pos c68, if_neg c47]; done) | (rw [shw_lt hk hn c12, shF, if_neg (by omega), if_neg (by omega), if_pos c68, if_pos c47, if_neg c139]; done) | (rw [shw_lt hk hn c12, shF, if_neg (by omega), if_neg (by omega), if_pos c68, if_neg c47, if_neg c139]; done) | (rw [shw_lt hk hn c12, shF, if_neg (by omega), if_neg (by omega), if_pos c68, if_pos c47, if_pos c139]; done) | (rw [shw_lt hk hn c12, shF, if_neg (by omega), if_neg (by omega), if_pos c68, if_neg c47, if_pos c139]; done) | (rw [shw_lt hk hn c12, shF, if_neg (by omega), if_neg (by omega), if_neg (by omega), if_pos c68, if_neg c158]; done) | (rw [shw_lt hk hn c12, shF, if_neg (by omega), if_neg (by omega), if_neg (by omega), if_pos c68, if_pos c158]; done) | (rw [shw_lt hk hn c12, shF, if_neg (by omega), if_neg (by omega), if_neg (by omega), if_neg (by omega), if_pos c68]; done) | (rw [shw_lt hk hn c12, shF, if_neg (by omega), if_neg (by omega), if_neg (by omega), if_neg (by omega), if_neg (by omega)]; done)
          · rfl
        · refine g_iconst (v := 1) h dX0_shownIn_179 (by decide) ?_
          refine g_ireturn h dX0_shownIn_180 rfl rfl ⟨Nat.zero_le _, Nat.zero_le _, rfl, ?_, ?_⟩
          · first | (rw [shw, c5]; rfl) | (rw [shw, c12, Bool.and_false]; rfl) | (rw [shw_lt hk hn c12, shF, if_pos c68]; done) | (rw [shw_lt hk hn c12, shF, if_neg (by omega), if_pos c68, if_pos c47]; done) | (rw [shw_lt hk hn c12, shF, if_neg (by omega), if_pos c68, if_neg c47]; done) | (rw [shw_lt hk hn c12, shF, if_neg (by omega), if_neg (by omega), if_pos c68, if_pos c47, if_neg c139]; done) | (rw [shw_lt hk hn c12, shF, if_neg (by omega), if_neg (by omega), if_pos c68, if_neg c47, if_neg c139]; done) | (rw [shw_lt hk hn c12, shF, if_neg (by omega), if_neg (by omega), if_pos c68, if_pos c47, if_pos c139]; done) | (rw [shw_lt hk hn c12, shF, if_neg (by omega), if_neg (by omega), if_pos c68, if_neg c47, if_pos c139]; done) | (rw [shw_lt hk hn c12, shF, if_neg (by omega), if_neg (by omega), if_neg (by omega), if_pos c68, if_neg c158]; done) | (rw [shw_lt hk hn c12, shF, if_neg (by omega), if_neg (by omega), if_neg (by omega), if_pos c68, if_pos c158]; done) | (rw [shw_lt hk hn c12, shF, if_neg (by omega), if_neg (by omega), if_neg (by omega), if_neg (by omega), if_pos c68]; done) | (rw [shw_lt hk hn c12, shF, if_neg (by omega), if_neg (by omega), if_neg (by omega), if_neg (by omega), if_neg (by omega)]; done)
          · rfl
    · refine g_iconst (v := 0) h dX0_shownIn_15 (by decide) ?_
      refine g_ireturn h dX0_shownIn_16 rfl rfl ⟨Nat.zero_le _, Nat.zero_le _, rfl, ?_, ?_⟩
      · first | (rw [shw, c5]; rfl) | (rw [shw, c12, Bool.and_false]; rfl) | (rw [shw_lt hk hn c12, shF, if_pos c68]; done) | (rw [shw_lt hk hn c12, shF, if_neg (by omega), if_pos c68, if_pos c47]; done) | (rw [shw_lt hk hn c12, shF, if_neg (by omega), if_pos c68, if_neg c47]; done) | (rw [shw_lt hk hn c12, shF, if_neg (by omega), if_neg (by omega), if_pos c68, if_pos c47, if_neg c139]; done) | (rw [shw_lt hk hn c12, shF, if_neg (by omega), if_neg (by omega), if_pos c68, if_neg c47, if_neg c139]; done) | (rw [shw_lt hk hn c12, shF, if_neg (by omega), if_neg (by omega), if_pos c68, if_pos c47, if_pos c139]; done) | (rw [shw_lt hk hn c12, shF, if_neg (by omega), if_neg (by omega), if_pos c68, if_neg c47, if_pos c139]; done) | (rw [shw_lt hk hn c12, shF, if_neg (by omega), if_neg (by omega), if_neg (by omega), if_pos c68, if_neg c158]; done) | (rw [shw_lt hk hn c12, shF, if_neg (by omega), if_neg (by omega), if_neg (by omega), if_pos c68, if_pos c158]; done) | (rw [shw_lt hk hn c12, shF, if_neg (by omega), if_neg (by omega), if_neg (by omega), if_neg (by omega), if_pos c68]; done) | (rw [shw_lt hk hn c12, shF, if_neg (by omega), if_neg (by omega), if_neg (by omega), if_neg (by omega), if_neg (by omega)]; done)
      · rfl
set_option maxHeartbeats 4000000 in
set_option maxRecDepth 100000 in
theorem kX0_copyFrom {l : Launch} {E : gE} {h0 h1 h2 h3 h4 g0 g1 g2 g3 g4 n m : Nat} {kd fa fb kd2 ga gb : Nat → Int32} (hm : m ≤ 8) : CtrF l yX0_copyFrom cX0_copyFrom 2 none (gR 3 64) E [.ref h0, .ref g0] (wCa E h0 h1 h2 h3 h4 kd n fa fb ++ wCa E g0 g1 g2 g3 g4 kd2 m ga gb) none (wCa E h0 h1 h2 h3 h4 (va_cpy kd2 kd 0 0 8) m (cpy ga fa m) (cpy gb fb m) ++ wCa E g0 g1 g2 g3 g4 kd2 m ga gb) := by
  refine ctr_of false (plainFor_of_name (by decide)) (Nat.le_of_ble_eq_true rfl) (fun q => by cases q) (fun Γ h => ?_)
  refine g_lv [some _, some _] rfl ?_
  refine g_aload_n h dX0_copyFrom_0 rfl ?_
  refine g_get h flX0_9 dX0_copyFrom_1 5 rfl rfl ?_
  refine g_iconst (v := 0) h dX0_copyFrom_4 (by decide) ?_
  refine g_aload_n h dX0_copyFrom_5 rfl ?_
  refine g_get h flX0_9 dX0_copyFrom_6 0 rfl rfl ?_
  refine g_iconst (v := 0) h dX0_copyFrom_9 (by decide) ?_
  refine g_bipush (v := 8) h dX0_copyFrom_10 (by decide) ?_
  refine g_acopy (ws' := [_, _, _, _, _, _, _, _, _, _]) h dX0_copyFrom_12 lkX0_69 gac1 gac2 gac3 6 1 rfl rfl rfl (by decide) (by decide) (by decide) (by decide) (by decide) rfl ?_
  refine g_aload_n h dX0_copyFrom_15 rfl ?_
  refine g_get h flX0_20 dX0_copyFrom_16 0 rfl rfl ?_
  refine g_aload_n h dX0_copyFrom_19 rfl ?_
  refine g_get h flX0_20 dX0_copyFrom_20 5 rfl rfl ?_
  refine g_cVv (ws' := [_, _, _, _, _, _, _, _, _, _]) h (kX3_copyFrom hm hm (by decide) (by decide)) mX3_copyFrom lkX0_75 dX0_copyFrom_23 rfl rfl ⟨Nat.zero_le _, Nat.zero_le _⟩ ⟨by decide, by decide⟩ (Nat.le_of_ble_eq_true rfl) [2, 3, 4, 7, 8, 9] rfl rfl 2 rfl rfl rfl ?_
  refine g_return h dX0_copyFrom_26 rfl ⟨Nat.zero_le _, Nat.zero_le _, rfl, ?_, ?_⟩
  · rfl
  · rfl
