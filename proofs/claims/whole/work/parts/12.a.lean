set_option maxHeartbeats 4000000 in
set_option maxRecDepth 100000 in
theorem kX9_greatestTurnAt {l : Launch} {E : gE} {h0 h1 h2 h3 n : Nat} {fs fg : Nat → Int32} {p : Int32} (hn : n ≤ 60) : CtrF l yX9_greatestTurnAt cX9_greatestTurnAt 7 (some .int) (gR 3 64) E [.ref h0, .int p] (wTr E h0 h1 h2 h3 n fs fg) (some (.int (gturn fs fg p n).1)) (wTr E h0 h1 h2 h3 n fs fg) := by
  refine ctr_of false (plainFor_of_name (by decide)) (Nat.le_of_ble_eq_true rfl) (fun q => by cases q) (fun Γ h => ?_)
  refine g_lv [some _, some _, _, _, _, _, _] rfl ?_
  refine g_iconst (v := 0) h dX9_greatestTurnAt_0 (by decide) ?_
  refine g_istore_n (lv' := [some _, some _, some _, _, _, _, _]) h dX9_greatestTurnAt_1 (by decide) rfl ?_
  refine g_iconst (v := 0) h dX9_greatestTurnAt_2 (by decide) ?_
  refine g_istore_n (lv' := [some _, some _, some _, some _, _, _, _]) h dX9_greatestTurnAt_3 (by decide) rfl ?_
  refine g_iconst (v := 0) h dX9_greatestTurnAt_4 (by decide) ?_
  refine g_istore (lv' := [some _, some _, some _, some _, some _, _, _]) h dX9_greatestTurnAt_5 (by decide) rfl ?_
  refine g_iconst (v := 0) h dX9_greatestTurnAt_7 (by decide) ?_
  refine g_istore (lv' := [some _, some _, some _, some _, some _, some _, _]) h dX9_greatestTurnAt_8 (by decide) rfl ?_
  have loop10 : ∀ (j : Nat) (k : Nat) (o6 : Option Value) (_ : k ≤ n), n - k < j → Γ 0 0 10 [some (.ref h0), some (.int p), some (.int (gturn fs fg p k).1), some (.int (bI (gturn fs fg p k).2.1)), some (.int (gturn fs fg p k).2.2), some (.int (nI k)), o6] [] (wTr E h0 h1 h2 h3 n fs fg) := by
    intro j
    induction j with
    | zero => intro k o6 hk hj; exact absurd hj (Nat.not_lt_zero _)
    | succ j ih =>
      intro k o6 hk hj
      refine g_iload h dX9_greatestTurnAt_10 rfl ?_
      refine g_aload_n h dX9_greatestTurnAt_12 rfl ?_
      refine g_get h flX9_14 dX9_greatestTurnAt_13 0 rfl rfl ?_
      refine g_cVr h kX3_length mX3_length lkX9_30 dX9_greatestTurnAt_16 rfl rfl ⟨Nat.zero_le _, Nat.zero_le _⟩ ⟨by decide, by decide⟩ (Nat.le_of_ble_eq_true rfl) [1, 2, 3] rfl rfl 1 rfl rfl ?_
      refine g_ic_ge h dX9_greatestTurnAt_19 rfl (fun c19 => ?_) (fun c19 => ?_)
      · replace c19 := (nI_leI (by omega) (by omega)).mp c19
        refine g_iload_n h dX9_greatestTurnAt_72 rfl ?_
        refine g_ireturn h dX9_greatestTurnAt_73 rfl rfl ⟨Nat.zero_le _, Nat.zero_le _, rfl, ?_, ?_⟩
        · rw [show k = n by omega]
        · rfl
      · replace c19 := (not_congr (nI_leI (by omega) (by omega))).mp c19
        have c19 : k < n := by omega
        refine g_aload_n h dX9_greatestTurnAt_22 rfl ?_
        refine g_iload h dX9_greatestTurnAt_23 rfl ?_
        refine g_iload_n h dX9_greatestTurnAt_25 rfl ?_
        refine g_cVr h (kX9_isAt c19 hn) mX9_isAt lkX9_34 dX9_greatestTurnAt_26 rfl rfl ⟨Nat.zero_le _, Nat.zero_le _⟩ ⟨by decide, by decide⟩ (Nat.le_of_ble_eq_true rfl) [0, 1, 2, 3] rfl rfl 0 rfl rfl ?_
        refine g_ifb_eq h dX9_greatestTurnAt_29 rfl (fun c29 => ?_) (fun c29 => ?_)
        · refine g_iinc (lv' := [some _, some _, some _, some _, some _, some _, _]) h dX9_greatestTurnAt_66 rfl (nI_inc1 _) (by decide) rfl ?_
          refine g_goto h dX9_greatestTurnAt_69 rfl ?_
          have e : gturn fs fg p (k + 1) = if atP fs p k then (if (gturn fs fg p k).2.1 then maxI (gturn fs fg p k).1 (absI (fg k - (gturn fs fg p k).2.2)) else (gturn fs fg p k).1, true, fg k) else gturn fs fg p k := rfl
          first
          | (rw [c29, if_neg (by decide)] at e; exact g_as rfl (show _ = [some (.ref h0), some (.int p), some (.int (gturn fs fg p (k + 1)).1), some (.int (bI (gturn fs fg p (k + 1)).2.1)), some (.int (gturn fs fg p (k + 1)).2.2), some (.int (nI (k + 1))), _] by rw [e] <;> rfl) rfl rfl (ih (k + 1) _ (by omega) (by omega)))
          | (rw [c29, c44, if_pos rfl, if_pos rfl] at e; exact g_as rfl (show _ = [some (.ref h0), some (.int p), some (.int (gturn fs fg p (k + 1)).1), some (.int (bI (gturn fs fg p (k + 1)).2.1)), some (.int (gturn fs fg p (k + 1)).2.2), some (.int (nI (k + 1))), _] by rw [e] <;> rfl) rfl rfl (ih (k + 1) _ (by omega) (by omega)))
          | (rw [c29, c44, if_pos rfl, if_neg (by decide)] at e; exact g_as rfl (show _ = [some (.ref h0), some (.int p), some (.int (gturn fs fg p (k + 1)).1), some (.int (bI (gturn fs fg p (k + 1)).2.1)), some (.int (gturn fs fg p (k + 1)).2.2), some (.int (nI (k + 1))), _] by rw [e] <;> rfl) rfl rfl (ih (k + 1) _ (by omega) (by omega)))
        · refine g_aload_n h dX9_greatestTurnAt_32 rfl ?_
          refine g_get h flX9_14 dX9_greatestTurnAt_33 0 rfl rfl ?_
          refine g_iload h dX9_greatestTurnAt_36 rfl ?_
          refine g_cVr h (kX3_second hn (by omega)) mX3_second lkX9_38 dX9_greatestTurnAt_38 rfl rfl ⟨Nat.zero_le _, Nat.zero_le _⟩ ⟨by decide, by decide⟩ (Nat.le_of_ble_eq_true rfl) [1, 2, 3] rfl rfl 1 rfl rfl ?_
          rw [pget_lt c19 (by omega)]
          refine g_istore (lv' := [some _, some _, some _, some _, some _, some _, some _]) h dX9_greatestTurnAt_41 (by decide) rfl ?_
          refine g_iload_n h dX9_greatestTurnAt_43 rfl ?_
          refine g_ifb_eq h dX9_greatestTurnAt_44 rfl (fun c44 => ?_) (fun c44 => ?_)
          · refine g_iconst (v := 1) h dX9_greatestTurnAt_60 (by decide) ?_
            refine g_istore_n (lv' := [some _, some _, some _, some _, some _, some _, some _]) h dX9_greatestTurnAt_61 (by decide) rfl ?_
            refine g_iload h dX9_greatestTurnAt_62 rfl ?_
            refine g_istore (lv' := [some _, some _, some _, some _, some _, some _, some _]) h dX9_greatestTurnAt_64 (by decide) rfl ?_
            refine g_iinc (lv' := [some _, some _, some _, some _, some _, some _, some _]) h dX9_greatestTurnAt_66 rfl (nI_inc1 _) (by decide) rfl ?_
            refine g_goto h dX9_greatestTurnAt_69 rfl ?_
            have e : gturn fs fg p (k + 1) = if atP fs p k then (if (gturn fs fg p k).2.1 then maxI (gturn fs fg p k).1 (absI (fg k - (gturn fs fg p k).2.2)) else (gturn fs fg p k).1, true, fg k) else gturn fs fg p k := rfl
            first
            | (rw [c29, if_neg (by decide)] at e; exact g_as rfl (show _ = [some (.ref h0), some (.int p), some (.int (gturn fs fg p (k + 1)).1), some (.int (bI (gturn fs fg p (k + 1)).2.1)), some (.int (gturn fs fg p (k + 1)).2.2), some (.int (nI (k + 1))), _] by rw [e] <;> rfl) rfl rfl (ih (k + 1) _ (by omega) (by omega)))
            | (rw [c29, c44, if_pos rfl, if_pos rfl] at e; exact g_as rfl (show _ = [some (.ref h0), some (.int p), some (.int (gturn fs fg p (k + 1)).1), some (.int (bI (gturn fs fg p (k + 1)).2.1)), some (.int (gturn fs fg p (k + 1)).2.2), some (.int (nI (k + 1))), _] by rw [e] <;> rfl) rfl rfl (ih (k + 1) _ (by omega) (by omega)))
            | (rw [c29, c44, if_pos rfl, if_neg (by decide)] at e; exact g_as rfl (show _ = [some (.ref h0), some (.int p), some (.int (gturn fs fg p (k + 1)).1), some (.int (bI (gturn fs fg p (k + 1)).2.1)), some (.int (gturn fs fg p (k + 1)).2.2), some (.int (nI (k + 1))), _] by rw [e] <;> rfl) rfl rfl (ih (k + 1) _ (by omega) (by omega)))
          · refine g_iload_n h dX9_greatestTurnAt_47 rfl ?_
            refine g_iload h dX9_greatestTurnAt_48 rfl ?_
            refine g_iload h dX9_greatestTurnAt_50 rfl ?_
            refine g_isub h dX9_greatestTurnAt_52 ?_
            refine g_cSr h kJ9_abs_0f7a4 mJ9_abs_0f7a4 lkX9_41 dX9_greatestTurnAt_53 rfl rfl ⟨Nat.zero_le _, Nat.zero_le _⟩ ⟨by decide, by decide⟩ (Nat.le_of_ble_eq_true rfl) [] rfl rfl ?_
            refine g_cSr h kJ9_max_7cf53 mJ9_max_7cf53 lkX9_46 dX9_greatestTurnAt_56 rfl rfl ⟨Nat.zero_le _, Nat.zero_le _⟩ ⟨by decide, by decide⟩ (Nat.le_of_ble_eq_true rfl) [] rfl rfl ?_
            refine g_istore_n (lv' := [some _, some _, some _, some _, some _, some _, some _]) h dX9_greatestTurnAt_59 (by decide) rfl ?_
            refine g_iconst (v := 1) h dX9_greatestTurnAt_60 (by decide) ?_
            refine g_istore_n (lv' := [some _, some _, some _, some _, some _, some _, some _]) h dX9_greatestTurnAt_61 (by decide) rfl ?_
            refine g_iload h dX9_greatestTurnAt_62 rfl ?_
            refine g_istore (lv' := [some _, some _, some _, some _, some _, some _, some _]) h dX9_greatestTurnAt_64 (by decide) rfl ?_
            refine g_iinc (lv' := [some _, some _, some _, some _, some _, some _, some _]) h dX9_greatestTurnAt_66 rfl (nI_inc1 _) (by decide) rfl ?_
            refine g_goto h dX9_greatestTurnAt_69 rfl ?_
            have e : gturn fs fg p (k + 1) = if atP fs p k then (if (gturn fs fg p k).2.1 then maxI (gturn fs fg p k).1 (absI (fg k - (gturn fs fg p k).2.2)) else (gturn fs fg p k).1, true, fg k) else gturn fs fg p k := rfl
            first
            | (rw [c29, if_neg (by decide)] at e; exact g_as rfl (show _ = [some (.ref h0), some (.int p), some (.int (gturn fs fg p (k + 1)).1), some (.int (bI (gturn fs fg p (k + 1)).2.1)), some (.int (gturn fs fg p (k + 1)).2.2), some (.int (nI (k + 1))), _] by rw [e] <;> rfl) rfl rfl (ih (k + 1) _ (by omega) (by omega)))
            | (rw [c29, c44, if_pos rfl, if_pos rfl] at e; exact g_as rfl (show _ = [some (.ref h0), some (.int p), some (.int (gturn fs fg p (k + 1)).1), some (.int (bI (gturn fs fg p (k + 1)).2.1)), some (.int (gturn fs fg p (k + 1)).2.2), some (.int (nI (k + 1))), _] by rw [e] <;> rfl) rfl rfl (ih (k + 1) _ (by omega) (by omega)))
            | (rw [c29, c44, if_pos rfl, if_neg (by decide)] at e; exact g_as rfl (show _ = [some (.ref h0), some (.int p), some (.int (gturn fs fg p (k + 1)).1), some (.int (bI (gturn fs fg p (k + 1)).2.1)), some (.int (gturn fs fg p (k + 1)).2.2), some (.int (nI (k + 1))), _] by rw [e] <;> rfl) rfl rfl (ih (k + 1) _ (by omega) (by omega)))
  exact loop10 _ 0 none (Nat.zero_le _) (Nat.lt_succ_self _)
