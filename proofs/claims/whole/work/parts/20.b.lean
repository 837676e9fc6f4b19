set_option maxHeartbeats 4000000 in
set_option maxRecDepth 100000 in
theorem kX4_solve {l : Launch} {E : gE} {h0 h1 h2 h3 h4 ci : Nat} {sh tb mn : Nat → Int64} {co : Nat → Nat} {m : Nat} (hm : m < 256) (hco : ∀ j, j < 5 → co j ≤ 8) : CtrF l yX4_solve cX4_solve 4 (some .boolean) (gR 2 49) E [.ref h0, .int (nI m)] (wPd E h0 h1 h2 h3 h4 sh tb co ci mn) (some (.int (bI (firm tb co mn m)))) (wPd E h0 h1 h2 h3 h4 sh tb (cols m co) (colN m co) (sMn tb co mn m)) := by
  refine ctr_of false (plainFor_of_name (by decide)) (Nat.le_of_ble_eq_true rfl) (fun q => by cases q) (fun Γ h => ?_)
  refine g_lv [some _, some _, _, _] rfl ?_
  refine g_aload_n h dX4_solve_0 rfl ?_
  refine g_iload_n h dX4_solve_1 rfl ?_
  refine g_cVv (ws' := [_, _, _, _, _]) h (kX4_pickColumns hm) mX4_pickColumns lkX4_64 dX4_solve_2 rfl rfl ⟨Nat.zero_le _, Nat.zero_le _⟩ ⟨by decide, by decide⟩ (Nat.le_of_ble_eq_true rfl) [0, 1, 2, 3, 4] rfl rfl 0 rfl rfl rfl ?_
  have hN := colN_le m co
  have hC := cols_le (m := m) hco
  refine g_aload_n h dX4_solve_5 rfl ?_
  refine g_get h flX4_22 dX4_solve_6 0 rfl rfl ?_
  refine g_iconst (v := 0) h dX4_solve_9 (by decide) ?_
  refine g_lconst (v := 1) h dX4_solve_10 (by decide) ?_
  refine g_last (ws' := [_, _, _, _, _]) h dX4_solve_11 4 0 rfl rfl (by omega) (by omega) rfl ?_
  refine g_iconst (v := 1) h dX4_solve_12 (by decide) ?_
  refine g_aload_n h dX4_solve_13 rfl ?_
  refine g_get h flX4_68 dX4_solve_14 0 rfl rfl ?_
  refine g_iconst (v := 1) h dX4_solve_17 (by decide) ?_
  refine g_iadd h dX4_solve_18 ?_
  refine g_topi _ (nI_add _ 1) ?_
  refine g_ishl h dX4_solve_19 ?_
  refine g_topi (nI (2 ^ (colN m co + 1))) (shl1 _ (by omega)) ?_
  refine g_istore_n (lv' := [some _, some _, some _, _]) h dX4_solve_20 (by decide) rfl ?_
  refine g_iconst (v := 1) h dX4_solve_21 (by decide) ?_
  refine g_istore_n (lv' := [some _, some _, some _, some _]) h dX4_solve_22 (by decide) rfl ?_
  have loop23 : ∀ (j : Nat) (t : Nat) (_ : t < 2 ^ (colN m co + 1)), 2 ^ (colN m co + 1) - t < j → Γ 0 0 23 [some (.ref h0), some (.int (nI m)), some (.int (nI (2 ^ (colN m co + 1)))), some (.int (nI (t + 1)))] [] (wPd E h0 h1 h2 h3 h4 sh tb (cols m co) (colN m co) (mfl tb (cols m co) (colN m co) mn t)) := by
    intro j
    induction j with
    | zero => intro t ht hj; exact absurd hj (Nat.not_lt_zero _)
    | succ j ih =>
      intro t ht hj
      have h32 := p2le (c := colN m co + 1) (by omega)
      refine g_iload_n h dX4_solve_23 rfl ?_
      refine g_iload_n h dX4_solve_24 rfl ?_
      refine g_ic_ge h dX4_solve_25 rfl (fun c25 => ?_) (fun c25 => ?_)
      · replace c25 := (nI_leI (by omega) (by omega)).mp c25
        refine g_aload_n h dX4_solve_54 rfl ?_
        refine g_cVr h (kX4_below hN) mX4_below lkX4_76 dX4_solve_55 rfl rfl ⟨Nat.zero_le _, Nat.zero_le _⟩ ⟨by decide, by decide⟩ (Nat.le_of_ble_eq_true rfl) [0, 1, 2, 3, 4] rfl rfl 0 rfl rfl ?_
        refine g_lconst (v := 0) h dX4_solve_58 (by decide) ?_
        refine g_lcmp h dX4_solve_59 ?_
        refine g_lif_eq h dX4_solve_60 rfl (fun c60 => ?_) (fun c60 => ?_)
        · refine g_iconst (v := 0) h dX4_solve_67 (by decide) ?_
          refine g_ireturn h dX4_solve_68 rfl (by first | rfl | exact bI_nar _) ⟨Nat.zero_le _, Nat.zero_le _, rfl, ?_, ?_⟩
          · first | (rw [firm, sMn, show 2 ^ (colN m co + 1) - 1 = t by omega, decide_eq_true c60]; rfl) | (rw [firm, sMn, show 2 ^ (colN m co + 1) - 1 = t by omega, decide_eq_false c60]; rfl)
          · rw [sMn, show 2 ^ (colN m co + 1) - 1 = t by omega]
        · refine g_iconst (v := 1) h dX4_solve_63 (by decide) ?_
          refine g_goto h dX4_solve_64 rfl ?_
          refine g_ireturn h dX4_solve_68 rfl (by first | rfl | exact bI_nar _) ⟨Nat.zero_le _, Nat.zero_le _, rfl, ?_, ?_⟩
          · first | (rw [firm, sMn, show 2 ^ (colN m co + 1) - 1 = t by omega, decide_eq_true c60]; rfl) | (rw [firm, sMn, show 2 ^ (colN m co + 1) - 1 = t by omega, decide_eq_false c60]; rfl)
          · rw [sMn, show 2 ^ (colN m co + 1) - 1 = t by omega]
      · replace c25 := (not_congr (nI_leI (by omega) (by omega))).mp c25
        refine g_iload_n h dX4_solve_28 rfl ?_
        refine g_aload_n h dX4_solve_29 rfl ?_
        refine g_get h flX4_22 dX4_solve_30 0 rfl rfl ?_
        refine g_alen1 h dX4_solve_33 4 rfl ?_
        refine g_ic_ge h dX4_solve_34 rfl (fun c34 => ?_) (fun c34 => ?_)
        · replace c34 := (nI_leI (by omega) (by omega)).mp c34
          refine g_aload_n h dX4_solve_54 rfl ?_
          refine g_cVr h (kX4_below hN) mX4_below lkX4_76 dX4_solve_55 rfl rfl ⟨Nat.zero_le _, Nat.zero_le _⟩ ⟨by decide, by decide⟩ (Nat.le_of_ble_eq_true rfl) [0, 1, 2, 3, 4] rfl rfl 0 rfl rfl ?_
          refine g_lconst (v := 0) h dX4_solve_58 (by decide) ?_
          refine g_lcmp h dX4_solve_59 ?_
          refine g_lif_eq h dX4_solve_60 rfl (fun c60 => ?_) (fun c60 => ?_)
          · refine g_iconst (v := 0) h dX4_solve_67 (by decide) ?_
            refine g_ireturn h dX4_solve_68 rfl (by first | rfl | exact bI_nar _) ⟨Nat.zero_le _, Nat.zero_le _, rfl, ?_, ?_⟩
            · first | (rw [firm, sMn, show 2 ^ (colN m co + 1) - 1 = t by omega, decide_eq_true c60]; rfl) | (rw [firm, sMn, show 2 ^ (colN m co + 1) - 1 = t by omega, decide_eq_false c60]; rfl)
            · rw [sMn, show 2 ^ (colN m co + 1) - 1 = t by omega]
          · refine g_iconst (v := 1) h dX4_solve_63 (by decide) ?_
            refine g_goto h dX4_solve_64 rfl ?_
            refine g_ireturn h dX4_solve_68 rfl (by first | rfl | exact bI_nar _) ⟨Nat.zero_le _, Nat.zero_le _, rfl, ?_, ?_⟩
            · first | (rw [firm, sMn, show 2 ^ (colN m co + 1) - 1 = t by omega, decide_eq_true c60]; rfl) | (rw [firm, sMn, show 2 ^ (colN m co + 1) - 1 = t by omega, decide_eq_false c60]; rfl)
            · rw [sMn, show 2 ^ (colN m co + 1) - 1 = t by omega]
        · replace c34 := (not_congr (nI_leI (by omega) (by omega))).mp c34
          refine g_aload_n h dX4_solve_37 rfl ?_
          refine g_get h flX4_22 dX4_solve_38 0 rfl rfl ?_
          refine g_iload_n h dX4_solve_41 rfl ?_
          refine g_aload_n h dX4_solve_42 rfl ?_
          refine g_iload_n h dX4_solve_43 rfl ?_
          refine g_cVr h (kX4_minorOf hN (by omega) (by omega) hC) mX4_minorOf lkX4_72 dX4_solve_44 rfl rfl ⟨Nat.zero_le _, Nat.zero_le _⟩ ⟨by decide, by decide⟩ (Nat.le_of_ble_eq_true rfl) [0, 1, 2, 3, 4] rfl rfl 0 rfl rfl ?_
          refine g_last (ws' := [_, _, _, _, _]) h dX4_solve_47 4 _ rfl rfl (by omega) (by omega) rfl ?_
          refine g_iinc (lv' := [some _, some _, some _, some _]) h dX4_solve_48 rfl (nI_inc1 _) (by decide) rfl ?_
          refine g_goto h dX4_solve_51 rfl ?_
          exact ih (t + 1) (by omega) (by omega)
  exact loop23 _ 0 (p2ge _) (Nat.lt_succ_self _)
