set_option maxHeartbeats 4000000 in
set_option maxRecDepth 100000 in
theorem kX2_order {l : Launch} {E : gE} {a0 b0 c0 d0 : Int64}  : CtrF l yX2_order cX2_order 17 (some .int) (gR 1 25) E [.long a0, .long b0, .long c0, .long d0] ([]) (some (.int (ordr 100 a0 b0 c0 d0))) ([]) := by
  refine ctr_of false (plainFor_of_name (by decide)) (Nat.le_of_ble_eq_true rfl) (fun q => by cases q) (fun Γ h => ?_)
  refine g_lv [some _, none, some _, none, some _, none, some _, none, _, _, _, _, _, _, _, _, _] rfl ?_
  refine g_iconst (v := 0) h dX2_order_0 (by decide) ?_
  refine g_istore (lv' := [some _, none, some _, none, some _, none, some _, none, some _, _, _, _, _, _, _, _, _]) h dX2_order_1 (by decide) rfl ?_
  have loop3 : ∀ (j : Nat) (k : Nat) (a b c d : Int64) (o9 o11 o13 o15 : Option Value) (_ : k ≤ 100) (_ : ordr 100 a0 b0 c0 d0 = ordr (100 - k) a b c d), 100 - k < j → Γ 0 0 3 [some (.long a), none, some (.long b), none, some (.long c), none, some (.long d), none, some (.int (nI k)), o9, none, o11, none, o13, none, o15, none] [] [] := by
    intro j
    induction j with
    | zero => intro k a b c d o9 o11 o13 o15 hk hinv hj; exact absurd hj (Nat.not_lt_zero _)
    | succ j ih =>
      intro k a b c d o9 o11 o13 o15 hk hinv hj
      refine g_iload h dX2_order_3 rfl ?_
      refine g_bipush (v := 100) h dX2_order_5 (by decide) ?_
      refine g_ic_ge h dX2_order_7 rfl (fun c7 => ?_) (fun c7 => ?_)
      · replace c7 := (nI_leI (a := 100) (by omega) (by omega)).mp c7
        refine g_iconst (v := 0) h dX2_order_114 (by decide) ?_
        refine g_ireturn h dX2_order_115 rfl rfl ⟨Nat.zero_le _, Nat.zero_le _, rfl, ?_, ?_⟩
        · first | (rw [hinv, show 100 - k = 0 by omega]; rfl) | (rw [hinv, show 100 - k = 100 - (k + 1) + 1 by omega, ordr, if_pos c13]; done) | (rw [hinv, show 100 - k = 100 - (k + 1) + 1 by omega, ordr, if_neg c13, if_pos c20]; done) | (rw [hinv, show 100 - k = 100 - (k + 1) + 1 by omega, ordr, if_neg c13, if_neg c20, if_neg c44]; done) | (rw [hinv, show 100 - k = 100 - (k + 1) + 1 by omega, ordr, if_neg c13, if_neg c20, if_pos c44, if_pos c77]; done) | (rw [hinv, show 100 - k = 100 - (k + 1) + 1 by omega, ordr, if_neg c13, if_neg c20, if_pos c44, if_neg c77, if_pos c84]; done)
        · rfl
      · replace c7 := (not_congr (nI_leI (a := 100) (by omega) (by omega))).mp c7
        refine g_lload_n h dX2_order_10 rfl ?_
        refine g_lconst (v := 0) h dX2_order_11 (by decide) ?_
        refine g_lcmp h dX2_order_12 ?_
        refine g_lif_le h dX2_order_13 rfl (fun c13 => ?_) (fun c13 => ?_)
        · refine g_iconst (v := 0) h dX2_order_114 (by decide) ?_
          refine g_ireturn h dX2_order_115 rfl rfl ⟨Nat.zero_le _, Nat.zero_le _, rfl, ?_, ?_⟩
          · first | (rw [hinv, show 100 - k = 0 by omega]; rfl) | (rw [hinv, show 100 - k = 100 - (k + 1) + 1 by omega, ordr, if_pos c13]; done) | (rw [hinv, show 100 - k = 100 - (k + 1) + 1 by omega, ordr, if_neg c13, if_pos c20]; done) | (rw [hinv, show 100 - k = 100 - (k + 1) + 1 by omega, ordr, if_neg c13, if_neg c20, if_neg c44]; done) | (rw [hinv, show 100 - k = 100 - (k + 1) + 1 by omega, ordr, if_neg c13, if_neg c20, if_pos c44, if_pos c77]; done) | (rw [hinv, show 100 - k = 100 - (k + 1) + 1 by omega, ordr, if_neg c13, if_neg c20, if_pos c44, if_neg c77, if_pos c84]; done)
          · rfl
        · refine g_lload h dX2_order_16 rfl ?_
          refine g_lconst (v := 0) h dX2_order_18 (by decide) ?_
          refine g_lcmp h dX2_order_19 ?_
          refine g_lif_le h dX2_order_20 rfl (fun c20 => ?_) (fun c20 => ?_)
          · refine g_iconst (v := 0) h dX2_order_114 (by decide) ?_
            refine g_ireturn h dX2_order_115 rfl rfl ⟨Nat.zero_le _, Nat.zero_le _, rfl, ?_, ?_⟩
            · first | (rw [hinv, show 100 - k = 0 by omega]; rfl) | (rw [hinv, show 100 - k = 100 - (k + 1) + 1 by omega, ordr, if_pos c13]; done) | (rw [hinv, show 100 - k = 100 - (k + 1) + 1 by omega, ordr, if_neg c13, if_pos c20]; done) | (rw [hinv, show 100 - k = 100 - (k + 1) + 1 by omega, ordr, if_neg c13, if_neg c20, if_neg c44]; done) | (rw [hinv, show 100 - k = 100 - (k + 1) + 1 by omega, ordr, if_neg c13, if_neg c20, if_pos c44, if_pos c77]; done) | (rw [hinv, show 100 - k = 100 - (k + 1) + 1 by omega, ordr, if_neg c13, if_neg c20, if_pos c44, if_neg c77, if_pos c84]; done)
            · rfl
          · refine g_lload_n h dX2_order_23 rfl ?_
            refine g_lload_n h dX2_order_24 rfl ?_
            refine g_cSr h (kJ9_floorDiv_f86c9 (fun q => by rw [q] at c13; exact c13 (by decide))) mJ9_floorDiv_f86c9 lkX2_19 dX2_order_25 rfl rfl ⟨Nat.zero_le _, Nat.zero_le _⟩ ⟨by decide, by decide⟩ (Nat.le_of_ble_eq_true rfl) [] rfl rfl ?_
            refine g_lstore (lv' := [some _, none, some _, none, some _, none, some _, none, some _, some _, none, _, _, _, _, _, _]) h dX2_order_28 (by decide) rfl ?_
            refine g_lload h dX2_order_30 rfl ?_
            refine g_lload h dX2_order_32 rfl ?_
            refine g_cSr h (kJ9_floorDiv_f86c9 (fun q => by rw [q] at c20; exact c20 (by decide))) mJ9_floorDiv_f86c9 lkX2_19 dX2_order_34 rfl rfl ⟨Nat.zero_le _, Nat.zero_le _⟩ ⟨by decide, by decide⟩ (Nat.le_of_ble_eq_true rfl) [] rfl rfl ?_
            refine g_lstore (lv' := [some _, none, some _, none, some _, none, some _, none, some _, some _, none, some _, none, _, _, _, _]) h dX2_order_37 (by decide) rfl ?_
            refine g_lload h dX2_order_39 rfl ?_
            refine g_lload h dX2_order_41 rfl ?_
            refine g_lcmp h dX2_order_43 ?_
            refine g_lif_eq h dX2_order_44 rfl (fun c44 => ?_) (fun c44 => ?_)
            · refine g_lload_n h dX2_order_55 rfl ?_
              refine g_lload h dX2_order_56 rfl ?_
              refine g_lload_n h dX2_order_58 rfl ?_
              refine g_lmul h dX2_order_59 ?_
              refine g_lsub h dX2_order_60 ?_
              refine g_lstore (lv' := [some _, none, some _, none, some _, none, some _, none, some _, some _, none, some _, none, some _, none, _, _]) h dX2_order_61 (by decide) rfl ?_
              refine g_lload h dX2_order_63 rfl ?_
              refine g_lload h dX2_order_65 rfl ?_
              refine g_lload h dX2_order_67 rfl ?_
              refine g_lmul h dX2_order_69 ?_
              refine g_lsub h dX2_order_70 ?_
              refine g_lstore (lv' := [some _, none, some _, none, some _, none, some _, none, some _, some _, none, some _, none, some _, none, some _, none]) h dX2_order_71 (by decide) rfl ?_
              refine g_lload h dX2_order_73 rfl ?_
              refine g_lconst (v := 0) h dX2_order_75 (by decide) ?_
              refine g_lcmp h dX2_order_76 ?_
              refine g_lif_eq h dX2_order_77 rfl (fun c77 => ?_) (fun c77 => ?_)
              · refine g_lload h dX2_order_87 rfl ?_
                refine g_lload h dX2_order_89 rfl ?_
                refine g_cSr h kJ13_compare_74951 mJ13_compare_74951 lkX2_22 dX2_order_91 rfl rfl ⟨Nat.zero_le _, Nat.zero_le _⟩ ⟨by decide, by decide⟩ (Nat.le_of_ble_eq_true rfl) [] rfl rfl ?_
                refine g_ireturn h dX2_order_94 rfl rfl ⟨Nat.zero_le _, Nat.zero_le _, rfl, ?_, ?_⟩
                · first | (rw [hinv, show 100 - k = 0 by omega]; rfl) | (rw [hinv, show 100 - k = 100 - (k + 1) + 1 by omega, ordr, if_pos c13]; done) | (rw [hinv, show 100 - k = 100 - (k + 1) + 1 by omega, ordr, if_neg c13, if_pos c20]; done) | (rw [hinv, show 100 - k = 100 - (k + 1) + 1 by omega, ordr, if_neg c13, if_neg c20, if_neg c44]; done) | (rw [hinv, show 100 - k = 100 - (k + 1) + 1 by omega, ordr, if_neg c13, if_neg c20, if_pos c44, if_pos c77]; done) | (rw [hinv, show 100 - k = 100 - (k + 1) + 1 by omega, ordr, if_neg c13, if_neg c20, if_pos c44, if_neg c77, if_pos c84]; done)
                · rfl
              · refine g_lload h dX2_order_80 rfl ?_
                refine g_lconst (v := 0) h dX2_order_82 (by decide) ?_
                refine g_lcmp h dX2_order_83 ?_
                refine g_lif_ne h dX2_order_84 rfl (fun c84 => ?_) (fun c84 => ?_)
                · refine g_lload h dX2_order_95 rfl ?_
                  refine g_lstore_n (lv' := [some _, none, some _, none, some _, none, some _, none, some _, some _, none, some _, none, some _, none, some _, none]) h dX2_order_97 (by decide) rfl ?_
                  refine g_lload_n h dX2_order_98 rfl ?_
                  refine g_lstore (lv' := [some _, none, some _, none, some _, none, some _, none, some _, some _, none, some _, none, some _, none, some _, none]) h dX2_order_99 (by decide) rfl ?_
                  refine g_lload h dX2_order_101 rfl ?_
                  refine g_lstore_n (lv' := [some _, none, some _, none, some _, none, some _, none, some _, some _, none, some _, none, some _, none, some _, none]) h dX2_order_103 (by decide) rfl ?_
                  refine g_lload h dX2_order_104 rfl ?_
                  refine g_lstore (lv' := [some _, none, some _, none, some _, none, some _, none, some _, some _, none, some _, none, some _, none, some _, none]) h dX2_order_106 (by decide) rfl ?_
                  refine g_iinc (lv' := [some _, none, some _, none, some _, none, some _, none, some _, some _, none, some _, none, some _, none, some _, none]) h dX2_order_108 rfl (nI_inc1 _) (by decide) rfl ?_
                  refine g_goto h dX2_order_111 rfl ?_
                  exact ih (k + 1) d _ b _ _ _ _ _ (by omega) (by rw [hinv, show 100 - k = 100 - (k + 1) + 1 by omega, ordr, if_neg c13, if_neg c20, if_pos c44, if_neg c77, if_neg c84]) (by omega)
                · refine g_lload h dX2_order_87 rfl ?_
                  refine g_lload h dX2_order_89 rfl ?_
                  refine g_cSr h kJ13_compare_74951 mJ13_compare_74951 lkX2_22 dX2_order_91 rfl rfl ⟨Nat.zero_le _, Nat.zero_le _⟩ ⟨by decide, by decide⟩ (Nat.le_of_ble_eq_true rfl) [] rfl rfl ?_
                  refine g_ireturn h dX2_order_94 rfl rfl ⟨Nat.zero_le _, Nat.zero_le _, rfl, ?_, ?_⟩
                  · first | (rw [hinv, show 100 - k = 0 by omega]; rfl) | (rw [hinv, show 100 - k = 100 - (k + 1) + 1 by omega, ordr, if_pos c13]; done) | (rw [hinv, show 100 - k = 100 - (k + 1) + 1 by omega, ordr, if_neg c13, if_pos c20]; done) | (rw [hinv, show 100 - k = 100 - (k + 1) + 1 by omega, ordr, if_neg c13, if_neg c20, if_neg c44]; done) | (rw [hinv, show 100 - k = 100 - (k + 1) + 1 by omega, ordr, if_neg c13, if_neg c20, if_pos c44, if_pos c77]; done) | (rw [hinv, show 100 - k = 100 - (k + 1) + 1 by omega, ordr, if_neg c13, if_neg c20, if_pos c44, if_neg c77, if_pos c84]; done)
                  · rfl
            · refine g_lload h dX2_order_47 rfl ?_
              refine g_lload h dX2_order_49 rfl ?_
              refine g_cSr h kJ13_compare_74951 mJ13_compare_74951 lkX2_22 dX2_order_51 rfl rfl ⟨Nat.zero_le _, Nat.zero_le _⟩ ⟨by decide, by decide⟩ (Nat.le_of_ble_eq_true rfl) [] rfl rfl ?_
              refine g_ireturn h dX2_order_54 rfl rfl ⟨Nat.zero_le _, Nat.zero_le _, rfl, ?_, ?_⟩
              · first | (rw [hinv, show 100 - k = 0 by omega]; rfl) | (rw [hinv, show 100 - k = 100 - (k + 1) + 1 by omega, ordr, if_pos c13]; done) | (rw [hinv, show 100 - k = 100 - (k + 1) + 1 by omega, ordr, if_neg c13, if_pos c20]; done) | (rw [hinv, show 100 - k = 100 - (k + 1) + 1 by omega, ordr, if_neg c13, if_neg c20, if_neg c44]; done) | (rw [hinv, show 100 - k = 100 - (k + 1) + 1 by omega, ordr, if_neg c13, if_neg c20, if_pos c44, if_pos c77]; done) | (rw [hinv, show 100 - k = 100 - (k + 1) + 1 by omega, ordr, if_neg c13, if_neg c20, if_pos c44, if_neg c77, if_pos c84]; done)
              · rfl
  exact loop3 _ 0 a0 b0 c0 d0 none none none none (by omega) rfl (Nat.lt_succ_self _)
