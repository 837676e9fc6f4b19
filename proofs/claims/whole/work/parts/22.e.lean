def lX11_few_53 (k44 : (Int32) → (Int64) → (Int64) → (Int32) → (gS) → Option (Int64 × gS)) (fu : Nat) (v1 : Int32) : Nat → (Int32) → (Int64) → (Int64) → (Int32) → (Int32) → (gS) → Option (Int64 × gS)
  | 0, _, _, _, _, _, _ => none
  | j + 1, v2, v3, v5, v7, v8, S0 => (if ((1 : Int32) <<< (((iA S0 0) 0) &&& 31)) ≤ v8 then (k44 v2 v3 v5 (v7 + 1) S0) else ((fX11_bits fu v8).bind fun r68 => (if r68 = v7 then ((fX11_takeModel fu S0 v8).bind fun r82 => ((fX11_solve fu r82 (-1 : Int32)).bind fun r87 => (if r87.1 = true then ((fX11_sumLeft fu r87.2).bind fun r97 => (if v2 = 0 then ((lX11_few_53 k44 fu v1 j) v8 r97 (lF r87.2 25) v7 (v8 + 1) r87.2) else ((fX11_compare fu r97 (lF r87.2 25) v3 v5).bind fun r115 => (if 0 ≤ r115 then ((lX11_few_53 k44 fu v1 j) v2 v3 v5 v7 (v8 + 1) r87.2) else ((lX11_few_53 k44 fu v1 j) v8 r97 (lF r87.2 25) v7 (v8 + 1) r87.2))))) else ((lX11_few_53 k44 fu v1 j) v2 v3 v5 v7 (v8 + 1) r87.2)))) else ((lX11_few_53 k44 fu v1 j) v2 v3 v5 v7 (v8 + 1) S0))))
def lX11_few_44  (fu : Nat) (v1 : Int32) : Nat → (Int32) → (Int64) → (Int64) → (Int32) → (gS) → Option (Int64 × gS)
  | 0, _, _, _, _, _ => none
  | j + 1, v2, v3, v5, v7, S0 => (if v1 < v7 then (if v2 = 0 then ((some (sL S0 11 (((1 : Int64) <<< (((iA S0 0) 0).toInt64 &&& 63)) - (1 : Int64)))).bind fun S0x160 => ((fX11_tellFinding fu S0x160 (-9000000000000000006 : Int64)).bind fun r167 => (some (r167.1, r167.2)))) else ((fX11_takeModel fu S0 v2).bind fun r173 => ((fX11_solve fu r173 (-1 : Int32)).bind fun r178 => (if r178.1 = true then ((fX11_becomesFound fu r178.2 v2).bind fun r186 => (some ((v2.toInt64), r186))) else (some ((v2.toInt64), r178.2)))))) else (lX11_few_53 (lX11_few_44  fu v1 j) fu v1 fu v2 v3 v5 v7 (1 : Int32) S0))
def fX11_few (fu : Nat) (S0 : gS) (v1 : Int32) : Option (Int64 × gS) := ((fX11_in fu v1 (1 : Int32) (3 : Int32)).bind fun r3 => (if r3 = true then (if ((iA S0 0) 0) = 0 then ((fX11_tellFinding fu S0 (-9000000000000000002 : Int64)).bind fun r30 => (some (r30.1, r30.2))) else (lX11_few_44  fu v1 fu (0 : Int32) (0 : Int64) (1 : Int64) (1 : Int32) S0)) else ((fX11_tellFinding fu S0 (-9000000000000000001 : Int64)).bind fun r13 => (some (r13.1, r13.2)))))
set_option maxHeartbeats 4000000 in
set_option maxRecDepth 100000 in
theorem qX11_few {l : Launch} {E : gE} {a0 : Nat → Nat} {fu : Nat} {S0 : gS} {v1 : Int32} {r : Int64 × gS} (hf : fX11_few fu S0 v1 = some r) : CtrF l yX11_few cX11_few 11 (some .long) (gR 5 123) E [.ref (a0 0), .int v1] (wRf E a0 S0) (some (.long r.1)) (wRf E a0 r.2) := by
  refine ctr_of false (plainFor_of_name (by decide)) (Nat.le_of_ble_eq_true rfl) (fun q => by cases q) (fun Γ h => ?_)
  refine g_lv [some _, some _, _, _, _, _, _, _, _, _, _] rfl ?_
  rw [fX11_few] at hf
  have loop44 : ∀ (j44 : Nat) (v2 : Int32) (v3 : Int64) (v5 : Int64) (v7 : Int32) (S0 : gS) (o8 : Option Value) (o9 : Option Value) (o10 : Option Value), lX11_few_44  fu v1 j44 v2 v3 v5 v7 S0 = some r → Γ 0 0 44 [some (.ref (a0 0)), some (.int v1), some (.int v2), some (.long v3), none, some (.long v5), none, some (.int v7), o8, o9, o10] [] (wRf E a0 S0) := by
    intro j44
    induction j44 with
    | zero => intro v2 v3 v5 v7 S0 o8 o9 o10 hf; exact gno hf
    | succ j44 ih44 =>
      intro v2 v3 v5 v7 S0 o8 o9 o10 hf
      rw [lX11_few_44] at hf
      have loop53 : ∀ (j53 : Nat) (v2 : Int32) (v3 : Int64) (v5 : Int64) (v7 : Int32) (v8 : Int32) (S0 : gS) (o9 : Option Value) (o10 : Option Value), lX11_few_53 (lX11_few_44  fu v1 j44) fu v1 j53 v2 v3 v5 v7 v8 S0 = some r → Γ 0 0 53 [some (.ref (a0 0)), some (.int v1), some (.int v2), some (.long v3), none, some (.long v5), none, some (.int v7), some (.int v8), o9, o10] [] (wRf E a0 S0) := by
        intro j53
        induction j53 with
        | zero => intro v2 v3 v5 v7 v8 S0 o9 o10 hf; exact gno hf
        | succ j53 ih53 =>
          intro v2 v3 v5 v7 v8 S0 o9 o10 hf
          rw [lX11_few_53] at hf
          refine g_iload h dX11_few_53 rfl ?_
          refine g_iconst (v := 1) h dX11_few_55 (by decide) ?_
          refine g_aload_n h dX11_few_56 rfl ?_
          refine g_get h flX11_9 dX11_few_57 0 rfl rfl ?_
          refine g_iconst (v := 0) h dX11_few_60 (by decide) ?_
          refine g_iald h dX11_few_61 1 0 rfl rfl (by decide) (by decide) ?_
          refine g_ishl h dX11_few_62 ?_
          refine g_ic_ge h dX11_few_63 rfl (fun c63 => ?_) (fun c63 => ?_)
          · replace hf := ifp_t c63 hf
            refine g_iinc (v := (v7 + 1)) (lv' := [some _, some _, some _, some _, none, some _, none, some _, some _, _, _]) h dX11_few_139 rfl rfl (by decide) rfl ?_
            refine g_goto h dX11_few_142 rfl ?_
            exact ih44 _ _ _ _ _ _ _ _ hf
          · replace hf := ifp_f c63 hf
            refine g_iload h dX11_few_66 rfl ?_
            obtain ⟨r68, q68, hf⟩ := gbind hf
            refine g_cSr h (qX11_bits q68) mX11_bits lkX11_156 dX11_few_68 rfl rfl ⟨Nat.zero_le _, Nat.zero_le _⟩ ⟨by decide, by decide⟩ (Nat.le_of_ble_eq_true rfl) [] rfl rfl ?_
            refine g_iload h dX11_few_71 rfl ?_
            refine g_ic_eq h dX11_few_73 rfl (fun c73 => ?_) (fun c73 => ?_)
            · replace hf := ifp_t c73 hf
              refine g_aload_n h dX11_few_79 rfl ?_
              refine g_iload h dX11_few_80 rfl ?_
              obtain ⟨r82, q82, hf⟩ := gbind hf
              refine g_cVv (ws' := wRf E a0 r82) h (qX11_takeModel (a0 := a0) q82) mX11_takeModel lkX11_160 dX11_few_82 rfl rfl ⟨Nat.zero_le _, Nat.zero_le _⟩ ⟨by decide, by decide⟩ (Nat.le_of_ble_eq_true rfl) [0, 1, 2, 3, 4, 5, 6, 7, 8, 9, 10, 11, 12, 13, 14, 15] rfl rfl 0 rfl rfl mgX11_20 ?_
              refine g_aload_n h dX11_few_85 rfl ?_
              refine g_iconst (v := (-1)) h dX11_few_86 (by decide) ?_
              obtain ⟨r87, q87, hf⟩ := gbind hf
              refine g_cVw (ws' := wRf E a0 r87.2) h (qX11_solve (a0 := a0) q87) mX11_solve lkX11_164 dX11_few_87 rfl rfl ⟨Nat.zero_le _, Nat.zero_le _⟩ ⟨by decide, by decide⟩ (Nat.le_of_ble_eq_true rfl) [0, 1, 2, 3, 4, 5, 6, 7, 8, 9, 10, 11, 12, 13, 14, 15] rfl rfl 0 rfl rfl mgX11_20 ?_
              refine g_ifb_ne h dX11_few_90 rfl (fun c90 => ?_) (fun c90 => ?_)
              · replace hf := ifb_t c90 hf
                refine g_aload_n h dX11_few_96 rfl ?_
                obtain ⟨r97, q97, hf⟩ := gbind hf
                refine g_cVr h (qX11_sumLeft (a0 := a0) q97) mX11_sumLeft lkX11_149 dX11_few_97 rfl rfl ⟨Nat.zero_le _, Nat.zero_le _⟩ ⟨by decide, by decide⟩ (Nat.le_of_ble_eq_true rfl) [0, 1, 2, 3, 4, 5, 6, 7, 8, 9, 10, 11, 12, 13, 14, 15] rfl rfl 0 rfl rfl ?_
                refine g_lstore (lv' := [some _, some _, some _, some _, none, some _, none, some _, some _, some _, none]) h dX11_few_100 (by decide) rfl ?_
                refine g_iload_n h dX11_few_102 rfl ?_
                refine g_if_eq h dX11_few_103 rfl (fun c103 => ?_) (fun c103 => ?_)
                · replace hf := ifp_t c103 hf
                  refine g_iload h dX11_few_121 rfl ?_
                  refine g_istore_n (lv' := [some _, some _, some _, some _, none, some _, none, some _, some _, some _, none]) h dX11_few_123 (by decide) rfl ?_
                  refine g_lload h dX11_few_124 rfl ?_
                  refine g_lstore_n (lv' := [some _, some _, some _, some _, none, some _, none, some _, some _, some _, none]) h dX11_few_126 (by decide) rfl ?_
                  refine g_aload_n h dX11_few_127 rfl ?_
                  refine g_get h flX11_121 dX11_few_128 0 rfl rfl ?_
                  refine g_lstore (lv' := [some _, some _, some _, some _, none, some _, none, some _, some _, some _, none]) h dX11_few_131 (by decide) rfl ?_
                  refine g_iinc (v := (v8 + 1)) (lv' := [some _, some _, some _, some _, none, some _, none, some _, some _, some _, none]) h dX11_few_133 rfl rfl (by decide) rfl ?_
                  refine g_goto h dX11_few_136 rfl ?_
                  exact ih53 _ _ _ _ _ _ _ _ hf
                · replace hf := ifp_f c103 hf
                  refine g_lload h dX11_few_106 rfl ?_
                  refine g_aload_n h dX11_few_108 rfl ?_
                  refine g_get h flX11_121 dX11_few_109 0 rfl rfl ?_
                  refine g_lload_n h dX11_few_112 rfl ?_
                  refine g_lload h dX11_few_113 rfl ?_
                  obtain ⟨r115, q115, hf⟩ := gbind hf
                  refine g_cSr h (qX11_compare q115) mX11_compare lkX11_193 dX11_few_115 rfl rfl ⟨Nat.zero_le _, Nat.zero_le _⟩ ⟨by decide, by decide⟩ (Nat.le_of_ble_eq_true rfl) [] rfl rfl ?_
                  refine g_if_ge h dX11_few_118 rfl (fun c118 => ?_) (fun c118 => ?_)
                  · replace hf := ifp_t c118 hf
                    refine g_iinc (v := (v8 + 1)) (lv' := [some _, some _, some _, some _, none, some _, none, some _, some _, some _, none]) h dX11_few_133 rfl rfl (by decide) rfl ?_
                    refine g_goto h dX11_few_136 rfl ?_
                    exact ih53 _ _ _ _ _ _ _ _ hf
                  · replace hf := ifp_f c118 hf
                    refine g_iload h dX11_few_121 rfl ?_
                    refine g_istore_n (lv' := [some _, some _, some _, some _, none, some _, none, some _, some _, some _, none]) h dX11_few_123 (by decide) rfl ?_
                    refine g_lload h dX11_few_124 rfl ?_
                    refine g_lstore_n (lv' := [some _, some _, some _, some _, none, some _, none, some _, some _, some _, none]) h dX11_few_126 (by decide) rfl ?_
                    refine g_aload_n h dX11_few_127 rfl ?_
                    refine g_get h flX11_121 dX11_few_128 0 rfl rfl ?_
                    refine g_lstore (lv' := [some _, some _, some _, some _, none, some _, none, some _, some _, some _, none]) h dX11_few_131 (by decide) rfl ?_
                    refine g_iinc (v := (v8 + 1)) (lv' := [some _, some _, some _, some _, none, some _, none, some _, some _, some _, none]) h dX11_few_133 rfl rfl (by decide) rfl ?_
                    refine g_goto h dX11_few_136 rfl ?_
                    exact ih53 _ _ _ _ _ _ _ _ hf
              · replace hf := ifb_f c90 hf
                refine g_goto h dX11_few_93 rfl ?_
                refine g_iinc (v := (v8 + 1)) (lv' := [some _, some _, some _, some _, none, some _, none, some _, some _, _, _]) h dX11_few_133 rfl rfl (by decide) rfl ?_
                refine g_goto h dX11_few_136 rfl ?_
                exact ih53 _ _ _ _ _ _ _ _ hf
            · replace hf := ifp_f c73 hf
              refine g_goto h dX11_few_76 rfl ?_
              refine g_iinc (v := (v8 + 1)) (lv' := [some _, some _, some _, some _, none, some _, none, some _, some _, _, _]) h dX11_few_133 rfl rfl (by decide) rfl ?_
              refine g_goto h dX11_few_136 rfl ?_
              exact ih53 _ _ _ _ _ _ _ _ hf
      refine g_iload h dX11_few_44 rfl ?_
      refine g_iload_n h dX11_few_46 rfl ?_
      refine g_ic_gt h dX11_few_47 rfl (fun c47 => ?_) (fun c47 => ?_)
      · replace hf := ifp_t c47 hf
        refine g_iload_n h dX11_few_145 rfl ?_
        refine g_if_ne h dX11_few_146 rfl (fun c146 => ?_) (fun c146 => ?_)
        · replace hf := ifp_f c146 hf
          refine g_aload_n h dX11_few_171 rfl ?_
          refine g_iload_n h dX11_few_172 rfl ?_
          obtain ⟨r173, q173, hf⟩ := gbind hf
          refine g_cVv (ws' := wRf E a0 r173) h (qX11_takeModel (a0 := a0) q173) mX11_takeModel lkX11_160 dX11_few_173 rfl rfl ⟨Nat.zero_le _, Nat.zero_le _⟩ ⟨by decide, by decide⟩ (Nat.le_of_ble_eq_true rfl) [0, 1, 2, 3, 4, 5, 6, 7, 8, 9, 10, 11, 12, 13, 14, 15] rfl rfl 0 rfl rfl mgX11_20 ?_
          refine g_aload_n h dX11_few_176 rfl ?_
          refine g_iconst (v := (-1)) h dX11_few_177 (by decide) ?_
          obtain ⟨r178, q178, hf⟩ := gbind hf
          refine g_cVw (ws' := wRf E a0 r178.2) h (qX11_solve (a0 := a0) q178) mX11_solve lkX11_164 dX11_few_178 rfl rfl ⟨Nat.zero_le _, Nat.zero_le _⟩ ⟨by decide, by decide⟩ (Nat.le_of_ble_eq_true rfl) [0, 1, 2, 3, 4, 5, 6, 7, 8, 9, 10, 11, 12, 13, 14, 15] rfl rfl 0 rfl rfl mgX11_20 ?_
          refine g_ifb_eq h dX11_few_181 rfl (fun c181 => ?_) (fun c181 => ?_)
          · replace hf := ifb_f c181 hf
            refine g_iload_n h dX11_few_189 rfl ?_
            refine g_i2l h dX11_few_190 ?_
            have er := Option.some.inj hf
            subst er
            exact g_lreturn h dX11_few_191 rfl ⟨Nat.zero_le _, Nat.zero_le _, rfl, rfl, rfl⟩
          · replace hf := ifb_t c181 hf
            refine g_aload_n h dX11_few_184 rfl ?_
            refine g_iload_n h dX11_few_185 rfl ?_
            obtain ⟨r186, q186, hf⟩ := gbind hf
            refine g_cVv (ws' := wRf E a0 r186) h (qX11_becomesFound (a0 := a0) q186) mX11_becomesFound lkX11_167 dX11_few_186 rfl rfl ⟨Nat.zero_le _, Nat.zero_le _⟩ ⟨by decide, by decide⟩ (Nat.le_of_ble_eq_true rfl) [0, 1, 2, 3, 4, 5, 6, 7, 8, 9, 10, 11, 12, 13, 14, 15] rfl rfl 0 rfl rfl mgX11_20 ?_
            refine g_iload_n h dX11_few_189 rfl ?_
            refine g_i2l h dX11_few_190 ?_
            have er := Option.some.inj hf
            subst er
            exact g_lreturn h dX11_few_191 rfl ⟨Nat.zero_le _, Nat.zero_le _, rfl, rfl, rfl⟩
        · replace hf := ifp_t c146 hf
          refine g_aload_n h dX11_few_149 rfl ?_
          refine g_lconst (v := 1) h dX11_few_150 (by decide) ?_
          refine g_aload_n h dX11_few_151 rfl ?_
          refine g_get h flX11_9 dX11_few_152 0 rfl rfl ?_
          refine g_iconst (v := 0) h dX11_few_155 (by decide) ?_
          refine g_iald h dX11_few_156 1 0 rfl rfl (by decide) (by decide) ?_
          refine g_lshl h dX11_few_157 ?_
          refine g_lconst (v := 1) h dX11_few_158 (by decide) ?_
          refine g_lsub h dX11_few_159 ?_
          obtain ⟨S0x160, q160, hf⟩ := gbind hf
          refine g_put (ws' := wRf E a0 S0x160) (ty := .long) h flX11_170 gftX11 rfl (by decide +kernel) dX11_few_160 0 rfl rfl rfl (Nat.le_of_ble_eq_true rfl) (by cases q160; rfl) ?_
          refine g_aload_n h dX11_few_163 rfl ?_
          refine g_ldc2 (v := (-9000000000000000006)) h dX11_few_164 gcX11_176 ?_
          obtain ⟨r167, q167, hf⟩ := gbind hf
          refine g_cVw (ws' := wRf E a0 r167.2) h (qX11_tellFinding (a0 := a0) q167) mX11_tellFinding lkX11_64 dX11_few_167 rfl rfl ⟨Nat.zero_le _, Nat.zero_le _⟩ ⟨by decide, by decide⟩ (Nat.le_of_ble_eq_true rfl) [0, 1, 2, 3, 4, 5, 6, 7, 8, 9, 10, 11, 12, 13, 14, 15] rfl rfl 0 rfl rfl mgX11_20 ?_
          have er := Option.some.inj hf
          subst er
          exact g_lreturn h dX11_few_170 rfl ⟨Nat.zero_le _, Nat.zero_le _, rfl, rfl, rfl⟩
      · replace hf := ifp_f c47 hf
        refine g_iconst (v := 1) h dX11_few_50 (by decide) ?_
        refine g_istore (lv' := [some _, some _, some _, some _, none, some _, none, some _, some _, _, _]) h dX11_few_51 (by decide) rfl ?_
        exact loop53 _ _ _ _ _ _ _ _ _ hf
  refine g_iload_n h dX11_few_0 rfl ?_
  refine g_iconst (v := 1) h dX11_few_1 (by decide) ?_
  refine g_iconst (v := 3) h dX11_few_2 (by decide) ?_
  obtain ⟨r3, q3, hf⟩ := gbind hf
  refine g_cSr h (qX11_in q3) mX11_in lkX11_58 dX11_few_3 rfl rfl ⟨Nat.zero_le _, Nat.zero_le _⟩ ⟨by decide, by decide⟩ (Nat.le_of_ble_eq_true rfl) [] rfl rfl ?_
  refine g_ifb_ne h dX11_few_6 rfl (fun c6 => ?_) (fun c6 => ?_)
  · replace hf := ifb_t c6 hf
    refine g_aload_n h dX11_few_17 rfl ?_
    refine g_get h flX11_9 dX11_few_18 0 rfl rfl ?_
    refine g_iconst (v := 0) h dX11_few_21 (by decide) ?_
    refine g_iald h dX11_few_22 1 0 rfl rfl (by decide) (by decide) ?_
    refine g_if_ne h dX11_few_23 rfl (fun c23 => ?_) (fun c23 => ?_)
    · replace hf := ifp_f c23 hf
      refine g_iconst (v := 0) h dX11_few_34 (by decide) ?_
      refine g_istore_n (lv' := [some _, some _, some _, _, _, _, _, _, _, _, _]) h dX11_few_35 (by decide) rfl ?_
      refine g_lconst (v := 0) h dX11_few_36 (by decide) ?_
      refine g_lstore_n (lv' := [some _, some _, some _, some _, none, _, _, _, _, _, _]) h dX11_few_37 (by decide) rfl ?_
      refine g_lconst (v := 1) h dX11_few_38 (by decide) ?_
      refine g_lstore (lv' := [some _, some _, some _, some _, none, some _, none, _, _, _, _]) h dX11_few_39 (by decide) rfl ?_
      refine g_iconst (v := 1) h dX11_few_41 (by decide) ?_
      refine g_istore (lv' := [some _, some _, some _, some _, none, some _, none, some _, _, _, _]) h dX11_few_42 (by decide) rfl ?_
      exact loop44 _ _ _ _ _ _ _ _ _ hf
    · replace hf := ifp_t c23 hf
      refine g_aload_n h dX11_few_26 rfl ?_
      refine g_ldc2 (v := (-9000000000000000002)) h dX11_few_27 gcX11_96 ?_
      obtain ⟨r30, q30, hf⟩ := gbind hf
      refine g_cVw (ws' := wRf E a0 r30.2) h (qX11_tellFinding (a0 := a0) q30) mX11_tellFinding lkX11_64 dX11_few_30 rfl rfl ⟨Nat.zero_le _, Nat.zero_le _⟩ ⟨by decide, by decide⟩ (Nat.le_of_ble_eq_true rfl) [0, 1, 2, 3, 4, 5, 6, 7, 8, 9, 10, 11, 12, 13, 14, 15] rfl rfl 0 rfl rfl mgX11_20 ?_
      have er := Option.some.inj hf
      subst er
      exact g_lreturn h dX11_few_33 rfl ⟨Nat.zero_le _, Nat.zero_le _, rfl, rfl, rfl⟩
  · replace hf := ifb_f c6 hf
    refine g_aload_n h dX11_few_9 rfl ?_
    refine g_ldc2 (v := (-9000000000000000001)) h dX11_few_10 gcX11_62 ?_
    obtain ⟨r13, q13, hf⟩ := gbind hf
    refine g_cVw (ws' := wRf E a0 r13.2) h (qX11_tellFinding (a0 := a0) q13) mX11_tellFinding lkX11_64 dX11_few_13 rfl rfl ⟨Nat.zero_le _, Nat.zero_le _⟩ ⟨by decide, by decide⟩ (Nat.le_of_ble_eq_true rfl) [0, 1, 2, 3, 4, 5, 6, 7, 8, 9, 10, 11, 12, 13, 14, 15] rfl rfl 0 rfl rfl mgX11_20 ?_
    have er := Option.some.inj hf
    subst er
    exact g_lreturn h dX11_few_16 rfl ⟨Nat.zero_le _, Nat.zero_le _, rfl, rfl, rfl⟩
def jX11_doubt_107 (k55 : (Int32) → (Int64) → (Int64) → (Int32) → (gS) → Option (Int64 × gS)) (fu : Nat) (v1 : Int32) (v2 : Bool) (v3 : Bool) (v4 : Int32) (v5 : Int64) (v7 : Int64) (v9 : Int32) (s0 : Int32) (S0 : gS) : Option (Int64 × gS) := (if v7 = (0 : Int64) then ((gIx v4 4).bind fun k139 => (k55 v4 ((lA S0 24) k139) (lF S0 25) (v9 + 1) S0)) else (if v2 = true then (if s0 ≤ 0 then (k55 v4 v5 v7 (v9 + 1) S0) else ((gIx v4 4).bind fun k139 => (k55 v4 ((lA S0 24) k139) (lF S0 25) (v9 + 1) S0))) else (if 0 ≤ s0 then (k55 v4 v5 v7 (v9 + 1) S0) else ((gIx v4 4).bind fun k139 => (k55 v4 ((lA S0 24) k139) (lF S0 25) (v9 + 1) S0)))))
def lX11_doubt_55  (fu : Nat) (v1 : Int32) (v2 : Bool) (v3 : Bool) : Nat → (Int32) → (Int64) → (Int64) → (Int32) → (gS) → Option (Int64 × gS)
  | 0, _, _, _, _, _ => none
  | j + 1, v4, v5, v7, v9, S0 => (if ((iA S0 0) 1) ≤ v9 then (if v7 = (0 : Int64) then ((fX11_tellFinding fu S0 (-9000000000000000006 : Int64)).bind fun r165 => (some (r165.1, r165.2))) else ((fX11_part fu v5 v7 v3).bind fun r176 => (some (r176, S0)))) else ((fX11_solve fu S0 v9).bind fun r69 => (if r69.1 = true then (if v7 = (0 : Int64) then (jX11_doubt_107 (lX11_doubt_55  fu v1 v2 v3 j) fu v1 v2 v3 v4 v5 v7 v9 (0 : Int32) r69.2) else ((gIx v4 4).bind fun k95 => ((fX11_compare fu ((lA r69.2 24) k95) (lF r69.2 25) v5 v7).bind fun r104 => (jX11_doubt_107 (lX11_doubt_55  fu v1 v2 v3 j) fu v1 v2 v3 v4 v5 v7 v9 r104 r69.2)))) else ((lX11_doubt_55  fu v1 v2 v3 j) v4 v5 v7 (v9 + 1) r69.2))))
def fX11_doubt (fu : Nat) (S0 : gS) (v1 : Int32) (v2 : Bool) (v3 : Bool) : Option (Int64 × gS) := ((fX11_notFound fu S0).bind fun r1 => (if r1 = (0 : Int64) then ((fX11_placeOf fu S0 v1).bind fun r20 => (if 0 ≤ r20 then ((fX11_takeModel fu S0 (iF S0 14)).bind fun r43 => (lX11_doubt_55  fu v1 v2 v3 fu r20 (0 : Int64) (0 : Int64) (0 : Int32) r43)) else ((fX11_tellFinding fu S0 (-9000000000000000001 : Int64)).bind fun r34 => (some (r34.1, r34.2))))) else ((fX11_notFound fu S0).bind fun r11 => ((fX11_tellFinding fu S0 r11).bind fun r14 => (some (r14.1, r14.2))))))
set_option maxHeartbeats 4000000 in
set_option maxRecDepth 100000 in
theorem qX11_doubt {l : Launch} {E : gE} {a0 : Nat → Nat} {fu : Nat} {S0 : gS} {v1 : Int32} {v2 : Bool} {v3 : Bool} {r : Int64 × gS} (hf : fX11_doubt fu S0 v1 v2 v3 = some r) : CtrF l yX11_doubt cX11_doubt 11 (some .long) (gR 5 123) E [.ref (a0 0), .int v1, .int (bI v2), .int (bI v3)] (wRf E a0 S0) (some (.long r.1)) (wRf E a0 r.2) := by
  refine ctr_of false (plainFor_of_name (by decide)) (Nat.le_of_ble_eq_true rfl) (fun q => by cases q) (fun Γ h => ?_)
  refine g_lv [some _, some _, some _, some _, _, _, _, _, _, _, _] rfl ?_
  rw [fX11_doubt] at hf
  have loop55 : ∀ (j55 : Nat) (v4 : Int32) (v5 : Int64) (v7 : Int64) (v9 : Int32) (S0 : gS) (o10 : Option Value), lX11_doubt_55  fu v1 v2 v3 j55 v4 v5 v7 v9 S0 = some r → Γ 0 0 55 [some (.ref (a0 0)), some (.int v1), some (.int (bI v2)), some (.int (bI v3)), some (.int v4), some (.long v5), none, some (.long v7), none, some (.int v9), o10] [] (wRf E a0 S0) := by
    intro j55
    induction j55 with
    | zero => intro v4 v5 v7 v9 S0 o10 hf; exact gno hf
    | succ j55 ih55 =>
      intro v4 v5 v7 v9 S0 o10 hf
      rw [lX11_doubt_55] at hf
      have jn107 : ∀ (v4 : Int32) (v5 : Int64) (v7 : Int64) (v9 : Int32) (s0 : Int32) (S0 : gS) (o10 : Option Value), jX11_doubt_107 (lX11_doubt_55  fu v1 v2 v3 j55) fu v1 v2 v3 v4 v5 v7 v9 s0 S0 = some r → Γ 0 0 107 [some (.ref (a0 0)), some (.int v1), some (.int (bI v2)), some (.int (bI v3)), some (.int v4), some (.long v5), none, some (.long v7), none, some (.int v9), o10] [.int s0] (wRf E a0 S0) := by
        intro v4 v5 v7 v9 s0 S0 o10 hf
        rw [jX11_doubt_107] at hf
        refine g_istore (lv' := [some _, some _, some _, some _, some _, some _, none, some _, none, some _, some _]) h dX11_doubt_107 (by decide) rfl ?_
        refine g_lload h dX11_doubt_109 rfl ?_
        refine g_lconst (v := 0) h dX11_doubt_111 (by decide) ?_
        refine g_lcmp h dX11_doubt_112 ?_
        refine g_lif_eq h dX11_doubt_113 rfl (fun c113 => ?_) (fun c113 => ?_)
        · replace hf := ifp_t c113 hf
          refine g_aload_n h dX11_doubt_133 rfl ?_
          refine g_get h flX11_50 dX11_doubt_134 0 rfl rfl ?_
          refine g_iload h dX11_doubt_137 rfl ?_
          obtain ⟨k139, q139, hf⟩ := gbind hf
          have e139 := (gIx_s q139).1
          have b139 := (gIx_s q139).2
          refine g_lald h dX11_doubt_139 14 k139 rfl e139 b139 (by decide) ?_
          refine g_lstore (lv' := [some _, some _, some _, some _, some _, some _, none, some _, none, some _, some _]) h dX11_doubt_140 (by decide) rfl ?_
          refine g_aload_n h dX11_doubt_142 rfl ?_
          refine g_get h flX11_121 dX11_doubt_143 0 rfl rfl ?_
          refine g_lstore (lv' := [some _, some _, some _, some _, some _, some _, none, some _, none, some _, some _]) h dX11_doubt_146 (by decide) rfl ?_
          refine g_iinc (v := (v9 + 1)) (lv' := [some _, some _, some _, some _, some _, some _, none, some _, none, some _, some _]) h dX11_doubt_148 rfl rfl (by decide) rfl ?_
          refine g_goto h dX11_doubt_151 rfl ?_
          exact ih55 _ _ _ _ _ _ hf
        · replace hf := ifp_f c113 hf
          refine g_iload_n h dX11_doubt_116 rfl ?_
          refine g_ifb_eq h dX11_doubt_117 rfl (fun c117 => ?_) (fun c117 => ?_)
          · replace hf := ifb_f c117 hf
            refine g_iload h dX11_doubt_128 rfl ?_
            refine g_if_ge h dX11_doubt_130 rfl (fun c130 => ?_) (fun c130 => ?_)
            · replace hf := ifp_t c130 hf
              refine g_iinc (v := (v9 + 1)) (lv' := [some _, some _, some _, some _, some _, some _, none, some _, none, some _, some _]) h dX11_doubt_148 rfl rfl (by decide) rfl ?_
              refine g_goto h dX11_doubt_151 rfl ?_
              exact ih55 _ _ _ _ _ _ hf
            · replace hf := ifp_f c130 hf
              refine g_aload_n h dX11_doubt_133 rfl ?_
              refine g_get h flX11_50 dX11_doubt_134 0 rfl rfl ?_
              refine g_iload h dX11_doubt_137 rfl ?_
              obtain ⟨k139, q139, hf⟩ := gbind hf
              have e139 := (gIx_s q139).1
              have b139 := (gIx_s q139).2
              refine g_lald h dX11_doubt_139 14 k139 rfl e139 b139 (by decide) ?_
              refine g_lstore (lv' := [some _, some _, some _, some _, some _, some _, none, some _, none, some _, some _]) h dX11_doubt_140 (by decide) rfl ?_
              refine g_aload_n h dX11_doubt_142 rfl ?_
              refine g_get h flX11_121 dX11_doubt_143 0 rfl rfl ?_
              refine g_lstore (lv' := [some _, some _, some _, some _, some _, some _, none, some _, none, some _, some _]) h dX11_doubt_146 (by decide) rfl ?_
              refine g_iinc (v := (v9 + 1)) (lv' := [some _, some _, some _, some _, some _, some _, none, some _, none, some _, some _]) h dX11_doubt_148 rfl rfl (by decide) rfl ?_
              refine g_goto h dX11_doubt_151 rfl ?_
              exact ih55 _ _ _ _ _ _ hf
          · replace hf := ifb_t c117 hf
            refine g_iload h dX11_doubt_120 rfl ?_
            refine g_if_le h dX11_doubt_122 rfl (fun c122 => ?_) (fun c122 => ?_)
            · replace hf := ifp_t c122 hf
              refine g_iinc (v := (v9 + 1)) (lv' := [some _, some _, some _, some _, some _, some _, none, some _, none, some _, some _]) h dX11_doubt_148 rfl rfl (by decide) rfl ?_
              refine g_goto h dX11_doubt_151 rfl ?_
              exact ih55 _ _ _ _ _ _ hf
            · replace hf := ifp_f c122 hf
              refine g_goto h dX11_doubt_125 rfl ?_
              refine g_aload_n h dX11_doubt_133 rfl ?_
              refine g_get h flX11_50 dX11_doubt_134 0 rfl rfl ?_
              refine g_iload h dX11_doubt_137 rfl ?_
              obtain ⟨k139, q139, hf⟩ := gbind hf
              have e139 := (gIx_s q139).1
              have b139 := (gIx_s q139).2
              refine g_lald h dX11_doubt_139 14 k139 rfl e139 b139 (by decide) ?_
              refine g_lstore (lv' := [some _, some _, some _, some _, some _, some _, none, some _, none, some _, some _]) h dX11_doubt_140 (by decide) rfl ?_
              refine g_aload_n h dX11_doubt_142 rfl ?_
              refine g_get h flX11_121 dX11_doubt_143 0 rfl rfl ?_
              refine g_lstore (lv' := [some _, some _, some _, some _, some _, some _, none, some _, none, some _, some _]) h dX11_doubt_146 (by decide) rfl ?_
              refine g_iinc (v := (v9 + 1)) (lv' := [some _, some _, some _, some _, some _, some _, none, some _, none, some _, some _]) h dX11_doubt_148 rfl rfl (by decide) rfl ?_
              refine g_goto h dX11_doubt_151 rfl ?_
              exact ih55 _ _ _ _ _ _ hf
      refine g_iload h dX11_doubt_55 rfl ?_
      refine g_aload_n h dX11_doubt_57 rfl ?_
      refine g_get h flX11_9 dX11_doubt_58 0 rfl rfl ?_
      refine g_iconst (v := 1) h dX11_doubt_61 (by decide) ?_
      refine g_iald h dX11_doubt_62 1 1 rfl rfl (by decide) (by decide) ?_
      refine g_ic_ge h dX11_doubt_63 rfl (fun c63 => ?_) (fun c63 => ?_)
      · replace hf := ifp_t c63 hf
        refine g_lload h dX11_doubt_154 rfl ?_
        refine g_lconst (v := 0) h dX11_doubt_156 (by decide) ?_
        refine g_lcmp h dX11_doubt_157 ?_
        refine g_lif_ne h dX11_doubt_158 rfl (fun c158 => ?_) (fun c158 => ?_)
        · replace hf := ifp_f c158 hf
          refine g_lload h dX11_doubt_171 rfl ?_
          refine g_lload h dX11_doubt_173 rfl ?_
          refine g_iload_n h dX11_doubt_175 rfl ?_
          obtain ⟨r176, q176, hf⟩ := gbind hf
          refine g_cSr h (qX11_part q176) mX11_part lkX11_186 dX11_doubt_176 rfl rfl ⟨Nat.zero_le _, Nat.zero_le _⟩ ⟨by decide, by decide⟩ (Nat.le_of_ble_eq_true rfl) [] rfl rfl ?_
          have er := Option.some.inj hf
          subst er
          exact g_lreturn h dX11_doubt_179 rfl ⟨Nat.zero_le _, Nat.zero_le _, rfl, rfl, rfl⟩
        · replace hf := ifp_t c158 hf
          refine g_aload_n h dX11_doubt_161 rfl ?_
          refine g_ldc2 (v := (-9000000000000000006)) h dX11_doubt_162 gcX11_176 ?_
          obtain ⟨r165, q165, hf⟩ := gbind hf
          refine g_cVw (ws' := wRf E a0 r165.2) h (qX11_tellFinding (a0 := a0) q165) mX11_tellFinding lkX11_64 dX11_doubt_165 rfl rfl ⟨Nat.zero_le _, Nat.zero_le _⟩ ⟨by decide, by decide⟩ (Nat.le_of_ble_eq_true rfl) [0, 1, 2, 3, 4, 5, 6, 7, 8, 9, 10, 11, 12, 13, 14, 15] rfl rfl 0 rfl rfl mgX11_20 ?_
          refine g_goto h dX11_doubt_168 rfl ?_
          have er := Option.some.inj hf
          subst er
          exact g_lreturn h dX11_doubt_179 rfl ⟨Nat.zero_le _, Nat.zero_le _, rfl, rfl, rfl⟩
      · replace hf := ifp_f c63 hf
        refine g_aload_n h dX11_doubt_66 rfl ?_
        refine g_iload h dX11_doubt_67 rfl ?_
        obtain ⟨r69, q69, hf⟩ := gbind hf
        refine g_cVw (ws' := wRf E a0 r69.2) h (qX11_solve (a0 := a0) q69) mX11_solve lkX11_164 dX11_doubt_69 rfl rfl ⟨Nat.zero_le _, Nat.zero_le _⟩ ⟨by decide, by decide⟩ (Nat.le_of_ble_eq_true rfl) [0, 1, 2, 3, 4, 5, 6, 7, 8, 9, 10, 11, 12, 13, 14, 15] rfl rfl 0 rfl rfl mgX11_20 ?_
        refine g_ifb_ne h dX11_doubt_72 rfl (fun c72 => ?_) (fun c72 => ?_)
        · replace hf := ifb_t c72 hf
          refine g_lload h dX11_doubt_78 rfl ?_
          refine g_lconst (v := 0) h dX11_doubt_80 (by decide) ?_
          refine g_lcmp h dX11_doubt_81 ?_
          refine g_lif_ne h dX11_doubt_82 rfl (fun c82 => ?_) (fun c82 => ?_)
          · replace hf := ifp_f c82 hf
            refine g_aload_n h dX11_doubt_89 rfl ?_
            refine g_get h flX11_50 dX11_doubt_90 0 rfl rfl ?_
            refine g_iload h dX11_doubt_93 rfl ?_
            obtain ⟨k95, q95, hf⟩ := gbind hf
            have e95 := (gIx_s q95).1
            have b95 := (gIx_s q95).2
            refine g_lald h dX11_doubt_95 14 k95 rfl e95 b95 (by decide) ?_
            refine g_aload_n h dX11_doubt_96 rfl ?_
            refine g_get h flX11_121 dX11_doubt_97 0 rfl rfl ?_
            refine g_lload h dX11_doubt_100 rfl ?_
            refine g_lload h dX11_doubt_102 rfl ?_
            obtain ⟨r104, q104, hf⟩ := gbind hf
            refine g_cSr h (qX11_compare q104) mX11_compare lkX11_193 dX11_doubt_104 rfl rfl ⟨Nat.zero_le _, Nat.zero_le _⟩ ⟨by decide, by decide⟩ (Nat.le_of_ble_eq_true rfl) [] rfl rfl ?_
            exact jn107 _ _ _ _ _ _ _ hf
          · replace hf := ifp_t c82 hf
            refine g_iconst (v := 0) h dX11_doubt_85 (by decide) ?_
            refine g_goto h dX11_doubt_86 rfl ?_
            exact jn107 _ _ _ _ _ _ _ hf
        · replace hf := ifb_f c72 hf
          refine g_goto h dX11_doubt_75 rfl ?_
          refine g_iinc (v := (v9 + 1)) (lv' := [some _, some _, some _, some _, some _, some _, none, some _, none, some _, _]) h dX11_doubt_148 rfl rfl (by decide) rfl ?_
          refine g_goto h dX11_doubt_151 rfl ?_
          exact ih55 _ _ _ _ _ _ hf
  refine g_aload_n h dX11_doubt_0 rfl ?_
  obtain ⟨r1, q1, hf⟩ := gbind hf
  refine g_cVr h (qX11_notFound (a0 := a0) q1) mX11_notFound lkX11_180 dX11_doubt_1 rfl rfl ⟨Nat.zero_le _, Nat.zero_le _⟩ ⟨by decide, by decide⟩ (Nat.le_of_ble_eq_true rfl) [0, 1, 2, 3, 4, 5, 6, 7, 8, 9, 10, 11, 12, 13, 14, 15] rfl rfl 0 rfl rfl ?_
  refine g_lconst (v := 0) h dX11_doubt_4 (by decide) ?_
  refine g_lcmp h dX11_doubt_5 ?_
  refine g_lif_eq h dX11_doubt_6 rfl (fun c6 => ?_) (fun c6 => ?_)
  · replace hf := ifp_t c6 hf
    refine g_aload_n h dX11_doubt_18 rfl ?_
    refine g_iload_n h dX11_doubt_19 rfl ?_
    obtain ⟨r20, q20, hf⟩ := gbind hf
    refine g_cVr h (qX11_placeOf (a0 := a0) q20) mX11_placeOf lkX11_183 dX11_doubt_20 rfl rfl ⟨Nat.zero_le _, Nat.zero_le _⟩ ⟨by decide, by decide⟩ (Nat.le_of_ble_eq_true rfl) [0, 1, 2, 3, 4, 5, 6, 7, 8, 9, 10, 11, 12, 13, 14, 15] rfl rfl 0 rfl rfl ?_
    refine g_istore (lv' := [some _, some _, some _, some _, some _, _, _, _, _, _, _]) h dX11_doubt_23 (by decide) rfl ?_
    refine g_iload h dX11_doubt_25 rfl ?_
    refine g_if_ge h dX11_doubt_27 rfl (fun c27 => ?_) (fun c27 => ?_)
    · replace hf := ifp_t c27 hf
      refine g_aload_n h dX11_doubt_38 rfl ?_
      refine g_aload_n h dX11_doubt_39 rfl ?_
      refine g_get h flX11_140 dX11_doubt_40 0 rfl rfl ?_
      obtain ⟨r43, q43, hf⟩ := gbind hf
      refine g_cVv (ws' := wRf E a0 r43) h (qX11_takeModel (a0 := a0) q43) mX11_takeModel lkX11_160 dX11_doubt_43 rfl rfl ⟨Nat.zero_le _, Nat.zero_le _⟩ ⟨by decide, by decide⟩ (Nat.le_of_ble_eq_true rfl) [0, 1, 2, 3, 4, 5, 6, 7, 8, 9, 10, 11, 12, 13, 14, 15] rfl rfl 0 rfl rfl mgX11_20 ?_
      refine g_lconst (v := 0) h dX11_doubt_46 (by decide) ?_
      refine g_lstore (lv' := [some _, some _, some _, some _, some _, some _, none, _, _, _, _]) h dX11_doubt_47 (by decide) rfl ?_
      refine g_lconst (v := 0) h dX11_doubt_49 (by decide) ?_
      refine g_lstore (lv' := [some _, some _, some _, some _, some _, some _, none, some _, none, _, _]) h dX11_doubt_50 (by decide) rfl ?_
      refine g_iconst (v := 0) h dX11_doubt_52 (by decide) ?_
      refine g_istore (lv' := [some _, some _, some _, some _, some _, some _, none, some _, none, some _, _]) h dX11_doubt_53 (by decide) rfl ?_
      exact loop55 _ _ _ _ _ _ _ hf
    · replace hf := ifp_f c27 hf
      refine g_aload_n h dX11_doubt_30 rfl ?_
      refine g_ldc2 (v := (-9000000000000000001)) h dX11_doubt_31 gcX11_62 ?_
      obtain ⟨r34, q34, hf⟩ := gbind hf
      refine g_cVw (ws' := wRf E a0 r34.2) h (qX11_tellFinding (a0 := a0) q34) mX11_tellFinding lkX11_64 dX11_doubt_34 rfl rfl ⟨Nat.zero_le _, Nat.zero_le _⟩ ⟨by decide, by decide⟩ (Nat.le_of_ble_eq_true rfl) [0, 1, 2, 3, 4, 5, 6, 7, 8, 9, 10, 11, 12, 13, 14, 15] rfl rfl 0 rfl rfl mgX11_20 ?_
      have er := Option.some.inj hf
      subst er
      exact g_lreturn h dX11_doubt_37 rfl ⟨Nat.zero_le _, Nat.zero_le _, rfl, rfl, rfl⟩
  · replace hf := ifp_f c6 hf
    refine g_aload_n h dX11_doubt_9 rfl ?_
    refine g_aload_n h dX11_doubt_10 rfl ?_
    obtain ⟨r11, q11, hf⟩ := gbind hf
    refine g_cVr h (qX11_notFound (a0 := a0) q11) mX11_notFound lkX11_180 dX11_doubt_11 rfl rfl ⟨Nat.zero_le _, Nat.zero_le _⟩ ⟨by decide, by decide⟩ (Nat.le_of_ble_eq_true rfl) [0, 1, 2, 3, 4, 5, 6, 7, 8, 9, 10, 11, 12, 13, 14, 15] rfl rfl 0 rfl rfl ?_
    obtain ⟨r14, q14, hf⟩ := gbind hf
    refine g_cVw (ws' := wRf E a0 r14.2) h (qX11_tellFinding (a0 := a0) q14) mX11_tellFinding lkX11_64 dX11_doubt_14 rfl rfl ⟨Nat.zero_le _, Nat.zero_le _⟩ ⟨by decide, by decide⟩ (Nat.le_of_ble_eq_true rfl) [0, 1, 2, 3, 4, 5, 6, 7, 8, 9, 10, 11, 12, 13, 14, 15] rfl rfl 0 rfl rfl mgX11_20 ?_
    have er := Option.some.inj hf
    subst er
    exact g_lreturn h dX11_doubt_17 rfl ⟨Nat.zero_le _, Nat.zero_le _, rfl, rfl, rfl⟩
def lX11_spare_30  (fu : Nat)  : Nat → (Int32) → (Int32) → (gS) → Option (Int64 × gS)
  | 0, _, _, _ => none
  | j + 1, v1, v2, S0 => (if ((iA S0 0) 1) ≤ v2 then (some ((v1.toInt64), S0)) else ((fX11_solve fu S0 v2).bind fun r43 => (if r43.1 = true then ((lX11_spare_30  fu  j) (v1 + (1 : Int32)) (v2 + 1) r43.2) else ((lX11_spare_30  fu  j) (v1 + (0 : Int32)) (v2 + 1) r43.2))))
def fX11_spare (fu : Nat) (S0 : gS)  : Option (Int64 × gS) := ((fX11_notFound fu S0).bind fun r1 => (if r1 = (0 : Int64) then ((fX11_takeModel fu S0 (iF S0 14)).bind fun r23 => (lX11_spare_30  fu  fu (0 : Int32) (0 : Int32) r23)) else ((fX11_notFound fu S0).bind fun r11 => ((fX11_tellFinding fu S0 r11).bind fun r14 => (some (r14.1, r14.2))))))
set_option maxHeartbeats 4000000 in
set_option maxRecDepth 100000 in
theorem qX11_spare {l : Launch} {E : gE} {a0 : Nat → Nat} {fu : Nat} {S0 : gS}  {r : Int64 × gS} (hf : fX11_spare fu S0  = some r) : CtrF l yX11_spare cX11_spare 3 (some .long) (gR 5 123) E [.ref (a0 0)] (wRf E a0 S0) (some (.long r.1)) (wRf E a0 r.2) := by
  refine ctr_of false (plainFor_of_name (by decide)) (Nat.le_of_ble_eq_true rfl) (fun q => by cases q) (fun Γ h => ?_)
  refine g_lv [some _, _, _] rfl ?_
  rw [fX11_spare] at hf
  have loop30 : ∀ (j30 : Nat) (v1 : Int32) (v2 : Int32) (S0 : gS) , lX11_spare_30  fu  j30 v1 v2 S0 = some r → Γ 0 0 30 [some (.ref (a0 0)), some (.int v1), some (.int v2)] [] (wRf E a0 S0) := by
    intro j30
    induction j30 with
    | zero => intro v1 v2 S0 hf; exact gno hf
    | succ j30 ih30 =>
      intro v1 v2 S0 hf
      rw [lX11_spare_30] at hf
      refine g_iload_n h dX11_spare_30 rfl ?_
      refine g_aload_n h dX11_spare_31 rfl ?_
      refine g_get h flX11_9 dX11_spare_32 0 rfl rfl ?_
      refine g_iconst (v := 1) h dX11_spare_35 (by decide) ?_
      refine g_iald h dX11_spare_36 1 1 rfl rfl (by decide) (by decide) ?_
      refine g_ic_ge h dX11_spare_37 rfl (fun c37 => ?_) (fun c37 => ?_)
      · replace hf := ifp_t c37 hf
        refine g_iload_n h dX11_spare_62 rfl ?_
        refine g_i2l h dX11_spare_63 ?_
        have er := Option.some.inj hf
        subst er
        exact g_lreturn h dX11_spare_64 rfl ⟨Nat.zero_le _, Nat.zero_le _, rfl, rfl, rfl⟩
      · replace hf := ifp_f c37 hf
        refine g_iload_n h dX11_spare_40 rfl ?_
        refine g_aload_n h dX11_spare_41 rfl ?_
        refine g_iload_n h dX11_spare_42 rfl ?_
        obtain ⟨r43, q43, hf⟩ := gbind hf
        refine g_cVw (ws' := wRf E a0 r43.2) h (qX11_solve (a0 := a0) q43) mX11_solve lkX11_164 dX11_spare_43 rfl rfl ⟨Nat.zero_le _, Nat.zero_le _⟩ ⟨by decide, by decide⟩ (Nat.le_of_ble_eq_true rfl) [0, 1, 2, 3, 4, 5, 6, 7, 8, 9, 10, 11, 12, 13, 14, 15] rfl rfl 0 rfl rfl mgX11_20 ?_
        refine g_ifb_eq h dX11_spare_46 rfl (fun c46 => ?_) (fun c46 => ?_)
        · replace hf := ifb_f c46 hf
          refine g_iconst (v := 0) h dX11_spare_53 (by decide) ?_
          refine g_iadd h dX11_spare_54 ?_
          refine g_istore_n (lv' := [some _, some _, some _]) h dX11_spare_55 (by decide) rfl ?_
          refine g_iinc (v := (v2 + 1)) (lv' := [some _, some _, some _]) h dX11_spare_56 rfl rfl (by decide) rfl ?_
          refine g_goto h dX11_spare_59 rfl ?_
          exact ih30 _ _ _ hf
        · replace hf := ifb_t c46 hf
          refine g_iconst (v := 1) h dX11_spare_49 (by decide) ?_
          refine g_goto h dX11_spare_50 rfl ?_
          refine g_iadd h dX11_spare_54 ?_
          refine g_istore_n (lv' := [some _, some _, some _]) h dX11_spare_55 (by decide) rfl ?_
          refine g_iinc (v := (v2 + 1)) (lv' := [some _, some _, some _]) h dX11_spare_56 rfl rfl (by decide) rfl ?_
          refine g_goto h dX11_spare_59 rfl ?_
          exact ih30 _ _ _ hf
  refine g_aload_n h dX11_spare_0 rfl ?_
  obtain ⟨r1, q1, hf⟩ := gbind hf
  refine g_cVr h (qX11_notFound (a0 := a0) q1) mX11_notFound lkX11_180 dX11_spare_1 rfl rfl ⟨Nat.zero_le _, Nat.zero_le _⟩ ⟨by decide, by decide⟩ (Nat.le_of_ble_eq_true rfl) [0, 1, 2, 3, 4, 5, 6, 7, 8, 9, 10, 11, 12, 13, 14, 15] rfl rfl 0 rfl rfl ?_
  refine g_lconst (v := 0) h dX11_spare_4 (by decide) ?_
  refine g_lcmp h dX11_spare_5 ?_
  refine g_lif_eq h dX11_spare_6 rfl (fun c6 => ?_) (fun c6 => ?_)
  · replace hf := ifp_t c6 hf
    refine g_aload_n h dX11_spare_18 rfl ?_
    refine g_aload_n h dX11_spare_19 rfl ?_
    refine g_get h flX11_140 dX11_spare_20 0 rfl rfl ?_
    obtain ⟨r23, q23, hf⟩ := gbind hf
    refine g_cVv (ws' := wRf E a0 r23) h (qX11_takeModel (a0 := a0) q23) mX11_takeModel lkX11_160 dX11_spare_23 rfl rfl ⟨Nat.zero_le _, Nat.zero_le _⟩ ⟨by decide, by decide⟩ (Nat.le_of_ble_eq_true rfl) [0, 1, 2, 3, 4, 5, 6, 7, 8, 9, 10, 11, 12, 13, 14, 15] rfl rfl 0 rfl rfl mgX11_20 ?_
    refine g_iconst (v := 0) h dX11_spare_26 (by decide) ?_
    refine g_istore_n (lv' := [some _, some _, _]) h dX11_spare_27 (by decide) rfl ?_
    refine g_iconst (v := 0) h dX11_spare_28 (by decide) ?_
    refine g_istore_n (lv' := [some _, some _, some _]) h dX11_spare_29 (by decide) rfl ?_
    exact loop30 _ _ _ _  hf
  · replace hf := ifp_f c6 hf
    refine g_aload_n h dX11_spare_9 rfl ?_
    refine g_aload_n h dX11_spare_10 rfl ?_
    obtain ⟨r11, q11, hf⟩ := gbind hf
    refine g_cVr h (qX11_notFound (a0 := a0) q11) mX11_notFound lkX11_180 dX11_spare_11 rfl rfl ⟨Nat.zero_le _, Nat.zero_le _⟩ ⟨by decide, by decide⟩ (Nat.le_of_ble_eq_true rfl) [0, 1, 2, 3, 4, 5, 6, 7, 8, 9, 10, 11, 12, 13, 14, 15] rfl rfl 0 rfl rfl ?_
    obtain ⟨r14, q14, hf⟩ := gbind hf
    refine g_cVw (ws' := wRf E a0 r14.2) h (qX11_tellFinding (a0 := a0) q14) mX11_tellFinding lkX11_64 dX11_spare_14 rfl rfl ⟨Nat.zero_le _, Nat.zero_le _⟩ ⟨by decide, by decide⟩ (Nat.le_of_ble_eq_true rfl) [0, 1, 2, 3, 4, 5, 6, 7, 8, 9, 10, 11, 12, 13, 14, 15] rfl rfl 0 rfl rfl mgX11_20 ?_
    have er := Option.some.inj hf
    subst er
    exact g_lreturn h dX11_spare_17 rfl ⟨Nat.zero_le _, Nat.zero_le _, rfl, rfl, rfl⟩
def fX11_mend (fu : Nat) (S0 : gS) (v1 : Int32) (v2 : Int32) : Option (Int64 × gS) := ((fX11_isCause fu S0 v1).bind fun r2 => (if r2 = true then ((fX11_in fu v2 (-200 : Int32) (200 : Int32)).bind fun r15 => (if r15 = true then (if ((iA S0 0) 2) = (8 : Int32) then ((fX11_tellFinding fu S0 (-9000000000000000005 : Int64)).bind fun r46 => (some (r46.1, r46.2))) else ((gIx ((72 : Int32) + ((iA S0 0) 2)) 160).bind fun k59 => ((some (sAu S0 0 k59 v1)).bind fun S0x59 => ((gIx ((80 : Int32) + ((iA S0 0) 2)) 160).bind fun k69 => ((some (sAu S0x59 0 k69 v2)).bind fun S0x69 => ((some (sAu S0x69 0 2 (((iA S0x69 0) 2) + (1 : Int32)))).bind fun S0x79 => (some ((((iA S0 0) 2).toInt64), S0x79)))))))) else ((fX11_tellFinding fu S0 (-9000000000000000001 : Int64)).bind fun r25 => (some (r25.1, r25.2))))) else ((fX11_tellFinding fu S0 (-9000000000000000001 : Int64)).bind fun r25 => (some (r25.1, r25.2)))))
set_option maxHeartbeats 4000000 in
set_option maxRecDepth 100000 in
theorem qX11_mend {l : Launch} {E : gE} {a0 : Nat → Nat} {fu : Nat} {S0 : gS} {v1 : Int32} {v2 : Int32} {r : Int64 × gS} (hf : fX11_mend fu S0 v1 v2 = some r) : CtrF l yX11_mend cX11_mend 4 (some .long) (gR 2 43) E [.ref (a0 0), .int v1, .int v2] (wRf E a0 S0) (some (.long r.1)) (wRf E a0 r.2) := by
  refine ctr_of false (plainFor_of_name (by decide)) (Nat.le_of_ble_eq_true rfl) (fun q => by cases q) (fun Γ h => ?_)
  refine g_lv [some _, some _, some _, _] rfl ?_
  rw [fX11_mend] at hf
  refine g_aload_n h dX11_mend_0 rfl ?_
  refine g_iload_n h dX11_mend_1 rfl ?_
  obtain ⟨r2, q2, hf⟩ := gbind hf
  refine g_cVr h (qX11_isCause (a0 := a0) q2) mX11_isCause lkX11_74 dX11_mend_2 rfl rfl ⟨Nat.zero_le _, Nat.zero_le _⟩ ⟨by decide, by decide⟩ (Nat.le_of_ble_eq_true rfl) [0, 1, 2, 3, 4, 5, 6, 7, 8, 9, 10, 11, 12, 13, 14, 15] rfl rfl 0 rfl rfl ?_
  refine g_ifb_eq h dX11_mend_5 rfl (fun c5 => ?_) (fun c5 => ?_)
  · replace hf := ifb_f c5 hf
    refine g_aload_n h dX11_mend_21 rfl ?_
    refine g_ldc2 (v := (-9000000000000000001)) h dX11_mend_22 gcX11_62 ?_
    obtain ⟨r25, q25, hf⟩ := gbind hf
    refine g_cVw (ws' := wRf E a0 r25.2) h (qX11_tellFinding (a0 := a0) q25) mX11_tellFinding lkX11_64 dX11_mend_25 rfl rfl ⟨Nat.zero_le _, Nat.zero_le _⟩ ⟨by decide, by decide⟩ (Nat.le_of_ble_eq_true rfl) [0, 1, 2, 3, 4, 5, 6, 7, 8, 9, 10, 11, 12, 13, 14, 15] rfl rfl 0 rfl rfl mgX11_20 ?_
    have er := Option.some.inj hf
    subst er
    exact g_lreturn h dX11_mend_28 rfl ⟨Nat.zero_le _, Nat.zero_le _, rfl, rfl, rfl⟩
  · replace hf := ifb_t c5 hf
    refine g_iload_n h dX11_mend_8 rfl ?_
    refine g_sipush (v := (-200)) h dX11_mend_9 (by decide) ?_
    refine g_sipush (v := 200) h dX11_mend_12 (by decide) ?_
    obtain ⟨r15, q15, hf⟩ := gbind hf
    refine g_cSr h (qX11_in q15) mX11_in lkX11_58 dX11_mend_15 rfl rfl ⟨Nat.zero_le _, Nat.zero_le _⟩ ⟨by decide, by decide⟩ (Nat.le_of_ble_eq_true rfl) [] rfl rfl ?_
    refine g_ifb_ne h dX11_mend_18 rfl (fun c18 => ?_) (fun c18 => ?_)
    · replace hf := ifb_t c18 hf
      refine g_aload_n h dX11_mend_29 rfl ?_
      refine g_get h flX11_9 dX11_mend_30 0 rfl rfl ?_
      refine g_iconst (v := 2) h dX11_mend_33 (by decide) ?_
      refine g_iald h dX11_mend_34 1 2 rfl rfl (by decide) (by decide) ?_
      refine g_istore_n (lv' := [some _, some _, some _, some _]) h dX11_mend_35 (by decide) rfl ?_
      refine g_iload_n h dX11_mend_36 rfl ?_
      refine g_bipush (v := 8) h dX11_mend_37 (by decide) ?_
      refine g_ic_ne h dX11_mend_39 rfl (fun c39 => ?_) (fun c39 => ?_)
      · replace hf := ifp_f c39 hf
        refine g_aload_n h dX11_mend_50 rfl ?_
        refine g_get h flX11_9 dX11_mend_51 0 rfl rfl ?_
        refine g_bipush (v := 72) h dX11_mend_54 (by decide) ?_
        refine g_iload_n h dX11_mend_56 rfl ?_
        refine g_iadd h dX11_mend_57 ?_
        refine g_iload_n h dX11_mend_58 rfl ?_
        obtain ⟨k59, q59, hf⟩ := gbind hf
        have e59 := (gIx_s q59).1
        have b59 := (gIx_s q59).2
        obtain ⟨S0x59, w59, hf⟩ := gbind hf
        refine g_iast (ws' := wRf E a0 S0x59) h dX11_mend_59 1 k59 rfl e59 b59 (by decide) (by cases w59; rfl) ?_
        refine g_aload_n h dX11_mend_60 rfl ?_
        refine g_get h flX11_9 dX11_mend_61 0 rfl rfl ?_
        refine g_bipush (v := 80) h dX11_mend_64 (by decide) ?_
        refine g_iload_n h dX11_mend_66 rfl ?_
        refine g_iadd h dX11_mend_67 ?_
        refine g_iload_n h dX11_mend_68 rfl ?_
        obtain ⟨k69, q69, hf⟩ := gbind hf
        have e69 := (gIx_s q69).1
        have b69 := (gIx_s q69).2
        obtain ⟨S0x69, w69, hf⟩ := gbind hf
        refine g_iast (ws' := wRf E a0 S0x69) h dX11_mend_69 1 k69 rfl e69 b69 (by decide) (by cases w69; rfl) ?_
        refine g_aload_n h dX11_mend_70 rfl ?_
        refine g_get h flX11_9 dX11_mend_71 0 rfl rfl ?_
        refine g_iconst (v := 2) h dX11_mend_74 (by decide) ?_
        refine g_dup2_11 h dX11_mend_75 rfl rfl ?_
        refine g_iald h dX11_mend_76 1 2 rfl rfl (by decide) (by decide) ?_
        refine g_iconst (v := 1) h dX11_mend_77 (by decide) ?_
        refine g_iadd h dX11_mend_78 ?_
        obtain ⟨S0x79, w79, hf⟩ := gbind hf
        refine g_iast (ws' := wRf E a0 S0x79) h dX11_mend_79 1 2 rfl rfl (by decide) (by decide) (by cases w79; rfl) ?_
        refine g_iload_n h dX11_mend_80 rfl ?_
        refine g_i2l h dX11_mend_81 ?_
        have er := Option.some.inj hf
        subst er
        exact g_lreturn h dX11_mend_82 rfl ⟨Nat.zero_le _, Nat.zero_le _, rfl, rfl, rfl⟩
      · replace hf := ifp_t c39 hf
        refine g_aload_n h dX11_mend_42 rfl ?_
        refine g_ldc2 (v := (-9000000000000000005)) h dX11_mend_43 gcX11_68 ?_
        obtain ⟨r46, q46, hf⟩ := gbind hf
        refine g_cVw (ws' := wRf E a0 r46.2) h (qX11_tellFinding (a0 := a0) q46) mX11_tellFinding lkX11_64 dX11_mend_46 rfl rfl ⟨Nat.zero_le _, Nat.zero_le _⟩ ⟨by decide, by decide⟩ (Nat.le_of_ble_eq_true rfl) [0, 1, 2, 3, 4, 5, 6, 7, 8, 9, 10, 11, 12, 13, 14, 15] rfl rfl 0 rfl rfl mgX11_20 ?_
        have er := Option.some.inj hf
        subst er
        exact g_lreturn h dX11_mend_49 rfl ⟨Nat.zero_le _, Nat.zero_le _, rfl, rfl, rfl⟩
    · replace hf := ifb_f c18 hf
      refine g_aload_n h dX11_mend_21 rfl ?_
      refine g_ldc2 (v := (-9000000000000000001)) h dX11_mend_22 gcX11_62 ?_
      obtain ⟨r25, q25, hf⟩ := gbind hf
      refine g_cVw (ws' := wRf E a0 r25.2) h (qX11_tellFinding (a0 := a0) q25) mX11_tellFinding lkX11_64 dX11_mend_25 rfl rfl ⟨Nat.zero_le _, Nat.zero_le _⟩ ⟨by decide, by decide⟩ (Nat.le_of_ble_eq_true rfl) [0, 1, 2, 3, 4, 5, 6, 7, 8, 9, 10, 11, 12, 13, 14, 15] rfl rfl 0 rfl rfl mgX11_20 ?_
      have er := Option.some.inj hf
      subst er
      exact g_lreturn h dX11_mend_28 rfl ⟨Nat.zero_le _, Nat.zero_le _, rfl, rfl, rfl⟩
def fX11_hasSpan (fu : Nat) (S0 : gS) (v1 : Int32) : Option (Bool) := ((gIx ((88 : Int32) + v1) 160).bind fun k8 => ((gIx ((124 : Int32) + v1) 160).bind fun k17 => (if ((iA S0 0) k17) < ((iA S0 0) k8) then (some false) else (some true))))
set_option maxHeartbeats 4000000 in
set_option maxRecDepth 100000 in
theorem qX11_hasSpan {l : Launch} {E : gE} {a0 : Nat → Nat} {fu : Nat} {S0 : gS} {v1 : Int32} {r : Bool} (hf : fX11_hasSpan fu S0 v1 = some r) : CtrF l yX11_hasSpan cX11_hasSpan 2 (some .boolean) (gR 0 0) E [.ref (a0 0), .int v1] (wRf E a0 S0) (some (.int (bI r))) (wRf E a0 S0) := by
  refine ctr_of false (plainFor_of_name (by decide)) (Nat.le_of_ble_eq_true rfl) (fun q => by cases q) (fun Γ h => ?_)
  refine g_lv [some _, some _] rfl ?_
  rw [fX11_hasSpan] at hf
  refine g_aload_n h dX11_hasSpan_0 rfl ?_
  refine g_get h flX11_9 dX11_hasSpan_1 0 rfl rfl ?_
  refine g_bipush (v := 88) h dX11_hasSpan_4 (by decide) ?_
  refine g_iload_n h dX11_hasSpan_6 rfl ?_
  refine g_iadd h dX11_hasSpan_7 ?_
  obtain ⟨k8, q8, hf⟩ := gbind hf
  have e8 := (gIx_s q8).1
  have b8 := (gIx_s q8).2
  refine g_iald h dX11_hasSpan_8 1 k8 rfl e8 b8 (by decide) ?_
  refine g_aload_n h dX11_hasSpan_9 rfl ?_
  refine g_get h flX11_9 dX11_hasSpan_10 0 rfl rfl ?_
  refine g_bipush (v := 124) h dX11_hasSpan_13 (by decide) ?_
  refine g_iload_n h dX11_hasSpan_15 rfl ?_
  refine g_iadd h dX11_hasSpan_16 ?_
  obtain ⟨k17, q17, hf⟩ := gbind hf
  have e17 := (gIx_s q17).1
  have b17 := (gIx_s q17).2
  refine g_iald h dX11_hasSpan_17 1 k17 rfl e17 b17 (by decide) ?_
  refine g_ic_gt h dX11_hasSpan_18 rfl (fun c18 => ?_) (fun c18 => ?_)
  · replace hf := ifp_t c18 hf
    refine g_iconst (v := 0) h dX11_hasSpan_25 (by decide) ?_
    have er := Option.some.inj hf
    subst er
    exact g_ireturn h dX11_hasSpan_26 rfl rfl ⟨Nat.zero_le _, Nat.zero_le _, rfl, rfl, rfl⟩
  · replace hf := ifp_f c18 hf
    refine g_iconst (v := 1) h dX11_hasSpan_21 (by decide) ?_
    refine g_goto h dX11_hasSpan_22 rfl ?_
    have er := Option.some.inj hf
    subst er
    exact g_ireturn h dX11_hasSpan_26 rfl rfl ⟨Nat.zero_le _, Nat.zero_le _, rfl, rfl, rfl⟩
def lX11_spans_4  (fu : Nat) (S0 : gS) : Nat → (Int32) → (Int32) → Option (Int32)
  | 0, _, _ => none
  | j + 1, v1, v2 => (if (36 : Int32) ≤ v2 then (some v1) else ((fX11_hasSpan fu S0 v2).bind fun r13 => (if r13 = true then ((lX11_spans_4  fu S0 j) (v1 + (1 : Int32)) (v2 + 1)) else ((lX11_spans_4  fu S0 j) (v1 + (0 : Int32)) (v2 + 1)))))
def fX11_spans (fu : Nat) (S0 : gS)  : Option (Int32) := (lX11_spans_4  fu S0 fu (0 : Int32) (0 : Int32))
set_option maxHeartbeats 4000000 in
set_option maxRecDepth 100000 in
theorem qX11_spans {l : Launch} {E : gE} {a0 : Nat → Nat} {fu : Nat} {S0 : gS}  {r : Int32} (hf : fX11_spans fu S0  = some r) : CtrF l yX11_spans cX11_spans 3 (some .int) (gR 1 21) E [.ref (a0 0)] (wRf E a0 S0) (some (.int r)) (wRf E a0 S0) := by
  refine ctr_of false (plainFor_of_name (by decide)) (Nat.le_of_ble_eq_true rfl) (fun q => by cases q) (fun Γ h => ?_)
  refine g_lv [some _, _, _] rfl ?_
  rw [fX11_spans] at hf
  have loop4 : ∀ (j4 : Nat) (v1 : Int32) (v2 : Int32) , lX11_spans_4  fu S0 j4 v1 v2 = some r → Γ 0 0 4 [some (.ref (a0 0)), some (.int v1), some (.int v2)] [] (wRf E a0 S0) := by
    intro j4
    induction j4 with
    | zero => intro v1 v2 hf; exact gno hf
    | succ j4 ih4 =>
      intro v1 v2 hf
      rw [lX11_spans_4] at hf
      refine g_iload_n h dX11_spans_4 rfl ?_
      refine g_bipush (v := 36) h dX11_spans_5 (by decide) ?_
      refine g_ic_ge h dX11_spans_7 rfl (fun c7 => ?_) (fun c7 => ?_)
      · replace hf := ifp_t c7 hf
        refine g_iload_n h dX11_spans_32 rfl ?_
        have er := Option.some.inj hf
        subst er
        exact g_ireturn h dX11_spans_33 rfl rfl ⟨Nat.zero_le _, Nat.zero_le _, rfl, rfl, rfl⟩
      · replace hf := ifp_f c7 hf
        refine g_iload_n h dX11_spans_10 rfl ?_
        refine g_aload_n h dX11_spans_11 rfl ?_
        refine g_iload_n h dX11_spans_12 rfl ?_
        obtain ⟨r13, q13, hf⟩ := gbind hf
        refine g_cVr h (qX11_hasSpan (a0 := a0) q13) mX11_hasSpan lkX11_197 dX11_spans_13 rfl rfl ⟨Nat.zero_le _, Nat.zero_le _⟩ ⟨by decide, by decide⟩ (Nat.le_of_ble_eq_true rfl) [0, 1, 2, 3, 4, 5, 6, 7, 8, 9, 10, 11, 12, 13, 14, 15] rfl rfl 0 rfl rfl ?_
        refine g_ifb_eq h dX11_spans_16 rfl (fun c16 => ?_) (fun c16 => ?_)
        · replace hf := ifb_f c16 hf
          refine g_iconst (v := 0) h dX11_spans_23 (by decide) ?_
          refine g_iadd h dX11_spans_24 ?_
          refine g_istore_n (lv' := [some _, some _, some _]) h dX11_spans_25 (by decide) rfl ?_
          refine g_iinc (v := (v2 + 1)) (lv' := [some _, some _, some _]) h dX11_spans_26 rfl rfl (by decide) rfl ?_
          refine g_goto h dX11_spans_29 rfl ?_
          exact ih4 _ _ hf
        · replace hf := ifb_t c16 hf
          refine g_iconst (v := 1) h dX11_spans_19 (by decide) ?_
          refine g_goto h dX11_spans_20 rfl ?_
          refine g_iadd h dX11_spans_24 ?_
          refine g_istore_n (lv' := [some _, some _, some _]) h dX11_spans_25 (by decide) rfl ?_
          refine g_iinc (v := (v2 + 1)) (lv' := [some _, some _, some _]) h dX11_spans_26 rfl rfl (by decide) rfl ?_
          refine g_goto h dX11_spans_29 rfl ?_
          exact ih4 _ _ hf
  refine g_iconst (v := 0) h dX11_spans_0 (by decide) ?_
  refine g_istore_n (lv' := [some _, some _, _]) h dX11_spans_1 (by decide) rfl ?_
  refine g_iconst (v := 0) h dX11_spans_2 (by decide) ?_
  refine g_istore_n (lv' := [some _, some _, some _]) h dX11_spans_3 (by decide) rfl ?_
  exact loop4 _ _ _  hf
def jX11_span_59  (fu : Nat) (v1 : Int32) (v2 : Int32) (v3 : Int32) (s0 : Int32) (s1 : Int32) (S0 : gS) : Option (Int64 × gS) := ((gIx s1 160).bind fun k59 => ((some (sAu S0 0 k59 s0)).bind fun S0x59 => (if v3 < v2 then ((gIx ((124 : Int32) + v1) 160).bind fun k78 => ((some (sAu S0x59 0 k78 (0 : Int32))).bind fun S0x78 => (if v3 < v2 then (some ((0 : Int64), S0x78)) else (some ((1 : Int64), S0x78))))) else ((gIx ((124 : Int32) + v1) 160).bind fun k78 => ((some (sAu S0x59 0 k78 v3)).bind fun S0x78 => (if v3 < v2 then (some ((0 : Int64), S0x78)) else (some ((1 : Int64), S0x78))))))))
def fX11_span (fu : Nat) (S0 : gS) (v1 : Int32) (v2 : Int32) (v3 : Int32) : Option (Int64 × gS) := ((fX11_isState fu v1).bind fun r1 => (if r1 = true then ((fX11_in fu v2 (-1000 : Int32) (1000 : Int32)).bind fun r14 => (if r14 = true then ((fX11_in fu v3 (-1000 : Int32) (1000 : Int32)).bind fun r27 => (if r27 = true then (if v3 < v2 then (jX11_span_59  fu v1 v2 v3 (1 : Int32) ((88 : Int32) + v1) S0) else (jX11_span_59  fu v1 v2 v3 v2 ((88 : Int32) + v1) S0)) else ((fX11_tellFinding fu S0 (-9000000000000000001 : Int64)).bind fun r37 => (some (r37.1, r37.2))))) else ((fX11_tellFinding fu S0 (-9000000000000000001 : Int64)).bind fun r37 => (some (r37.1, r37.2))))) else ((fX11_tellFinding fu S0 (-9000000000000000001 : Int64)).bind fun r37 => (some (r37.1, r37.2)))))
set_option maxHeartbeats 4000000 in
set_option maxRecDepth 100000 in
theorem qX11_span {l : Launch} {E : gE} {a0 : Nat → Nat} {fu : Nat} {S0 : gS} {v1 : Int32} {v2 : Int32} {v3 : Int32} {r : Int64 × gS} (hf : fX11_span fu S0 v1 v2 v3 = some r) : CtrF l yX11_span cX11_span 4 (some .long) (gR 2 42) E [.ref (a0 0), .int v1, .int v2, .int v3] (wRf E a0 S0) (some (.long r.1)) (wRf E a0 r.2) := by
  refine ctr_of false (plainFor_of_name (by decide)) (Nat.le_of_ble_eq_true rfl) (fun q => by cases q) (fun Γ h => ?_)
  refine g_lv [some _, some _, some _, some _] rfl ?_
  rw [fX11_span] at hf
  have jn59 : ∀ (s0 : Int32) (s1 : Int32) (S0 : gS) , jX11_span_59  fu v1 v2 v3 s0 s1 S0 = some r → Γ 0 0 59 [some (.ref (a0 0)), some (.int v1), some (.int v2), some (.int v3)] [.int s0, .int s1, .ref (a0 1)] (wRf E a0 S0) := by
    intro s0 s1 S0 hf
    rw [jX11_span_59] at hf
    obtain ⟨k59, q59, hf⟩ := gbind hf
    have e59 := (gIx_s q59).1
    have b59 := (gIx_s q59).2
    obtain ⟨S0x59, w59, hf⟩ := gbind hf
    refine g_iast (ws' := wRf E a0 S0x59) h dX11_span_59 1 k59 rfl e59 b59 (by decide) (by cases w59; rfl) ?_
    refine g_aload_n h dX11_span_60 rfl ?_
    refine g_get h flX11_9 dX11_span_61 0 rfl rfl ?_
    refine g_bipush (v := 124) h dX11_span_64 (by decide) ?_
    refine g_iload_n h dX11_span_66 rfl ?_
    refine g_iadd h dX11_span_67 ?_
    refine g_iload_n h dX11_span_68 rfl ?_
    refine g_iload_n h dX11_span_69 rfl ?_
    refine g_ic_gt h dX11_span_70 rfl (fun c70 => ?_) (fun c70 => ?_)
    · replace hf := ifp_t c70 hf
      refine g_iconst (v := 0) h dX11_span_77 (by decide) ?_
      obtain ⟨k78, q78, hf⟩ := gbind hf
      have e78 := (gIx_s q78).1
      have b78 := (gIx_s q78).2
      obtain ⟨S0x78, w78, hf⟩ := gbind hf
      refine g_iast (ws' := wRf E a0 S0x78) h dX11_span_78 1 k78 rfl e78 b78 (by decide) (by cases w78; rfl) ?_
      refine g_iload_n h dX11_span_79 rfl ?_
      refine g_iload_n h dX11_span_80 rfl ?_
      refine g_ic_gt h dX11_span_81 rfl (fun c81 => ?_) (fun c81 => ?_)
      · replace hf := ifp_t c81 hf
        refine g_lconst (v := 0) h dX11_span_88 (by decide) ?_
        have er := Option.some.inj hf
        subst er
        exact g_lreturn h dX11_span_89 rfl ⟨Nat.zero_le _, Nat.zero_le _, rfl, rfl, rfl⟩
      · replace hf := ifp_f c81 hf
        refine g_lconst (v := 1) h dX11_span_84 (by decide) ?_
        refine g_goto h dX11_span_85 rfl ?_
        have er := Option.some.inj hf
        subst er
        exact g_lreturn h dX11_span_89 rfl ⟨Nat.zero_le _, Nat.zero_le _, rfl, rfl, rfl⟩
    · replace hf := ifp_f c70 hf
      refine g_iload_n h dX11_span_73 rfl ?_
      refine g_goto h dX11_span_74 rfl ?_
      obtain ⟨k78, q78, hf⟩ := gbind hf
      have e78 := (gIx_s q78).1
      have b78 := (gIx_s q78).2
      obtain ⟨S0x78, w78, hf⟩ := gbind hf
      refine g_iast (ws' := wRf E a0 S0x78) h dX11_span_78 1 k78 rfl e78 b78 (by decide) (by cases w78; rfl) ?_
      refine g_iload_n h dX11_span_79 rfl ?_
      refine g_iload_n h dX11_span_80 rfl ?_
      refine g_ic_gt h dX11_span_81 rfl (fun c81 => ?_) (fun c81 => ?_)
      · replace hf := ifp_t c81 hf
        refine g_lconst (v := 0) h dX11_span_88 (by decide) ?_
        have er := Option.some.inj hf
        subst er
        exact g_lreturn h dX11_span_89 rfl ⟨Nat.zero_le _, Nat.zero_le _, rfl, rfl, rfl⟩
      · replace hf := ifp_f c81 hf
        refine g_lconst (v := 1) h dX11_span_84 (by decide) ?_
        refine g_goto h dX11_span_85 rfl ?_
        have er := Option.some.inj hf
        subst er
        exact g_lreturn h dX11_span_89 rfl ⟨Nat.zero_le _, Nat.zero_le _, rfl, rfl, rfl⟩
  refine g_iload_n h dX11_span_0 rfl ?_
  obtain ⟨r1, q1, hf⟩ := gbind hf
  refine g_cSr h (qX11_isState q1) mX11_isState lkX11_78 dX11_span_1 rfl rfl ⟨Nat.zero_le _, Nat.zero_le _⟩ ⟨by decide, by decide⟩ (Nat.le_of_ble_eq_true rfl) [] rfl rfl ?_
  refine g_ifb_eq h dX11_span_4 rfl (fun c4 => ?_) (fun c4 => ?_)
  · replace hf := ifb_f c4 hf
    refine g_aload_n h dX11_span_33 rfl ?_
    refine g_ldc2 (v := (-9000000000000000001)) h dX11_span_34 gcX11_62 ?_
    obtain ⟨r37, q37, hf⟩ := gbind hf
    refine g_cVw (ws' := wRf E a0 r37.2) h (qX11_tellFinding (a0 := a0) q37) mX11_tellFinding lkX11_64 dX11_span_37 rfl rfl ⟨Nat.zero_le _, Nat.zero_le _⟩ ⟨by decide, by decide⟩ (Nat.le_of_ble_eq_true rfl) [0, 1, 2, 3, 4, 5, 6, 7, 8, 9, 10, 11, 12, 13, 14, 15] rfl rfl 0 rfl rfl mgX11_20 ?_
    have er := Option.some.inj hf
    subst er
    exact g_lreturn h dX11_span_40 rfl ⟨Nat.zero_le _, Nat.zero_le _, rfl, rfl, rfl⟩
  · replace hf := ifb_t c4 hf
    refine g_iload_n h dX11_span_7 rfl ?_
    refine g_sipush (v := (-1000)) h dX11_span_8 (by decide) ?_
    refine g_sipush (v := 1000) h dX11_span_11 (by decide) ?_
    obtain ⟨r14, q14, hf⟩ := gbind hf
    refine g_cSr h (qX11_in q14) mX11_in lkX11_58 dX11_span_14 rfl rfl ⟨Nat.zero_le _, Nat.zero_le _⟩ ⟨by decide, by decide⟩ (Nat.le_of_ble_eq_true rfl) [] rfl rfl ?_
    refine g_ifb_eq h dX11_span_17 rfl (fun c17 => ?_) (fun c17 => ?_)
    · replace hf := ifb_f c17 hf
      refine g_aload_n h dX11_span_33 rfl ?_
      refine g_ldc2 (v := (-9000000000000000001)) h dX11_span_34 gcX11_62 ?_
      obtain ⟨r37, q37, hf⟩ := gbind hf
      refine g_cVw (ws' := wRf E a0 r37.2) h (qX11_tellFinding (a0 := a0) q37) mX11_tellFinding lkX11_64 dX11_span_37 rfl rfl ⟨Nat.zero_le _, Nat.zero_le _⟩ ⟨by decide, by decide⟩ (Nat.le_of_ble_eq_true rfl) [0, 1, 2, 3, 4, 5, 6, 7, 8, 9, 10, 11, 12, 13, 14, 15] rfl rfl 0 rfl rfl mgX11_20 ?_
      have er := Option.some.inj hf
      subst er
      exact g_lreturn h dX11_span_40 rfl ⟨Nat.zero_le _, Nat.zero_le _, rfl, rfl, rfl⟩
    · replace hf := ifb_t c17 hf
      refine g_iload_n h dX11_span_20 rfl ?_
      refine g_sipush (v := (-1000)) h dX11_span_21 (by decide) ?_
      refine g_sipush (v := 1000) h dX11_span_24 (by decide) ?_
      obtain ⟨r27, q27, hf⟩ := gbind hf
      refine g_cSr h (qX11_in q27) mX11_in lkX11_58 dX11_span_27 rfl rfl ⟨Nat.zero_le _, Nat.zero_le _⟩ ⟨by decide, by decide⟩ (Nat.le_of_ble_eq_true rfl) [] rfl rfl ?_
      refine g_ifb_ne h dX11_span_30 rfl (fun c30 => ?_) (fun c30 => ?_)
      · replace hf := ifb_t c30 hf
        refine g_aload_n h dX11_span_41 rfl ?_
        refine g_get h flX11_9 dX11_span_42 0 rfl rfl ?_
        refine g_bipush (v := 88) h dX11_span_45 (by decide) ?_
        refine g_iload_n h dX11_span_47 rfl ?_
        refine g_iadd h dX11_span_48 ?_
        refine g_iload_n h dX11_span_49 rfl ?_
        refine g_iload_n h dX11_span_50 rfl ?_
        refine g_ic_gt h dX11_span_51 rfl (fun c51 => ?_) (fun c51 => ?_)
        · replace hf := ifp_t c51 hf
          refine g_iconst (v := 1) h dX11_span_58 (by decide) ?_
          exact jn59 _ _ _  hf
        · replace hf := ifp_f c51 hf
          refine g_iload_n h dX11_span_54 rfl ?_
          refine g_goto h dX11_span_55 rfl ?_
          exact jn59 _ _ _  hf
      · replace hf := ifb_f c30 hf
        refine g_aload_n h dX11_span_33 rfl ?_
        refine g_ldc2 (v := (-9000000000000000001)) h dX11_span_34 gcX11_62 ?_
        obtain ⟨r37, q37, hf⟩ := gbind hf
        refine g_cVw (ws' := wRf E a0 r37.2) h (qX11_tellFinding (a0 := a0) q37) mX11_tellFinding lkX11_64 dX11_span_37 rfl rfl ⟨Nat.zero_le _, Nat.zero_le _⟩ ⟨by decide, by decide⟩ (Nat.le_of_ble_eq_true rfl) [0, 1, 2, 3, 4, 5, 6, 7, 8, 9, 10, 11, 12, 13, 14, 15] rfl rfl 0 rfl rfl mgX11_20 ?_
        have er := Option.some.inj hf
        subst er
        exact g_lreturn h dX11_span_40 rfl ⟨Nat.zero_le _, Nat.zero_le _, rfl, rfl, rfl⟩
def fX11_isMend (fu : Nat) (S0 : gS) (v1 : Int32) : Option (Bool) := ((fX11_in fu v1 (0 : Int32) (((iA S0 0) 2) - (1 : Int32))).bind fun r10 => (some r10))
set_option maxHeartbeats 4000000 in
set_option maxRecDepth 100000 in
theorem qX11_isMend {l : Launch} {E : gE} {a0 : Nat → Nat} {fu : Nat} {S0 : gS} {v1 : Int32} {r : Bool} (hf : fX11_isMend fu S0 v1 = some r) : CtrF l yX11_isMend cX11_isMend 2 (some .boolean) (gR 1 22) E [.ref (a0 0), .int v1] (wRf E a0 S0) (some (.int (bI r))) (wRf E a0 S0) := by
  refine ctr_of false (plainFor_of_name (by decide)) (Nat.le_of_ble_eq_true rfl) (fun q => by cases q) (fun Γ h => ?_)
  refine g_lv [some _, some _] rfl ?_
  rw [fX11_isMend] at hf
  refine g_iload_n h dX11_isMend_0 rfl ?_
  refine g_iconst (v := 0) h dX11_isMend_1 (by decide) ?_
  refine g_aload_n h dX11_isMend_2 rfl ?_
  refine g_get h flX11_9 dX11_isMend_3 0 rfl rfl ?_
  refine g_iconst (v := 2) h dX11_isMend_6 (by decide) ?_
  refine g_iald h dX11_isMend_7 1 2 rfl rfl (by decide) (by decide) ?_
  refine g_iconst (v := 1) h dX11_isMend_8 (by decide) ?_
  refine g_isub h dX11_isMend_9 ?_
  obtain ⟨r10, q10, hf⟩ := gbind hf
  refine g_cSr h (qX11_in q10) mX11_in lkX11_58 dX11_isMend_10 rfl rfl ⟨Nat.zero_le _, Nat.zero_le _⟩ ⟨by decide, by decide⟩ (Nat.le_of_ble_eq_true rfl) [] rfl rfl ?_
  have er := Option.some.inj hf
  subst er
  exact g_ireturn h dX11_isMend_13 rfl (bI_nar _) ⟨Nat.zero_le _, Nat.zero_le _, rfl, rfl, rfl⟩
def fX11_mended (fu : Nat) (S0 : gS) (v1 : Int32) (v2 : Int32) (v3 : Int32) : Option (Int64) := (if v1 < 0 then (some (0 : Int64)) else ((gIx ((72 : Int32) + v1) 160).bind fun k13 => ((fX11_placeOf fu S0 ((iA S0 0) k13)).bind fun r14 => (if 0 ≤ r14 then ((fX11_shown fu S0 ((iA S0 0) k13) v3).bind fun r33 => ((gIx ((80 : Int32) + v1) 160).bind fun k44 => (some ((r33 * (((iA S0 0) k44).toInt64)) * (v2.toInt64))))) else (some (0 : Int64))))))
set_option maxHeartbeats 4000000 in
set_option maxRecDepth 100000 in
theorem qX11_mended {l : Launch} {E : gE} {a0 : Nat → Nat} {fu : Nat} {S0 : gS} {v1 : Int32} {v2 : Int32} {v3 : Int32} {r : Int64} (hf : fX11_mended fu S0 v1 v2 v3 = some r) : CtrF l yX11_mended cX11_mended 4 (some .long) (gR 1 28) E [.ref (a0 0), .int v1, .int v2, .int v3] (wRf E a0 S0) (some (.long r)) (wRf E a0 S0) := by
  refine ctr_of false (plainFor_of_name (by decide)) (Nat.le_of_ble_eq_true rfl) (fun q => by cases q) (fun Γ h => ?_)
  refine g_lv [some _, some _, some _, some _] rfl ?_
  rw [fX11_mended] at hf
  refine g_iload_n h dX11_mended_0 rfl ?_
  refine g_if_lt h dX11_mended_1 rfl (fun c1 => ?_) (fun c1 => ?_)
  · replace hf := ifp_t c1 hf
    refine g_lconst (v := 0) h dX11_mended_20 (by decide) ?_
    have er := Option.some.inj hf
    subst er
    exact g_lreturn h dX11_mended_21 rfl ⟨Nat.zero_le _, Nat.zero_le _, rfl, rfl, rfl⟩
  · replace hf := ifp_f c1 hf
    refine g_aload_n h dX11_mended_4 rfl ?_
    refine g_aload_n h dX11_mended_5 rfl ?_
    refine g_get h flX11_9 dX11_mended_6 0 rfl rfl ?_
    refine g_bipush (v := 72) h dX11_mended_9 (by decide) ?_
    refine g_iload_n h dX11_mended_11 rfl ?_
    refine g_iadd h dX11_mended_12 ?_
    obtain ⟨k13, q13, hf⟩ := gbind hf
    have e13 := (gIx_s q13).1
    have b13 := (gIx_s q13).2
    refine g_iald h dX11_mended_13 1 k13 rfl e13 b13 (by decide) ?_
    obtain ⟨r14, q14, hf⟩ := gbind hf
    refine g_cVr h (qX11_placeOf (a0 := a0) q14) mX11_placeOf lkX11_183 dX11_mended_14 rfl rfl ⟨Nat.zero_le _, Nat.zero_le _⟩ ⟨by decide, by decide⟩ (Nat.le_of_ble_eq_true rfl) [0, 1, 2, 3, 4, 5, 6, 7, 8, 9, 10, 11, 12, 13, 14, 15] rfl rfl 0 rfl rfl ?_
    refine g_if_ge h dX11_mended_17 rfl (fun c17 => ?_) (fun c17 => ?_)
    · replace hf := ifp_t c17 hf
      refine g_aload_n h dX11_mended_22 rfl ?_
      refine g_aload_n h dX11_mended_23 rfl ?_
      refine g_get h flX11_9 dX11_mended_24 0 rfl rfl ?_
      refine g_bipush (v := 72) h dX11_mended_27 (by decide) ?_
      refine g_iload_n h dX11_mended_29 rfl ?_
      refine g_iadd h dX11_mended_30 ?_
      refine g_iald h dX11_mended_31 1 k13 rfl e13 b13 (by decide) ?_
      refine g_iload_n h dX11_mended_32 rfl ?_
      obtain ⟨r33, q33, hf⟩ := gbind hf
      refine g_cVr h (qX11_shown (a0 := a0) q33) mX11_shown lkX11_81 dX11_mended_33 rfl rfl ⟨Nat.zero_le _, Nat.zero_le _⟩ ⟨by decide, by decide⟩ (Nat.le_of_ble_eq_true rfl) [0, 1, 2, 3, 4, 5, 6, 7, 8, 9, 10, 11, 12, 13, 14, 15] rfl rfl 0 rfl rfl ?_
      refine g_aload_n h dX11_mended_36 rfl ?_
      refine g_get h flX11_9 dX11_mended_37 0 rfl rfl ?_
      refine g_bipush (v := 80) h dX11_mended_40 (by decide) ?_
      refine g_iload_n h dX11_mended_42 rfl ?_
      refine g_iadd h dX11_mended_43 ?_
      obtain ⟨k44, q44, hf⟩ := gbind hf
      have e44 := (gIx_s q44).1
      have b44 := (gIx_s q44).2
      refine g_iald h dX11_mended_44 1 k44 rfl e44 b44 (by decide) ?_
      refine g_i2l h dX11_mended_45 ?_
      refine g_lmul h dX11_mended_46 ?_
      refine g_iload_n h dX11_mended_47 rfl ?_
      refine g_i2l h dX11_mended_48 ?_
      refine g_lmul h dX11_mended_49 ?_
      have er := Option.some.inj hf
      subst er
      exact g_lreturn h dX11_mended_50 rfl ⟨Nat.zero_le _, Nat.zero_le _, rfl, rfl, rfl⟩
    · replace hf := ifp_f c17 hf
      refine g_lconst (v := 0) h dX11_mended_20 (by decide) ?_
      have er := Option.some.inj hf
      subst er
      exact g_lreturn h dX11_mended_21 rfl ⟨Nat.zero_le _, Nat.zero_le _, rfl, rfl, rfl⟩
def fX11_behind (fu : Nat) (S0 : gS) (v1 : Int32) (v2 : Int32) (v3 : Int32) (v4 : Int32) (v5 : Int32) (v6 : Bool) : Option (Int64 × gS) := ((fX11_notFound fu S0).bind fun r1 => (if r1 = (0 : Int64) then ((fX11_isState fu v1).bind fun r19 => (if r19 = true then ((fX11_isMend fu S0 v2).bind fun r27 => (if r27 = true then ((fX11_isMend fu S0 v4).bind fun r36 => (if r36 = true then ((fX11_in fu v3 (-3 : Int32) (3 : Int32)).bind fun r46 => (if r46 = true then ((fX11_in fu v5 (-3 : Int32) (3 : Int32)).bind fun r57 => (if r57 = true then ((fX11_mended fu S0 v2 v3 v1).bind fun r75 => ((fX11_mended fu S0 v4 v5 v1).bind fun r84 => ((fX11_foretoldAt fu S0 v1).bind fun r92 => ((fX11_part fu (r92 + ((r75 + r84) * (lF S0 18))) (lF S0 18) v6).bind fun r109 => (some (r109, S0)))))) else ((fX11_tellFinding fu S0 (-9000000000000000001 : Int64)).bind fun r67 => (some (r67.1, r67.2))))) else ((fX11_tellFinding fu S0 (-9000000000000000001 : Int64)).bind fun r67 => (some (r67.1, r67.2))))) else ((fX11_tellFinding fu S0 (-9000000000000000001 : Int64)).bind fun r67 => (some (r67.1, r67.2))))) else ((fX11_tellFinding fu S0 (-9000000000000000001 : Int64)).bind fun r67 => (some (r67.1, r67.2))))) else ((fX11_tellFinding fu S0 (-9000000000000000001 : Int64)).bind fun r67 => (some (r67.1, r67.2))))) else ((fX11_notFound fu S0).bind fun r11 => ((fX11_tellFinding fu S0 r11).bind fun r14 => (some (r14.1, r14.2))))))
set_option maxHeartbeats 4000000 in
set_option maxRecDepth 100000 in
theorem qX11_behind {l : Launch} {E : gE} {a0 : Nat → Nat} {fu : Nat} {S0 : gS} {v1 : Int32} {v2 : Int32} {v3 : Int32} {v4 : Int32} {v5 : Int32} {v6 : Bool} {r : Int64 × gS} (hf : fX11_behind fu S0 v1 v2 v3 v4 v5 v6 = some r) : CtrF l yX11_behind cX11_behind 9 (some .long) (gR 2 55) E [.ref (a0 0), .int v1, .int v2, .int v3, .int v4, .int v5, .int (bI v6)] (wRf E a0 S0) (some (.long r.1)) (wRf E a0 r.2) := by
  refine ctr_of false (plainFor_of_name (by decide)) (Nat.le_of_ble_eq_true rfl) (fun q => by cases q) (fun Γ h => ?_)
  refine g_lv [some _, some _, some _, some _, some _, some _, some _, _, _] rfl ?_
  rw [fX11_behind] at hf
  refine g_aload_n h dX11_behind_0 rfl ?_
  obtain ⟨r1, q1, hf⟩ := gbind hf
  refine g_cVr h (qX11_notFound (a0 := a0) q1) mX11_notFound lkX11_180 dX11_behind_1 rfl rfl ⟨Nat.zero_le _, Nat.zero_le _⟩ ⟨by decide, by decide⟩ (Nat.le_of_ble_eq_true rfl) [0, 1, 2, 3, 4, 5, 6, 7, 8, 9, 10, 11, 12, 13, 14, 15] rfl rfl 0 rfl rfl ?_
  refine g_lconst (v := 0) h dX11_behind_4 (by decide) ?_
  refine g_lcmp h dX11_behind_5 ?_
  refine g_lif_eq h dX11_behind_6 rfl (fun c6 => ?_) (fun c6 => ?_)
  · replace hf := ifp_t c6 hf
    refine g_iload_n h dX11_behind_18 rfl ?_
    obtain ⟨r19, q19, hf⟩ := gbind hf
    refine g_cSr h (qX11_isState q19) mX11_isState lkX11_78 dX11_behind_19 rfl rfl ⟨Nat.zero_le _, Nat.zero_le _⟩ ⟨by decide, by decide⟩ (Nat.le_of_ble_eq_true rfl) [] rfl rfl ?_
    refine g_ifb_eq h dX11_behind_22 rfl (fun c22 => ?_) (fun c22 => ?_)
    · replace hf := ifb_f c22 hf
      refine g_aload_n h dX11_behind_63 rfl ?_
      refine g_ldc2 (v := (-9000000000000000001)) h dX11_behind_64 gcX11_62 ?_
      obtain ⟨r67, q67, hf⟩ := gbind hf
      refine g_cVw (ws' := wRf E a0 r67.2) h (qX11_tellFinding (a0 := a0) q67) mX11_tellFinding lkX11_64 dX11_behind_67 rfl rfl ⟨Nat.zero_le _, Nat.zero_le _⟩ ⟨by decide, by decide⟩ (Nat.le_of_ble_eq_true rfl) [0, 1, 2, 3, 4, 5, 6, 7, 8, 9, 10, 11, 12, 13, 14, 15] rfl rfl 0 rfl rfl mgX11_20 ?_
      have er := Option.some.inj hf
      subst er
      exact g_lreturn h dX11_behind_70 rfl ⟨Nat.zero_le _, Nat.zero_le _, rfl, rfl, rfl⟩
    · replace hf := ifb_t c22 hf
      refine g_aload_n h dX11_behind_25 rfl ?_
      refine g_iload_n h dX11_behind_26 rfl ?_
      obtain ⟨r27, q27, hf⟩ := gbind hf
      refine g_cVr h (qX11_isMend (a0 := a0) q27) mX11_isMend lkX11_200 dX11_behind_27 rfl rfl ⟨Nat.zero_le _, Nat.zero_le _⟩ ⟨by decide, by decide⟩ (Nat.le_of_ble_eq_true rfl) [0, 1, 2, 3, 4, 5, 6, 7, 8, 9, 10, 11, 12, 13, 14, 15] rfl rfl 0 rfl rfl ?_
      refine g_ifb_eq h dX11_behind_30 rfl (fun c30 => ?_) (fun c30 => ?_)
      · replace hf := ifb_f c30 hf
        refine g_aload_n h dX11_behind_63 rfl ?_
        refine g_ldc2 (v := (-9000000000000000001)) h dX11_behind_64 gcX11_62 ?_
        obtain ⟨r67, q67, hf⟩ := gbind hf
        refine g_cVw (ws' := wRf E a0 r67.2) h (qX11_tellFinding (a0 := a0) q67) mX11_tellFinding lkX11_64 dX11_behind_67 rfl rfl ⟨Nat.zero_le _, Nat.zero_le _⟩ ⟨by decide, by decide⟩ (Nat.le_of_ble_eq_true rfl) [0, 1, 2, 3, 4, 5, 6, 7, 8, 9, 10, 11, 12, 13, 14, 15] rfl rfl 0 rfl rfl mgX11_20 ?_
        have er := Option.some.inj hf
        subst er
        exact g_lreturn h dX11_behind_70 rfl ⟨Nat.zero_le _, Nat.zero_le _, rfl, rfl, rfl⟩
      · replace hf := ifb_t c30 hf
        refine g_aload_n h dX11_behind_33 rfl ?_
        refine g_iload h dX11_behind_34 rfl ?_
        obtain ⟨r36, q36, hf⟩ := gbind hf
        refine g_cVr h (qX11_isMend (a0 := a0) q36) mX11_isMend lkX11_200 dX11_behind_36 rfl rfl ⟨Nat.zero_le _, Nat.zero_le _⟩ ⟨by decide, by decide⟩ (Nat.le_of_ble_eq_true rfl) [0, 1, 2, 3, 4, 5, 6, 7, 8, 9, 10, 11, 12, 13, 14, 15] rfl rfl 0 rfl rfl ?_
        refine g_ifb_eq h dX11_behind_39 rfl (fun c39 => ?_) (fun c39 => ?_)
        · replace hf := ifb_f c39 hf
          refine g_aload_n h dX11_behind_63 rfl ?_
          refine g_ldc2 (v := (-9000000000000000001)) h dX11_behind_64 gcX11_62 ?_
          obtain ⟨r67, q67, hf⟩ := gbind hf
          refine g_cVw (ws' := wRf E a0 r67.2) h (qX11_tellFinding (a0 := a0) q67) mX11_tellFinding lkX11_64 dX11_behind_67 rfl rfl ⟨Nat.zero_le _, Nat.zero_le _⟩ ⟨by decide, by decide⟩ (Nat.le_of_ble_eq_true rfl) [0, 1, 2, 3, 4, 5, 6, 7, 8, 9, 10, 11, 12, 13, 14, 15] rfl rfl 0 rfl rfl mgX11_20 ?_
          have er := Option.some.inj hf
          subst er
          exact g_lreturn h dX11_behind_70 rfl ⟨Nat.zero_le _, Nat.zero_le _, rfl, rfl, rfl⟩
        · replace hf := ifb_t c39 hf
          refine g_iload_n h dX11_behind_42 rfl ?_
          refine g_bipush (v := (-3)) h dX11_behind_43 (by decide) ?_
          refine g_iconst (v := 3) h dX11_behind_45 (by decide) ?_
          obtain ⟨r46, q46, hf⟩ := gbind hf
          refine g_cSr h (qX11_in q46) mX11_in lkX11_58 dX11_behind_46 rfl rfl ⟨Nat.zero_le _, Nat.zero_le _⟩ ⟨by decide, by decide⟩ (Nat.le_of_ble_eq_true rfl) [] rfl rfl ?_
          refine g_ifb_eq h dX11_behind_49 rfl (fun c49 => ?_) (fun c49 => ?_)
          · replace hf := ifb_f c49 hf
            refine g_aload_n h dX11_behind_63 rfl ?_
            refine g_ldc2 (v := (-9000000000000000001)) h dX11_behind_64 gcX11_62 ?_
            obtain ⟨r67, q67, hf⟩ := gbind hf
            refine g_cVw (ws' := wRf E a0 r67.2) h (qX11_tellFinding (a0 := a0) q67) mX11_tellFinding lkX11_64 dX11_behind_67 rfl rfl ⟨Nat.zero_le _, Nat.zero_le _⟩ ⟨by decide, by decide⟩ (Nat.le_of_ble_eq_true rfl) [0, 1, 2, 3, 4, 5, 6, 7, 8, 9, 10, 11, 12, 13, 14, 15] rfl rfl 0 rfl rfl mgX11_20 ?_
            have er := Option.some.inj hf
            subst er
            exact g_lreturn h dX11_behind_70 rfl ⟨Nat.zero_le _, Nat.zero_le _, rfl, rfl, rfl⟩
          · replace hf := ifb_t c49 hf
            refine g_iload h dX11_behind_52 rfl ?_
            refine g_bipush (v := (-3)) h dX11_behind_54 (by decide) ?_
            refine g_iconst (v := 3) h dX11_behind_56 (by decide) ?_
            obtain ⟨r57, q57, hf⟩ := gbind hf
            refine g_cSr h (qX11_in q57) mX11_in lkX11_58 dX11_behind_57 rfl rfl ⟨Nat.zero_le _, Nat.zero_le _⟩ ⟨by decide, by decide⟩ (Nat.le_of_ble_eq_true rfl) [] rfl rfl ?_
            refine g_ifb_ne h dX11_behind_60 rfl (fun c60 => ?_) (fun c60 => ?_)
            · replace hf := ifb_t c60 hf
              refine g_aload_n h dX11_behind_71 rfl ?_
              refine g_iload_n h dX11_behind_72 rfl ?_
              refine g_iload_n h dX11_behind_73 rfl ?_
              refine g_iload_n h dX11_behind_74 rfl ?_
              obtain ⟨r75, q75, hf⟩ := gbind hf
              refine g_cVr h (qX11_mended (a0 := a0) q75) mX11_mended lkX11_203 dX11_behind_75 rfl rfl ⟨Nat.zero_le _, Nat.zero_le _⟩ ⟨by decide, by decide⟩ (Nat.le_of_ble_eq_true rfl) [0, 1, 2, 3, 4, 5, 6, 7, 8, 9, 10, 11, 12, 13, 14, 15] rfl rfl 0 rfl rfl ?_
              refine g_aload_n h dX11_behind_78 rfl ?_
              refine g_iload h dX11_behind_79 rfl ?_
              refine g_iload h dX11_behind_81 rfl ?_
              refine g_iload_n h dX11_behind_83 rfl ?_
              obtain ⟨r84, q84, hf⟩ := gbind hf
              refine g_cVr h (qX11_mended (a0 := a0) q84) mX11_mended lkX11_203 dX11_behind_84 rfl rfl ⟨Nat.zero_le _, Nat.zero_le _⟩ ⟨by decide, by decide⟩ (Nat.le_of_ble_eq_true rfl) [0, 1, 2, 3, 4, 5, 6, 7, 8, 9, 10, 11, 12, 13, 14, 15] rfl rfl 0 rfl rfl ?_
              refine g_ladd h dX11_behind_87 ?_
              refine g_lstore (lv' := [some _, some _, some _, some _, some _, some _, some _, some _, none]) h dX11_behind_88 (by decide) rfl ?_
              refine g_aload_n h dX11_behind_90 rfl ?_
              refine g_iload_n h dX11_behind_91 rfl ?_
              obtain ⟨r92, q92, hf⟩ := gbind hf
              refine g_cVr h (qX11_foretoldAt (a0 := a0) q92) mX11_foretoldAt lkX11_190 dX11_behind_92 rfl rfl ⟨Nat.zero_le _, Nat.zero_le _⟩ ⟨by decide, by decide⟩ (Nat.le_of_ble_eq_true rfl) [0, 1, 2, 3, 4, 5, 6, 7, 8, 9, 10, 11, 12, 13, 14, 15] rfl rfl 0 rfl rfl ?_
              refine g_lload h dX11_behind_95 rfl ?_
              refine g_aload_n h dX11_behind_97 rfl ?_
              refine g_get h flX11_146 dX11_behind_98 0 rfl rfl ?_
              refine g_lmul h dX11_behind_101 ?_
              refine g_ladd h dX11_behind_102 ?_
              refine g_aload_n h dX11_behind_103 rfl ?_
              refine g_get h flX11_146 dX11_behind_104 0 rfl rfl ?_
              refine g_iload h dX11_behind_107 rfl ?_
              obtain ⟨r109, q109, hf⟩ := gbind hf
              refine g_cSr h (qX11_part q109) mX11_part lkX11_186 dX11_behind_109 rfl rfl ⟨Nat.zero_le _, Nat.zero_le _⟩ ⟨by decide, by decide⟩ (Nat.le_of_ble_eq_true rfl) [] rfl rfl ?_
              have er := Option.some.inj hf
              subst er
              exact g_lreturn h dX11_behind_112 rfl ⟨Nat.zero_le _, Nat.zero_le _, rfl, rfl, rfl⟩
            · replace hf := ifb_f c60 hf
              refine g_aload_n h dX11_behind_63 rfl ?_
              refine g_ldc2 (v := (-9000000000000000001)) h dX11_behind_64 gcX11_62 ?_
              obtain ⟨r67, q67, hf⟩ := gbind hf
              refine g_cVw (ws' := wRf E a0 r67.2) h (qX11_tellFinding (a0 := a0) q67) mX11_tellFinding lkX11_64 dX11_behind_67 rfl rfl ⟨Nat.zero_le _, Nat.zero_le _⟩ ⟨by decide, by decide⟩ (Nat.le_of_ble_eq_true rfl) [0, 1, 2, 3, 4, 5, 6, 7, 8, 9, 10, 11, 12, 13, 14, 15] rfl rfl 0 rfl rfl mgX11_20 ?_
              have er := Option.some.inj hf
              subst er
              exact g_lreturn h dX11_behind_70 rfl ⟨Nat.zero_le _, Nat.zero_le _, rfl, rfl, rfl⟩
  · replace hf := ifp_f c6 hf
    refine g_aload_n h dX11_behind_9 rfl ?_
    refine g_aload_n h dX11_behind_10 rfl ?_
    obtain ⟨r11, q11, hf⟩ := gbind hf
    refine g_cVr h (qX11_notFound (a0 := a0) q11) mX11_notFound lkX11_180 dX11_behind_11 rfl rfl ⟨Nat.zero_le _, Nat.zero_le _⟩ ⟨by decide, by decide⟩ (Nat.le_of_ble_eq_true rfl) [0, 1, 2, 3, 4, 5, 6, 7, 8, 9, 10, 11, 12, 13, 14, 15] rfl rfl 0 rfl rfl ?_
    obtain ⟨r14, q14, hf⟩ := gbind hf
    refine g_cVw (ws' := wRf E a0 r14.2) h (qX11_tellFinding (a0 := a0) q14) mX11_tellFinding lkX11_64 dX11_behind_14 rfl rfl ⟨Nat.zero_le _, Nat.zero_le _⟩ ⟨by decide, by decide⟩ (Nat.le_of_ble_eq_true rfl) [0, 1, 2, 3, 4, 5, 6, 7, 8, 9, 10, 11, 12, 13, 14, 15] rfl rfl 0 rfl rfl mgX11_20 ?_
    have er := Option.some.inj hf
    subst er
    exact g_lreturn h dX11_behind_17 rfl ⟨Nat.zero_le _, Nat.zero_le _, rfl, rfl, rfl⟩
def jX11_worstWith_72 (k6 : (Int64) → (Int32) → Option (Int64)) (fu : Nat) (S0 : gS) (v1 : Int32) (v2 : Int32) (v3 : Int32) (v4 : Int32) (v5 : Int64) (v7 : Int32) (s0 : Int64) : Option (Int64) := (if s0 ≤ v5 then (k6 v5 (v7 + 1)) else (k6 s0 (v7 + 1)))
def lX11_worstWith_6  (fu : Nat) (S0 : gS) (v1 : Int32) (v2 : Int32) (v3 : Int32) (v4 : Int32) : Nat → (Int64) → (Int32) → Option (Int64)
  | 0, _, _ => none
  | j + 1, v5, v7 => (if (36 : Int32) ≤ v7 then (some v5) else ((fX11_hasSpan fu S0 v7).bind fun r16 => (if r16 = true then ((fX11_foretoldAt fu S0 v7).bind fun r28 => ((fX11_mended fu S0 v1 v2 v7).bind fun r36 => ((fX11_mended fu S0 v3 v4 v7).bind fun r45 => (if (0 : Int64) ≤ (r28 + ((r36 + r45) * (lF S0 18))) then (jX11_worstWith_72 (lX11_worstWith_6  fu S0 v1 v2 v3 v4 j) fu S0 v1 v2 v3 v4 v5 v7 (r28 + ((r36 + r45) * (lF S0 18)))) else (jX11_worstWith_72 (lX11_worstWith_6  fu S0 v1 v2 v3 v4 j) fu S0 v1 v2 v3 v4 v5 v7 (-(r28 + ((r36 + r45) * (lF S0 18))))))))) else ((lX11_worstWith_6  fu S0 v1 v2 v3 v4 j) v5 (v7 + 1)))))
def fX11_worstWith (fu : Nat) (S0 : gS) (v1 : Int32) (v2 : Int32) (v3 : Int32) (v4 : Int32) : Option (Int64) := (lX11_worstWith_6  fu S0 v1 v2 v3 v4 fu (0 : Int64) (0 : Int32))
set_option maxHeartbeats 4000000 in
set_option maxRecDepth 100000 in
theorem qX11_worstWith {l : Launch} {E : gE} {a0 : Nat → Nat} {fu : Nat} {S0 : gS} {v1 : Int32} {v2 : Int32} {v3 : Int32} {v4 : Int32} {r : Int64} (hf : fX11_worstWith fu S0 v1 v2 v3 v4 = some r) : CtrF l yX11_worstWith cX11_worstWith 10 (some .long) (gR 2 52) E [.ref (a0 0), .int v1, .int v2, .int v3, .int v4] (wRf E a0 S0) (some (.long r)) (wRf E a0 S0) := by
  refine ctr_of false (plainFor_of_name (by decide)) (Nat.le_of_ble_eq_true rfl) (fun q => by cases q) (fun Γ h => ?_)
  refine g_lv [some _, some _, some _, some _, some _, _, _, _, _, _] rfl ?_
  rw [fX11_worstWith] at hf
  have loop6 : ∀ (j6 : Nat) (v5 : Int64) (v7 : Int32) (o8 : Option Value) (o9 : Option Value), lX11_worstWith_6  fu S0 v1 v2 v3 v4 j6 v5 v7 = some r → Γ 0 0 6 [some (.ref (a0 0)), some (.int v1), some (.int v2), some (.int v3), some (.int v4), some (.long v5), none, some (.int v7), o8, o9] [] (wRf E a0 S0) := by
    intro j6
    induction j6 with
    | zero => intro v5 v7 o8 o9 hf; exact gno hf
    | succ j6 ih6 =>
      intro v5 v7 o8 o9 hf
      rw [lX11_worstWith_6] at hf
      have jn72 : ∀ (v5 : Int64) (v7 : Int32) (s0 : Int64) (o8 : Option Value) (o9 : Option Value), jX11_worstWith_72 (lX11_worstWith_6  fu S0 v1 v2 v3 v4 j6) fu S0 v1 v2 v3 v4 v5 v7 s0 = some r → Γ 0 0 72 [some (.ref (a0 0)), some (.int v1), some (.int v2), some (.int v3), some (.int v4), some (.long v5), none, some (.int v7), o8, o9] [.long s0] (wRf E a0 S0) := by
        intro v5 v7 s0 o8 o9 hf
        rw [jX11_worstWith_72] at hf
        refine g_lstore (lv' := [some _, some _, some _, some _, some _, some _, none, some _, some _, none]) h dX11_worstWith_72 (by decide) rfl ?_
        refine g_lload h dX11_worstWith_74 rfl ?_
        refine g_lload h dX11_worstWith_76 rfl ?_
        refine g_lcmp h dX11_worstWith_78 ?_
        refine g_lif_le h dX11_worstWith_79 rfl (fun c79 => ?_) (fun c79 => ?_)
        · replace hf := ifp_t c79 hf
          refine g_lload h dX11_worstWith_87 rfl ?_
          refine g_lstore (lv' := [some _, some _, some _, some _, some _, some _, none, some _, some _, none]) h dX11_worstWith_89 (by decide) rfl ?_
          refine g_iinc (v := (v7 + 1)) (lv' := [some _, some _, some _, some _, some _, some _, none, some _, some _, none]) h dX11_worstWith_91 rfl rfl (by decide) rfl ?_
          refine g_goto h dX11_worstWith_94 rfl ?_
          exact ih6 _ _ _ _ hf
        · replace hf := ifp_f c79 hf
          refine g_lload h dX11_worstWith_82 rfl ?_
          refine g_goto h dX11_worstWith_84 rfl ?_
          refine g_lstore (lv' := [some _, some _, some _, some _, some _, some _, none, some _, some _, none]) h dX11_worstWith_89 (by decide) rfl ?_
          refine g_iinc (v := (v7 + 1)) (lv' := [some _, some _, some _, some _, some _, some _, none, some _, some _, none]) h dX11_worstWith_91 rfl rfl (by decide) rfl ?_
          refine g_goto h dX11_worstWith_94 rfl ?_
          exact ih6 _ _ _ _ hf
      refine g_iload h dX11_worstWith_6 rfl ?_
      refine g_bipush (v := 36) h dX11_worstWith_8 (by decide) ?_
      refine g_ic_ge h dX11_worstWith_10 rfl (fun c10 => ?_) (fun c10 => ?_)
      · replace hf := ifp_t c10 hf
        refine g_lload h dX11_worstWith_97 rfl ?_
        have er := Option.some.inj hf
        subst er
        exact g_lreturn h dX11_worstWith_99 rfl ⟨Nat.zero_le _, Nat.zero_le _, rfl, rfl, rfl⟩
      · replace hf := ifp_f c10 hf
        refine g_aload_n h dX11_worstWith_13 rfl ?_
        refine g_iload h dX11_worstWith_14 rfl ?_
        obtain ⟨r16, q16, hf⟩ := gbind hf
        refine g_cVr h (qX11_hasSpan (a0 := a0) q16) mX11_hasSpan lkX11_197 dX11_worstWith_16 rfl rfl ⟨Nat.zero_le _, Nat.zero_le _⟩ ⟨by decide, by decide⟩ (Nat.le_of_ble_eq_true rfl) [0, 1, 2, 3, 4, 5, 6, 7, 8, 9, 10, 11, 12, 13, 14, 15] rfl rfl 0 rfl rfl ?_
        refine g_ifb_ne h dX11_worstWith_19 rfl (fun c19 => ?_) (fun c19 => ?_)
        · replace hf := ifb_t c19 hf
          refine g_aload_n h dX11_worstWith_25 rfl ?_
          refine g_iload h dX11_worstWith_26 rfl ?_
          obtain ⟨r28, q28, hf⟩ := gbind hf
          refine g_cVr h (qX11_foretoldAt (a0 := a0) q28) mX11_foretoldAt lkX11_190 dX11_worstWith_28 rfl rfl ⟨Nat.zero_le _, Nat.zero_le _⟩ ⟨by decide, by decide⟩ (Nat.le_of_ble_eq_true rfl) [0, 1, 2, 3, 4, 5, 6, 7, 8, 9, 10, 11, 12, 13, 14, 15] rfl rfl 0 rfl rfl ?_
          refine g_aload_n h dX11_worstWith_31 rfl ?_
          refine g_iload_n h dX11_worstWith_32 rfl ?_
          refine g_iload_n h dX11_worstWith_33 rfl ?_
          refine g_iload h dX11_worstWith_34 rfl ?_
          obtain ⟨r36, q36, hf⟩ := gbind hf
          refine g_cVr h (qX11_mended (a0 := a0) q36) mX11_mended lkX11_203 dX11_worstWith_36 rfl rfl ⟨Nat.zero_le _, Nat.zero_le _⟩ ⟨by decide, by decide⟩ (Nat.le_of_ble_eq_true rfl) [0, 1, 2, 3, 4, 5, 6, 7, 8, 9, 10, 11, 12, 13, 14, 15] rfl rfl 0 rfl rfl ?_
          refine g_aload_n h dX11_worstWith_39 rfl ?_
          refine g_iload_n h dX11_worstWith_40 rfl ?_
          refine g_iload h dX11_worstWith_41 rfl ?_
          refine g_iload h dX11_worstWith_43 rfl ?_
          obtain ⟨r45, q45, hf⟩ := gbind hf
          refine g_cVr h (qX11_mended (a0 := a0) q45) mX11_mended lkX11_203 dX11_worstWith_45 rfl rfl ⟨Nat.zero_le _, Nat.zero_le _⟩ ⟨by decide, by decide⟩ (Nat.le_of_ble_eq_true rfl) [0, 1, 2, 3, 4, 5, 6, 7, 8, 9, 10, 11, 12, 13, 14, 15] rfl rfl 0 rfl rfl ?_
          refine g_ladd h dX11_worstWith_48 ?_
          refine g_aload_n h dX11_worstWith_49 rfl ?_
          refine g_get h flX11_146 dX11_worstWith_50 0 rfl rfl ?_
          refine g_lmul h dX11_worstWith_53 ?_
          refine g_ladd h dX11_worstWith_54 ?_
          refine g_lstore (lv' := [some _, some _, some _, some _, some _, some _, none, some _, some _, none]) h dX11_worstWith_55 (by decide) rfl ?_
          refine g_lload h dX11_worstWith_57 rfl ?_
          refine g_lconst (v := 0) h dX11_worstWith_59 (by decide) ?_
          refine g_lcmp h dX11_worstWith_60 ?_
          refine g_lif_ge h dX11_worstWith_61 rfl (fun c61 => ?_) (fun c61 => ?_)
          · replace hf := ifp_t c61 hf
            refine g_lload h dX11_worstWith_70 rfl ?_
            exact jn72 _ _ _ _ _ hf
          · replace hf := ifp_f c61 hf
            refine g_lload h dX11_worstWith_64 rfl ?_
            refine g_lneg h dX11_worstWith_66 ?_
            refine g_goto h dX11_worstWith_67 rfl ?_
            exact jn72 _ _ _ _ _ hf
        · replace hf := ifb_f c19 hf
          refine g_goto h dX11_worstWith_22 rfl ?_
          refine g_iinc (v := (v7 + 1)) (lv' := [some _, some _, some _, some _, some _, some _, none, some _, _, _]) h dX11_worstWith_91 rfl rfl (by decide) rfl ?_
          refine g_goto h dX11_worstWith_94 rfl ?_
          exact ih6 _ _ _ _ hf
  refine g_lconst (v := 0) h dX11_worstWith_0 (by decide) ?_
  refine g_lstore (lv' := [some _, some _, some _, some _, some _, some _, none, _, _, _]) h dX11_worstWith_1 (by decide) rfl ?_
  refine g_iconst (v := 0) h dX11_worstWith_3 (by decide) ?_
  refine g_istore (lv' := [some _, some _, some _, some _, some _, some _, none, some _, _, _]) h dX11_worstWith_4 (by decide) rfl ?_
  exact loop6 _ _ _ _ _ hf
def fX11_noWorst (fu : Nat) (S0 : gS)  : Option (Int64) := ((fX11_notFound fu S0).bind fun r1 => (if r1 = (0 : Int64) then ((fX11_spans fu S0).bind fun r17 => (if r17 = 0 then (some (-9000000000000000006 : Int64)) else (some (0 : Int64)))) else ((fX11_notFound fu S0).bind fun r10 => (some r10))))
set_option maxHeartbeats 4000000 in
set_option maxRecDepth 100000 in
theorem qX11_noWorst {l : Launch} {E : gE} {a0 : Nat → Nat} {fu : Nat} {S0 : gS}  {r : Int64} (hf : fX11_noWorst fu S0  = some r) : CtrF l yX11_noWorst cX11_noWorst 1 (some .long) (gR 2 43) E [.ref (a0 0)] (wRf E a0 S0) (some (.long r)) (wRf E a0 S0) := by
  refine ctr_of false (plainFor_of_name (by decide)) (Nat.le_of_ble_eq_true rfl) (fun q => by cases q) (fun Γ h => ?_)
  refine g_lv [some _] rfl ?_
  rw [fX11_noWorst] at hf
  refine g_aload_n h dX11_noWorst_0 rfl ?_
  obtain ⟨r1, q1, hf⟩ := gbind hf
  refine g_cVr h (qX11_notFound (a0 := a0) q1) mX11_notFound lkX11_180 dX11_noWorst_1 rfl rfl ⟨Nat.zero_le _, Nat.zero_le _⟩ ⟨by decide, by decide⟩ (Nat.le_of_ble_eq_true rfl) [0, 1, 2, 3, 4, 5, 6, 7, 8, 9, 10, 11, 12, 13, 14, 15] rfl rfl 0 rfl rfl ?_
  refine g_lconst (v := 0) h dX11_noWorst_4 (by decide) ?_
  refine g_lcmp h dX11_noWorst_5 ?_
  refine g_lif_eq h dX11_noWorst_6 rfl (fun c6 => ?_) (fun c6 => ?_)
  · replace hf := ifp_t c6 hf
    refine g_aload_n h dX11_noWorst_16 rfl ?_
    obtain ⟨r17, q17, hf⟩ := gbind hf
    refine g_cVr h (qX11_spans (a0 := a0) q17) mX11_spans lkX11_206 dX11_noWorst_17 rfl rfl ⟨Nat.zero_le _, Nat.zero_le _⟩ ⟨by decide, by decide⟩ (Nat.le_of_ble_eq_true rfl) [0, 1, 2, 3, 4, 5, 6, 7, 8, 9, 10, 11, 12, 13, 14, 15] rfl rfl 0 rfl rfl ?_
    refine g_if_ne h dX11_noWorst_20 rfl (fun c20 => ?_) (fun c20 => ?_)
    · replace hf := ifp_f c20 hf
      refine g_lconst (v := 0) h dX11_noWorst_29 (by decide) ?_
      have er := Option.some.inj hf
      subst er
      exact g_lreturn h dX11_noWorst_30 rfl ⟨Nat.zero_le _, Nat.zero_le _, rfl, rfl, rfl⟩
    · replace hf := ifp_t c20 hf
      refine g_ldc2 (v := (-9000000000000000006)) h dX11_noWorst_23 gcX11_176 ?_
      refine g_goto h dX11_noWorst_26 rfl ?_
      have er := Option.some.inj hf
      subst er
      exact g_lreturn h dX11_noWorst_30 rfl ⟨Nat.zero_le _, Nat.zero_le _, rfl, rfl, rfl⟩
  · replace hf := ifp_f c6 hf
    refine g_aload_n h dX11_noWorst_9 rfl ?_
    obtain ⟨r10, q10, hf⟩ := gbind hf
    refine g_cVr h (qX11_notFound (a0 := a0) q10) mX11_notFound lkX11_180 dX11_noWorst_10 rfl rfl ⟨Nat.zero_le _, Nat.zero_le _⟩ ⟨by decide, by decide⟩ (Nat.le_of_ble_eq_true rfl) [0, 1, 2, 3, 4, 5, 6, 7, 8, 9, 10, 11, 12, 13, 14, 15] rfl rfl 0 rfl rfl ?_
    refine g_goto h dX11_noWorst_13 rfl ?_
    have er := Option.some.inj hf
    subst er
    exact g_lreturn h dX11_noWorst_30 rfl ⟨Nat.zero_le _, Nat.zero_le _, rfl, rfl, rfl⟩
def fX11_worst (fu : Nat) (S0 : gS) (v1 : Bool) : Option (Int64 × gS) := ((fX11_noWorst fu S0).bind fun r1 => (if r1 = (0 : Int64) then ((fX11_worstWith fu S0 (-1 : Int32) (0 : Int32) (-1 : Int32) (0 : Int32)).bind fun r25 => ((fX11_part fu r25 (lF S0 18) v1).bind fun r33 => (some (r33, S0)))) else ((fX11_noWorst fu S0).bind fun r11 => ((fX11_tellFinding fu S0 r11).bind fun r14 => (some (r14.1, r14.2))))))
set_option maxHeartbeats 4000000 in
set_option maxRecDepth 100000 in
theorem qX11_worst {l : Launch} {E : gE} {a0 : Nat → Nat} {fu : Nat} {S0 : gS} {v1 : Bool} {r : Int64 × gS} (hf : fX11_worst fu S0 v1 = some r) : CtrF l yX11_worst cX11_worst 2 (some .long) (gR 3 81) E [.ref (a0 0), .int (bI v1)] (wRf E a0 S0) (some (.long r.1)) (wRf E a0 r.2) := by
  refine ctr_of false (plainFor_of_name (by decide)) (Nat.le_of_ble_eq_true rfl) (fun q => by cases q) (fun Γ h => ?_)
  refine g_lv [some _, some _] rfl ?_
  rw [fX11_worst] at hf
  refine g_aload_n h dX11_worst_0 rfl ?_
  obtain ⟨r1, q1, hf⟩ := gbind hf
  refine g_cVr h (qX11_noWorst (a0 := a0) q1) mX11_noWorst lkX11_210 dX11_worst_1 rfl rfl ⟨Nat.zero_le _, Nat.zero_le _⟩ ⟨by decide, by decide⟩ (Nat.le_of_ble_eq_true rfl) [0, 1, 2, 3, 4, 5, 6, 7, 8, 9, 10, 11, 12, 13, 14, 15] rfl rfl 0 rfl rfl ?_
  refine g_lconst (v := 0) h dX11_worst_4 (by decide) ?_
  refine g_lcmp h dX11_worst_5 ?_
  refine g_lif_eq h dX11_worst_6 rfl (fun c6 => ?_) (fun c6 => ?_)
  · replace hf := ifp_t c6 hf
    refine g_aload_n h dX11_worst_20 rfl ?_
    refine g_iconst (v := (-1)) h dX11_worst_21 (by decide) ?_
    refine g_iconst (v := 0) h dX11_worst_22 (by decide) ?_
    refine g_iconst (v := (-1)) h dX11_worst_23 (by decide) ?_
    refine g_iconst (v := 0) h dX11_worst_24 (by decide) ?_
    obtain ⟨r25, q25, hf⟩ := gbind hf
    refine g_cVr h (qX11_worstWith (a0 := a0) q25) mX11_worstWith lkX11_213 dX11_worst_25 rfl rfl ⟨Nat.zero_le _, Nat.zero_le _⟩ ⟨by decide, by decide⟩ (Nat.le_of_ble_eq_true rfl) [0, 1, 2, 3, 4, 5, 6, 7, 8, 9, 10, 11, 12, 13, 14, 15] rfl rfl 0 rfl rfl ?_
    refine g_aload_n h dX11_worst_28 rfl ?_
    refine g_get h flX11_146 dX11_worst_29 0 rfl rfl ?_
    refine g_iload_n h dX11_worst_32 rfl ?_
    obtain ⟨r33, q33, hf⟩ := gbind hf
    refine g_cSr h (qX11_part q33) mX11_part lkX11_186 dX11_worst_33 rfl rfl ⟨Nat.zero_le _, Nat.zero_le _⟩ ⟨by decide, by decide⟩ (Nat.le_of_ble_eq_true rfl) [] rfl rfl ?_
    have er := Option.some.inj hf
    subst er
    exact g_lreturn h dX11_worst_36 rfl ⟨Nat.zero_le _, Nat.zero_le _, rfl, rfl, rfl⟩
  · replace hf := ifp_f c6 hf
    refine g_aload_n h dX11_worst_9 rfl ?_
    refine g_aload_n h dX11_worst_10 rfl ?_
    obtain ⟨r11, q11, hf⟩ := gbind hf
    refine g_cVr h (qX11_noWorst (a0 := a0) q11) mX11_noWorst lkX11_210 dX11_worst_11 rfl rfl ⟨Nat.zero_le _, Nat.zero_le _⟩ ⟨by decide, by decide⟩ (Nat.le_of_ble_eq_true rfl) [0, 1, 2, 3, 4, 5, 6, 7, 8, 9, 10, 11, 12, 13, 14, 15] rfl rfl 0 rfl rfl ?_
    obtain ⟨r14, q14, hf⟩ := gbind hf
    refine g_cVw (ws' := wRf E a0 r14.2) h (qX11_tellFinding (a0 := a0) q14) mX11_tellFinding lkX11_64 dX11_worst_14 rfl rfl ⟨Nat.zero_le _, Nat.zero_le _⟩ ⟨by decide, by decide⟩ (Nat.le_of_ble_eq_true rfl) [0, 1, 2, 3, 4, 5, 6, 7, 8, 9, 10, 11, 12, 13, 14, 15] rfl rfl 0 rfl rfl mgX11_20 ?_
    refine g_goto h dX11_worst_17 rfl ?_
    have er := Option.some.inj hf
    subst er
    exact g_lreturn h dX11_worst_36 rfl ⟨Nat.zero_le _, Nat.zero_le _, rfl, rfl, rfl⟩
