def lX11_solve_211  (fu : Nat) (v1 : Int32) : Nat → (Int32) → (gS) → Option (Bool × gS)
  | 0, _, _ => none
  | j + 1, v2, S0 => (if (iF S0 20) ≤ v2 then (some (true, S0)) else ((fX11_whole fu S0 v2).bind fun r226 => ((gIx v2 4).bind fun k229 => ((some (sBu S0 24 k229 r226)).bind fun S0x229 => ((lX11_solve_211  fu v1 j) (v2 + 1) S0x229)))))
def lX11_solve_132 (k52 : (Int32) → (gS) → Option (Bool × gS)) (k83 : (Int32) → (Int32) → (Int32) → (gS) → Option (Bool × gS)) (fu : Nat) (v1 : Int32) : Nat → (Int32) → (Int32) → (Int32) → (Int64) → (Int32) → (gS) → Option (Bool × gS)
  | 0, _, _, _, _, _, _ => none
  | j + 1, v2, v3, v4, v5, v7, S0 => (if (iF S0 20) ≤ v7 then (k83 v2 v3 (v4 + 1) S0) else ((gIx (((4 : Int32) * v4) + v7) 16).bind fun k153 => ((gIx v7 4).bind fun k163 => ((fX11_shown fu S0 ((iA S0 21) k163) v3).bind fun r165 => ((some (sBu S0 22 k153 (((lA S0 22) k153) + (v5 * r165)))).bind fun S0x170 => ((lX11_solve_132 k52 k83 fu v1 j) v2 v3 v4 v5 (v7 + 1) S0x170))))))
def lX11_solve_83 (k52 : (Int32) → (gS) → Option (Bool × gS)) (fu : Nat) (v1 : Int32) : Nat → (Int32) → (Int32) → (Int32) → (gS) → Option (Bool × gS)
  | 0, _, _, _, _ => none
  | j + 1, v2, v3, v4, S0 => (if (iF S0 20) ≤ v4 then (k52 (v2 + 1) S0) else ((gIx v4 4).bind fun k99 => ((fX11_shown fu S0 ((iA S0 21) k99) v3).bind fun r101 => ((gIx ((52 : Int32) + v2) 160).bind fun k124 => ((some (sBu S0 23 k99 (((lA S0 23) k99) + (r101 * (((iA S0 0) k124).toInt64))))).bind fun S0x128 => (lX11_solve_132 k52 (lX11_solve_83 k52 fu v1 j) fu v1 fu v2 v3 v4 r101 (0 : Int32) S0x128))))))
def lX11_solve_52  (fu : Nat) (v1 : Int32) : Nat → (Int32) → (gS) → Option (Bool × gS)
  | 0, _, _ => none
  | j + 1, v2, S0 => (if ((iA S0 0) 1) ≤ v2 then ((fX11_whole fu S0 (-1 : Int32)).bind fun r192 => ((some (sL S0 25 r192)).bind fun S0x195 => (if (lF S0x195 25) = (0 : Int64) then (some (false, S0x195)) else (lX11_solve_211  fu v1 fu (0 : Int32) S0x195)))) else (if v2 = v1 then ((lX11_solve_52  fu v1 j) (v2 + 1) S0) else ((gIx ((32 : Int32) + v2) 160).bind fun k78 => (lX11_solve_83 (lX11_solve_52  fu v1 j) fu v1 fu v2 ((iA S0 0) k78) (0 : Int32) S0))))
def lX11_solve_19 (k2 : (Int32) → (gS) → Option (Bool × gS)) (fu : Nat) (v1 : Int32) : Nat → (Int32) → (Int32) → (gS) → Option (Bool × gS)
  | 0, _, _, _ => none
  | j + 1, v2, v3, S0 => (if (iF S0 20) ≤ v3 then (k2 (v2 + 1) S0) else ((gIx (((4 : Int32) * v2) + v3) 16).bind fun k37 => ((some (sBu S0 22 k37 (0 : Int64))).bind fun S0x37 => ((lX11_solve_19 k2 fu v1 j) v2 (v3 + 1) S0x37))))
def lX11_solve_2  (fu : Nat) (v1 : Int32) : Nat → (Int32) → (gS) → Option (Bool × gS)
  | 0, _, _ => none
  | j + 1, v2, S0 => (if (iF S0 20) ≤ v2 then (lX11_solve_52  fu v1 fu (0 : Int32) S0) else ((gIx v2 4).bind fun k16 => ((some (sBu S0 23 k16 (0 : Int64))).bind fun S0x16 => (lX11_solve_19 (lX11_solve_2  fu v1 j) fu v1 fu v2 (0 : Int32) S0x16))))
def fX11_solve (fu : Nat) (S0 : gS) (v1 : Int32) : Option (Bool × gS) := (lX11_solve_2  fu v1 fu (0 : Int32) S0)
set_option maxHeartbeats 4000000 in
set_option maxRecDepth 100000 in
theorem qX11_solve {l : Launch} {E : gE} {a0 : Nat → Nat} {fu : Nat} {S0 : gS} {v1 : Int32} {r : Bool × gS} (hf : fX11_solve fu S0 v1 = some r) : CtrF l yX11_solve cX11_solve 8 (some .boolean) (gR 4 96) E [.ref (a0 0), .int v1] (wRf E a0 S0) (some (.int (bI r.1))) (wRf E a0 r.2) := by
  refine ctr_of false (plainFor_of_name (by decide)) (Nat.le_of_ble_eq_true rfl) (fun q => by cases q) (fun Γ h => ?_)
  refine g_lv [some _, some _, _, _, _, _, _, _] rfl ?_
  rw [fX11_solve] at hf
  have loop211 : ∀ (j211 : Nat) (v2 : Int32) (S0 : gS) (o3 : Option Value) (o4 : Option Value) (o5 : Option Value) (o6 : Option Value) (o7 : Option Value), lX11_solve_211  fu v1 j211 v2 S0 = some r → Γ 0 0 211 [some (.ref (a0 0)), some (.int v1), some (.int v2), o3, o4, o5, o6, o7] [] (wRf E a0 S0) := by
    intro j211
    induction j211 with
    | zero => intro v2 S0 o3 o4 o5 o6 o7 hf; exact gno hf
    | succ j211 ih211 =>
      intro v2 S0 o3 o4 o5 o6 o7 hf
      rw [lX11_solve_211] at hf
      refine g_iload_n h dX11_solve_211 rfl ?_
      refine g_aload_n h dX11_solve_212 rfl ?_
      refine g_get h flX11_101 dX11_solve_213 0 rfl rfl ?_
      refine g_ic_ge h dX11_solve_216 rfl (fun c216 => ?_) (fun c216 => ?_)
      · replace hf := ifp_t c216 hf
        refine g_iconst (v := 1) h dX11_solve_236 (by decide) ?_
        have er := Option.some.inj hf
        subst er
        exact g_ireturn h dX11_solve_237 rfl rfl ⟨Nat.zero_le _, Nat.zero_le _, rfl, rfl, rfl⟩
      · replace hf := ifp_f c216 hf
        refine g_aload_n h dX11_solve_219 rfl ?_
        refine g_get h flX11_50 dX11_solve_220 0 rfl rfl ?_
        refine g_iload_n h dX11_solve_223 rfl ?_
        refine g_aload_n h dX11_solve_224 rfl ?_
        refine g_iload_n h dX11_solve_225 rfl ?_
        obtain ⟨r226, q226, hf⟩ := gbind hf
        refine g_cVr h (qX11_whole (a0 := a0) q226) mX11_whole lkX11_117 dX11_solve_226 rfl rfl ⟨Nat.zero_le _, Nat.zero_le _⟩ ⟨by decide, by decide⟩ (Nat.le_of_ble_eq_true rfl) [0, 1, 2, 3, 4, 5, 6, 7, 8, 9, 10, 11, 12, 13, 14, 15] rfl rfl 0 rfl rfl ?_
        obtain ⟨k229, q229, hf⟩ := gbind hf
        have e229 := (gIx_s q229).1
        have b229 := (gIx_s q229).2
        obtain ⟨S0x229, w229, hf⟩ := gbind hf
        refine g_last (ws' := wRf E a0 S0x229) h dX11_solve_229 14 k229 rfl e229 b229 (by decide) (by cases w229; rfl) ?_
        refine g_iinc (v := (v2 + 1)) (lv' := [some _, some _, some _, _, _, _, _, _]) h dX11_solve_230 rfl rfl (by decide) rfl ?_
        refine g_goto h dX11_solve_233 rfl ?_
        exact ih211 _ _ _ _ _ _ _ hf
  have loop52 : ∀ (j52 : Nat) (v2 : Int32) (S0 : gS) (o3 : Option Value) (o4 : Option Value) (o5 : Option Value) (o6 : Option Value) (o7 : Option Value), lX11_solve_52  fu v1 j52 v2 S0 = some r → Γ 0 0 52 [some (.ref (a0 0)), some (.int v1), some (.int v2), o3, o4, o5, o6, o7] [] (wRf E a0 S0) := by
    intro j52
    induction j52 with
    | zero => intro v2 S0 o3 o4 o5 o6 o7 hf; exact gno hf
    | succ j52 ih52 =>
      intro v2 S0 o3 o4 o5 o6 o7 hf
      rw [lX11_solve_52] at hf
      have loop83 : ∀ (j83 : Nat) (v2 : Int32) (v3 : Int32) (v4 : Int32) (S0 : gS) (o5 : Option Value) (o6 : Option Value) (o7 : Option Value), lX11_solve_83 (lX11_solve_52  fu v1 j52) fu v1 j83 v2 v3 v4 S0 = some r → Γ 0 0 83 [some (.ref (a0 0)), some (.int v1), some (.int v2), some (.int v3), some (.int v4), o5, o6, o7] [] (wRf E a0 S0) := by
        intro j83
        induction j83 with
        | zero => intro v2 v3 v4 S0 o5 o6 o7 hf; exact gno hf
        | succ j83 ih83 =>
          intro v2 v3 v4 S0 o5 o6 o7 hf
          rw [lX11_solve_83] at hf
          have loop132 : ∀ (j132 : Nat) (v2 : Int32) (v3 : Int32) (v4 : Int32) (v5 : Int64) (v7 : Int32) (S0 : gS) , lX11_solve_132 (lX11_solve_52  fu v1 j52) (lX11_solve_83 (lX11_solve_52  fu v1 j52) fu v1 j83) fu v1 j132 v2 v3 v4 v5 v7 S0 = some r → Γ 0 0 132 [some (.ref (a0 0)), some (.int v1), some (.int v2), some (.int v3), some (.int v4), some (.long v5), none, some (.int v7)] [] (wRf E a0 S0) := by
            intro j132
            induction j132 with
            | zero => intro v2 v3 v4 v5 v7 S0 hf; exact gno hf
            | succ j132 ih132 =>
              intro v2 v3 v4 v5 v7 S0 hf
              rw [lX11_solve_132] at hf
              refine g_iload h dX11_solve_132 rfl ?_
              refine g_aload_n h dX11_solve_134 rfl ?_
              refine g_get h flX11_101 dX11_solve_135 0 rfl rfl ?_
              refine g_ic_ge h dX11_solve_138 rfl (fun c138 => ?_) (fun c138 => ?_)
              · replace hf := ifp_t c138 hf
                refine g_iinc (v := (v4 + 1)) (lv' := [some _, some _, some _, some _, some _, some _, none, some _]) h dX11_solve_177 rfl rfl (by decide) rfl ?_
                refine g_goto h dX11_solve_180 rfl ?_
                exact ih83 _ _ _ _ _ _ _ hf
              · replace hf := ifp_f c138 hf
                refine g_aload_n h dX11_solve_141 rfl ?_
                refine g_get h flX11_44 dX11_solve_142 0 rfl rfl ?_
                refine g_iconst (v := 4) h dX11_solve_145 (by decide) ?_
                refine g_iload h dX11_solve_146 rfl ?_
                refine g_imul h dX11_solve_148 ?_
                refine g_iload h dX11_solve_149 rfl ?_
                refine g_iadd h dX11_solve_151 ?_
                refine g_dup2_11 h dX11_solve_152 rfl rfl ?_
                obtain ⟨k153, q153, hf⟩ := gbind hf
                have e153 := (gIx_s q153).1
                have b153 := (gIx_s q153).2
                refine g_lald h dX11_solve_153 12 k153 rfl e153 b153 (by decide) ?_
                refine g_lload h dX11_solve_154 rfl ?_
                refine g_aload_n h dX11_solve_156 rfl ?_
                refine g_aload_n h dX11_solve_157 rfl ?_
                refine g_get h flX11_41 dX11_solve_158 0 rfl rfl ?_
                refine g_iload h dX11_solve_161 rfl ?_
                obtain ⟨k163, q163, hf⟩ := gbind hf
                have e163 := (gIx_s q163).1
                have b163 := (gIx_s q163).2
                refine g_iald h dX11_solve_163 11 k163 rfl e163 b163 (by decide) ?_
                refine g_iload_n h dX11_solve_164 rfl ?_
                obtain ⟨r165, q165, hf⟩ := gbind hf
                refine g_cVr h (qX11_shown (a0 := a0) q165) mX11_shown lkX11_81 dX11_solve_165 rfl rfl ⟨Nat.zero_le _, Nat.zero_le _⟩ ⟨by decide, by decide⟩ (Nat.le_of_ble_eq_true rfl) [0, 1, 2, 3, 4, 5, 6, 7, 8, 9, 10, 11, 12, 13, 14, 15] rfl rfl 0 rfl rfl ?_
                refine g_lmul h dX11_solve_168 ?_
                refine g_ladd h dX11_solve_169 ?_
                obtain ⟨S0x170, w170, hf⟩ := gbind hf
                refine g_last (ws' := wRf E a0 S0x170) h dX11_solve_170 12 k153 rfl e153 b153 (by decide) (by cases w170; rfl) ?_
                refine g_iinc (v := (v7 + 1)) (lv' := [some _, some _, some _, some _, some _, some _, none, some _]) h dX11_solve_171 rfl rfl (by decide) rfl ?_
                refine g_goto h dX11_solve_174 rfl ?_
                exact ih132 _ _ _ _ _ _ hf
          refine g_iload h dX11_solve_83 rfl ?_
          refine g_aload_n h dX11_solve_85 rfl ?_
          refine g_get h flX11_101 dX11_solve_86 0 rfl rfl ?_
          refine g_ic_ge h dX11_solve_89 rfl (fun c89 => ?_) (fun c89 => ?_)
          · replace hf := ifp_t c89 hf
            refine g_iinc (v := (v2 + 1)) (lv' := [some _, some _, some _, some _, some _, _, _, _]) h dX11_solve_183 rfl rfl (by decide) rfl ?_
            refine g_goto h dX11_solve_186 rfl ?_
            exact ih52 _ _ _ _ _ _ _ hf
          · replace hf := ifp_f c89 hf
            refine g_aload_n h dX11_solve_92 rfl ?_
            refine g_aload_n h dX11_solve_93 rfl ?_
            refine g_get h flX11_41 dX11_solve_94 0 rfl rfl ?_
            refine g_iload h dX11_solve_97 rfl ?_
            obtain ⟨k99, q99, hf⟩ := gbind hf
            have e99 := (gIx_s q99).1
            have b99 := (gIx_s q99).2
            refine g_iald h dX11_solve_99 11 k99 rfl e99 b99 (by decide) ?_
            refine g_iload_n h dX11_solve_100 rfl ?_
            obtain ⟨r101, q101, hf⟩ := gbind hf
            refine g_cVr h (qX11_shown (a0 := a0) q101) mX11_shown lkX11_81 dX11_solve_101 rfl rfl ⟨Nat.zero_le _, Nat.zero_le _⟩ ⟨by decide, by decide⟩ (Nat.le_of_ble_eq_true rfl) [0, 1, 2, 3, 4, 5, 6, 7, 8, 9, 10, 11, 12, 13, 14, 15] rfl rfl 0 rfl rfl ?_
            refine g_lstore (lv' := [some _, some _, some _, some _, some _, some _, none, _]) h dX11_solve_104 (by decide) rfl ?_
            refine g_aload_n h dX11_solve_106 rfl ?_
            refine g_get h flX11_47 dX11_solve_107 0 rfl rfl ?_
            refine g_iload h dX11_solve_110 rfl ?_
            refine g_dup2_11 h dX11_solve_112 rfl rfl ?_
            refine g_lald h dX11_solve_113 13 k99 rfl e99 b99 (by decide) ?_
            refine g_lload h dX11_solve_114 rfl ?_
            refine g_aload_n h dX11_solve_116 rfl ?_
            refine g_get h flX11_9 dX11_solve_117 0 rfl rfl ?_
            refine g_bipush (v := 52) h dX11_solve_120 (by decide) ?_
            refine g_iload_n h dX11_solve_122 rfl ?_
            refine g_iadd h dX11_solve_123 ?_
            obtain ⟨k124, q124, hf⟩ := gbind hf
            have e124 := (gIx_s q124).1
            have b124 := (gIx_s q124).2
            refine g_iald h dX11_solve_124 1 k124 rfl e124 b124 (by decide) ?_
            refine g_i2l h dX11_solve_125 ?_
            refine g_lmul h dX11_solve_126 ?_
            refine g_ladd h dX11_solve_127 ?_
            obtain ⟨S0x128, w128, hf⟩ := gbind hf
            refine g_last (ws' := wRf E a0 S0x128) h dX11_solve_128 13 k99 rfl e99 b99 (by decide) (by cases w128; rfl) ?_
            refine g_iconst (v := 0) h dX11_solve_129 (by decide) ?_
            refine g_istore (lv' := [some _, some _, some _, some _, some _, some _, none, some _]) h dX11_solve_130 (by decide) rfl ?_
            exact loop132 _ _ _ _ _ _ _  hf
      refine g_iload_n h dX11_solve_52 rfl ?_
      refine g_aload_n h dX11_solve_53 rfl ?_
      refine g_get h flX11_9 dX11_solve_54 0 rfl rfl ?_
      refine g_iconst (v := 1) h dX11_solve_57 (by decide) ?_
      refine g_iald h dX11_solve_58 1 1 rfl rfl (by decide) (by decide) ?_
      refine g_ic_ge h dX11_solve_59 rfl (fun c59 => ?_) (fun c59 => ?_)
      · replace hf := ifp_t c59 hf
        refine g_aload_n h dX11_solve_189 rfl ?_
        refine g_aload_n h dX11_solve_190 rfl ?_
        refine g_iconst (v := (-1)) h dX11_solve_191 (by decide) ?_
        obtain ⟨r192, q192, hf⟩ := gbind hf
        refine g_cVr h (qX11_whole (a0 := a0) q192) mX11_whole lkX11_117 dX11_solve_192 rfl rfl ⟨Nat.zero_le _, Nat.zero_le _⟩ ⟨by decide, by decide⟩ (Nat.le_of_ble_eq_true rfl) [0, 1, 2, 3, 4, 5, 6, 7, 8, 9, 10, 11, 12, 13, 14, 15] rfl rfl 0 rfl rfl ?_
        obtain ⟨S0x195, q195, hf⟩ := gbind hf
        refine g_put (ws' := wRf E a0 S0x195) (ty := .long) h flX11_121 gftX11 rfl (by decide +kernel) dX11_solve_195 0 rfl rfl rfl (Nat.le_of_ble_eq_true rfl) (by cases q195; rfl) ?_
        refine g_aload_n h dX11_solve_198 rfl ?_
        refine g_get h flX11_121 dX11_solve_199 0 rfl rfl ?_
        refine g_lconst (v := 0) h dX11_solve_202 (by decide) ?_
        refine g_lcmp h dX11_solve_203 ?_
        refine g_lif_ne h dX11_solve_204 rfl (fun c204 => ?_) (fun c204 => ?_)
        · replace hf := ifp_f c204 hf
          refine g_iconst (v := 0) h dX11_solve_209 (by decide) ?_
          refine g_istore_n (lv' := [some _, some _, some _, _, _, _, _, _]) h dX11_solve_210 (by decide) rfl ?_
          exact loop211 _ _ _ _ _ _ _ _ hf
        · replace hf := ifp_t c204 hf
          refine g_iconst (v := 0) h dX11_solve_207 (by decide) ?_
          have er := Option.some.inj hf
          subst er
          exact g_ireturn h dX11_solve_208 rfl rfl ⟨Nat.zero_le _, Nat.zero_le _, rfl, rfl, rfl⟩
      · replace hf := ifp_f c59 hf
        refine g_iload_n h dX11_solve_62 rfl ?_
        refine g_iload_n h dX11_solve_63 rfl ?_
        refine g_ic_ne h dX11_solve_64 rfl (fun c64 => ?_) (fun c64 => ?_)
        · replace hf := ifp_f c64 hf
          refine g_aload_n h dX11_solve_70 rfl ?_
          refine g_get h flX11_9 dX11_solve_71 0 rfl rfl ?_
          refine g_bipush (v := 32) h dX11_solve_74 (by decide) ?_
          refine g_iload_n h dX11_solve_76 rfl ?_
          refine g_iadd h dX11_solve_77 ?_
          obtain ⟨k78, q78, hf⟩ := gbind hf
          have e78 := (gIx_s q78).1
          have b78 := (gIx_s q78).2
          refine g_iald h dX11_solve_78 1 k78 rfl e78 b78 (by decide) ?_
          refine g_istore_n (lv' := [some _, some _, some _, some _, _, _, _, _]) h dX11_solve_79 (by decide) rfl ?_
          refine g_iconst (v := 0) h dX11_solve_80 (by decide) ?_
          refine g_istore (lv' := [some _, some _, some _, some _, some _, _, _, _]) h dX11_solve_81 (by decide) rfl ?_
          exact loop83 _ _ _ _ _ _ _ _ hf
        · replace hf := ifp_t c64 hf
          refine g_goto h dX11_solve_67 rfl ?_
          refine g_iinc (v := (v2 + 1)) (lv' := [some _, some _, some _, _, _, _, _, _]) h dX11_solve_183 rfl rfl (by decide) rfl ?_
          refine g_goto h dX11_solve_186 rfl ?_
          exact ih52 _ _ _ _ _ _ _ hf
  have loop2 : ∀ (j2 : Nat) (v2 : Int32) (S0 : gS) (o3 : Option Value) (o4 : Option Value) (o5 : Option Value) (o6 : Option Value) (o7 : Option Value), lX11_solve_2  fu v1 j2 v2 S0 = some r → Γ 0 0 2 [some (.ref (a0 0)), some (.int v1), some (.int v2), o3, o4, o5, o6, o7] [] (wRf E a0 S0) := by
    intro j2
    induction j2 with
    | zero => intro v2 S0 o3 o4 o5 o6 o7 hf; exact gno hf
    | succ j2 ih2 =>
      intro v2 S0 o3 o4 o5 o6 o7 hf
      rw [lX11_solve_2] at hf
      have loop19 : ∀ (j19 : Nat) (v2 : Int32) (v3 : Int32) (S0 : gS) (o4 : Option Value) (o5 : Option Value) (o6 : Option Value) (o7 : Option Value), lX11_solve_19 (lX11_solve_2  fu v1 j2) fu v1 j19 v2 v3 S0 = some r → Γ 0 0 19 [some (.ref (a0 0)), some (.int v1), some (.int v2), some (.int v3), o4, o5, o6, o7] [] (wRf E a0 S0) := by
        intro j19
        induction j19 with
        | zero => intro v2 v3 S0 o4 o5 o6 o7 hf; exact gno hf
        | succ j19 ih19 =>
          intro v2 v3 S0 o4 o5 o6 o7 hf
          rw [lX11_solve_19] at hf
          refine g_iload_n h dX11_solve_19 rfl ?_
          refine g_aload_n h dX11_solve_20 rfl ?_
          refine g_get h flX11_101 dX11_solve_21 0 rfl rfl ?_
          refine g_ic_ge h dX11_solve_24 rfl (fun c24 => ?_) (fun c24 => ?_)
          · replace hf := ifp_t c24 hf
            refine g_iinc (v := (v2 + 1)) (lv' := [some _, some _, some _, some _, _, _, _, _]) h dX11_solve_44 rfl rfl (by decide) rfl ?_
            refine g_goto h dX11_solve_47 rfl ?_
            exact ih2 _ _ _ _ _ _ _ hf
          · replace hf := ifp_f c24 hf
            refine g_aload_n h dX11_solve_27 rfl ?_
            refine g_get h flX11_44 dX11_solve_28 0 rfl rfl ?_
            refine g_iconst (v := 4) h dX11_solve_31 (by decide) ?_
            refine g_iload_n h dX11_solve_32 rfl ?_
            refine g_imul h dX11_solve_33 ?_
            refine g_iload_n h dX11_solve_34 rfl ?_
            refine g_iadd h dX11_solve_35 ?_
            refine g_lconst (v := 0) h dX11_solve_36 (by decide) ?_
            obtain ⟨k37, q37, hf⟩ := gbind hf
            have e37 := (gIx_s q37).1
            have b37 := (gIx_s q37).2
            obtain ⟨S0x37, w37, hf⟩ := gbind hf
            refine g_last (ws' := wRf E a0 S0x37) h dX11_solve_37 12 k37 rfl e37 b37 (by decide) (by cases w37; rfl) ?_
            refine g_iinc (v := (v3 + 1)) (lv' := [some _, some _, some _, some _, _, _, _, _]) h dX11_solve_38 rfl rfl (by decide) rfl ?_
            refine g_goto h dX11_solve_41 rfl ?_
            exact ih19 _ _ _ _ _ _ _ hf
      refine g_iload_n h dX11_solve_2 rfl ?_
      refine g_aload_n h dX11_solve_3 rfl ?_
      refine g_get h flX11_101 dX11_solve_4 0 rfl rfl ?_
      refine g_ic_ge h dX11_solve_7 rfl (fun c7 => ?_) (fun c7 => ?_)
      · replace hf := ifp_t c7 hf
        refine g_iconst (v := 0) h dX11_solve_50 (by decide) ?_
        refine g_istore_n (lv' := [some _, some _, some _, _, _, _, _, _]) h dX11_solve_51 (by decide) rfl ?_
        exact loop52 _ _ _ _ _ _ _ _ hf
      · replace hf := ifp_f c7 hf
        refine g_aload_n h dX11_solve_10 rfl ?_
        refine g_get h flX11_47 dX11_solve_11 0 rfl rfl ?_
        refine g_iload_n h dX11_solve_14 rfl ?_
        refine g_lconst (v := 0) h dX11_solve_15 (by decide) ?_
        obtain ⟨k16, q16, hf⟩ := gbind hf
        have e16 := (gIx_s q16).1
        have b16 := (gIx_s q16).2
        obtain ⟨S0x16, w16, hf⟩ := gbind hf
        refine g_last (ws' := wRf E a0 S0x16) h dX11_solve_16 13 k16 rfl e16 b16 (by decide) (by cases w16; rfl) ?_
        refine g_iconst (v := 0) h dX11_solve_17 (by decide) ?_
        refine g_istore_n (lv' := [some _, some _, some _, some _, _, _, _, _]) h dX11_solve_18 (by decide) rfl ?_
        exact loop19 _ _ _ _ _ _ _ _ hf
  refine g_iconst (v := 0) h dX11_solve_0 (by decide) ?_
  refine g_istore_n (lv' := [some _, some _, some _, _, _, _, _, _]) h dX11_solve_1 (by decide) rfl ?_
  exact loop2 _ _ _ _ _ _ _ _ hf
def lX11_sumLeft_54  (fu : Nat) (S0 : gS) : Nat → (Int64) → (Int32) → Option (Int64)
  | 0, _, _ => none
  | j + 1, v3, v5 => (if (iF S0 20) ≤ v5 then (some v3) else ((gIx v5 4).bind fun k70 => ((lX11_sumLeft_54  fu S0 j) (v3 - (((lA S0 24) k70) * ((lA S0 23) k70))) (v5 + 1))))
def lX11_sumLeft_4  (fu : Nat) (S0 : gS) : Nat → (Int64) → (Int32) → Option (Int64)
  | 0, _, _ => none
  | j + 1, v1, v3 => (if ((iA S0 0) 1) ≤ v3 then (lX11_sumLeft_54  fu S0 fu (v1 * (lF S0 25)) (0 : Int32)) else ((gIx ((52 : Int32) + v3) 160).bind fun k23 => ((lX11_sumLeft_4  fu S0 j) (v1 + ((((iA S0 0) k23).toInt64) * (((iA S0 0) k23).toInt64))) (v3 + 1))))
def fX11_sumLeft (fu : Nat) (S0 : gS)  : Option (Int64) := (lX11_sumLeft_4  fu S0 fu (0 : Int64) (0 : Int32))
set_option maxHeartbeats 4000000 in
set_option maxRecDepth 100000 in
theorem qX11_sumLeft {l : Launch} {E : gE} {a0 : Nat → Nat} {fu : Nat} {S0 : gS}  {r : Int64} (hf : fX11_sumLeft fu S0  = some r) : CtrF l yX11_sumLeft cX11_sumLeft 6 (some .long) (gR 0 0) E [.ref (a0 0)] (wRf E a0 S0) (some (.long r)) (wRf E a0 S0) := by
  refine ctr_of false (plainFor_of_name (by decide)) (Nat.le_of_ble_eq_true rfl) (fun q => by cases q) (fun Γ h => ?_)
  refine g_lv [some _, _, _, _, _, _] rfl ?_
  rw [fX11_sumLeft] at hf
  have loop54 : ∀ (j54 : Nat) (v3 : Int64) (v5 : Int32) (o1 : Option Value) (o2 : Option Value), lX11_sumLeft_54  fu S0 j54 v3 v5 = some r → Γ 0 0 54 [some (.ref (a0 0)), o1, o2, some (.long v3), none, some (.int v5)] [] (wRf E a0 S0) := by
    intro j54
    induction j54 with
    | zero => intro v3 v5 o1 o2 hf; exact gno hf
    | succ j54 ih54 =>
      intro v3 v5 o1 o2 hf
      rw [lX11_sumLeft_54] at hf
      refine g_iload h dX11_sumLeft_54 rfl ?_
      refine g_aload_n h dX11_sumLeft_56 rfl ?_
      refine g_get h flX11_101 dX11_sumLeft_57 0 rfl rfl ?_
      refine g_ic_ge h dX11_sumLeft_60 rfl (fun c60 => ?_) (fun c60 => ?_)
      · replace hf := ifp_t c60 hf
        refine g_lload_n h dX11_sumLeft_87 rfl ?_
        have er := Option.some.inj hf
        subst er
        exact g_lreturn h dX11_sumLeft_88 rfl ⟨Nat.zero_le _, Nat.zero_le _, rfl, rfl, rfl⟩
      · replace hf := ifp_f c60 hf
        refine g_lload_n h dX11_sumLeft_63 rfl ?_
        refine g_aload_n h dX11_sumLeft_64 rfl ?_
        refine g_get h flX11_50 dX11_sumLeft_65 0 rfl rfl ?_
        refine g_iload h dX11_sumLeft_68 rfl ?_
        obtain ⟨k70, q70, hf⟩ := gbind hf
        have e70 := (gIx_s q70).1
        have b70 := (gIx_s q70).2
        refine g_lald h dX11_sumLeft_70 14 k70 rfl e70 b70 (by decide) ?_
        refine g_aload_n h dX11_sumLeft_71 rfl ?_
        refine g_get h flX11_47 dX11_sumLeft_72 0 rfl rfl ?_
        refine g_iload h dX11_sumLeft_75 rfl ?_
        refine g_lald h dX11_sumLeft_77 13 k70 rfl e70 b70 (by decide) ?_
        refine g_lmul h dX11_sumLeft_78 ?_
        refine g_lsub h dX11_sumLeft_79 ?_
        refine g_lstore_n (lv' := [some _, _, _, some _, none, some _]) h dX11_sumLeft_80 (by decide) rfl ?_
        refine g_iinc (v := (v5 + 1)) (lv' := [some _, _, _, some _, none, some _]) h dX11_sumLeft_81 rfl rfl (by decide) rfl ?_
        refine g_goto h dX11_sumLeft_84 rfl ?_
        exact ih54 _ _ _ _ hf
  have loop4 : ∀ (j4 : Nat) (v1 : Int64) (v3 : Int32) (o4 : Option Value) (o5 : Option Value), lX11_sumLeft_4  fu S0 j4 v1 v3 = some r → Γ 0 0 4 [some (.ref (a0 0)), some (.long v1), none, some (.int v3), o4, o5] [] (wRf E a0 S0) := by
    intro j4
    induction j4 with
    | zero => intro v1 v3 o4 o5 hf; exact gno hf
    | succ j4 ih4 =>
      intro v1 v3 o4 o5 hf
      rw [lX11_sumLeft_4] at hf
      refine g_iload_n h dX11_sumLeft_4 rfl ?_
      refine g_aload_n h dX11_sumLeft_5 rfl ?_
      refine g_get h flX11_9 dX11_sumLeft_6 0 rfl rfl ?_
      refine g_iconst (v := 1) h dX11_sumLeft_9 (by decide) ?_
      refine g_iald h dX11_sumLeft_10 1 1 rfl rfl (by decide) (by decide) ?_
      refine g_ic_ge h dX11_sumLeft_11 rfl (fun c11 => ?_) (fun c11 => ?_)
      · replace hf := ifp_t c11 hf
        refine g_lload_n h dX11_sumLeft_44 rfl ?_
        refine g_aload_n h dX11_sumLeft_45 rfl ?_
        refine g_get h flX11_121 dX11_sumLeft_46 0 rfl rfl ?_
        refine g_lmul h dX11_sumLeft_49 ?_
        refine g_lstore_n (lv' := [some _, some _, none, some _, none, _]) h dX11_sumLeft_50 (by decide) rfl ?_
        refine g_iconst (v := 0) h dX11_sumLeft_51 (by decide) ?_
        refine g_istore (lv' := [some _, some _, none, some _, none, some _]) h dX11_sumLeft_52 (by decide) rfl ?_
        exact loop54 _ _ _ _ _ hf
      · replace hf := ifp_f c11 hf
        refine g_lload_n h dX11_sumLeft_14 rfl ?_
        refine g_aload_n h dX11_sumLeft_15 rfl ?_
        refine g_get h flX11_9 dX11_sumLeft_16 0 rfl rfl ?_
        refine g_bipush (v := 52) h dX11_sumLeft_19 (by decide) ?_
        refine g_iload_n h dX11_sumLeft_21 rfl ?_
        refine g_iadd h dX11_sumLeft_22 ?_
        obtain ⟨k23, q23, hf⟩ := gbind hf
        have e23 := (gIx_s q23).1
        have b23 := (gIx_s q23).2
        refine g_iald h dX11_sumLeft_23 1 k23 rfl e23 b23 (by decide) ?_
        refine g_i2l h dX11_sumLeft_24 ?_
        refine g_aload_n h dX11_sumLeft_25 rfl ?_
        refine g_get h flX11_9 dX11_sumLeft_26 0 rfl rfl ?_
        refine g_bipush (v := 52) h dX11_sumLeft_29 (by decide) ?_
        refine g_iload_n h dX11_sumLeft_31 rfl ?_
        refine g_iadd h dX11_sumLeft_32 ?_
        refine g_iald h dX11_sumLeft_33 1 k23 rfl e23 b23 (by decide) ?_
        refine g_i2l h dX11_sumLeft_34 ?_
        refine g_lmul h dX11_sumLeft_35 ?_
        refine g_ladd h dX11_sumLeft_36 ?_
        refine g_lstore_n (lv' := [some _, some _, none, some _, _, _]) h dX11_sumLeft_37 (by decide) rfl ?_
        refine g_iinc (v := (v3 + 1)) (lv' := [some _, some _, none, some _, _, _]) h dX11_sumLeft_38 rfl rfl (by decide) rfl ?_
        refine g_goto h dX11_sumLeft_41 rfl ?_
        exact ih4 _ _ _ _ hf
  refine g_lconst (v := 0) h dX11_sumLeft_0 (by decide) ?_
  refine g_lstore_n (lv' := [some _, some _, none, _, _, _]) h dX11_sumLeft_1 (by decide) rfl ?_
  refine g_iconst (v := 0) h dX11_sumLeft_2 (by decide) ?_
  refine g_istore_n (lv' := [some _, some _, none, some _, _, _]) h dX11_sumLeft_3 (by decide) rfl ?_
  exact loop4 _ _ _ _ _ hf
def lX11_rank_240 (k85 : (Int32) → (Int32) → (Int32) → (gS) → Option (Int32 × gS)) (k212 : (Int32) → (Int32) → (Int32) → (Int32) → (gS) → Option (Int32 × gS)) (fu : Nat) (v1 : Int32) : Nat → (Int32) → (Int32) → (Int32) → (Int32) → (Int64) → (Int32) → (gS) → Option (Int32 × gS)
  | 0, _, _, _, _, _, _, _ => none
  | j + 1, v2, v3, v4, v6, v7, v9, S0 => (if v2 ≤ v9 then (k212 v2 v3 v4 (v6 + 1) S0) else ((gIx (((4 : Int32) * v6) + v9) 80).bind fun k268 => ((gIx (((4 : Int32) * v3) + v4) 80).bind fun k279 => ((gIx (((4 : Int32) * v3) + v9) 80).bind fun k291 => ((some (sBu S0 26 k268 ((((lA S0 26) k268) * ((lA S0 26) k279)) - (((lA S0 26) k291) * v7)))).bind fun S0x296 => ((lX11_rank_240 k85 k212 fu v1 j) v2 v3 v4 v6 v7 (v9 + 1) S0x296))))))
def lX11_rank_212 (k85 : (Int32) → (Int32) → (Int32) → (gS) → Option (Int32 × gS)) (fu : Nat) (v1 : Int32) : Nat → (Int32) → (Int32) → (Int32) → (Int32) → (gS) → Option (Int32 × gS)
  | 0, _, _, _, _, _ => none
  | j + 1, v2, v3, v4, v6, S0 => (if ((iA S0 0) 1) ≤ v6 then (k85 v2 (v3 + 1) (v4 + 1) S0) else ((gIx (((4 : Int32) * v6) + v4) 80).bind fun k234 => (lX11_rank_240 k85 (lX11_rank_212 k85 fu v1 j) fu v1 fu v2 v3 v4 v6 ((lA S0 26) k234) (0 : Int32) S0)))
def lX11_rank_145 (k85 : (Int32) → (Int32) → (Int32) → (gS) → Option (Int32 × gS)) (fu : Nat) (v1 : Int32) : Nat → (Int32) → (Int32) → (Int32) → (Int32) → (Int32) → (gS) → Option (Int32 × gS)
  | 0, _, _, _, _, _, _ => none
  | j + 1, v2, v3, v4, v5, v6, S0 => (if v2 ≤ v6 then (lX11_rank_212 k85 fu v1 fu v2 v3 v4 (v3 + (1 : Int32)) S0) else ((gIx (((4 : Int32) * v5) + v6) 80).bind fun k162 => ((gIx (((4 : Int32) * v3) + v6) 80).bind fun k186 => ((some (sBu S0 26 k162 ((lA S0 26) k186))).bind fun S0x187 => ((some (sBu S0x187 26 k186 ((lA S0 26) k162))).bind fun S0x200 => ((lX11_rank_145 k85 fu v1 j) v2 v3 v4 v5 (v6 + 1) S0x200))))))
def jX11_rank_128 (k85 : (Int32) → (Int32) → (Int32) → (gS) → Option (Int32 × gS)) (fu : Nat) (v1 : Int32) (v2 : Int32) (v3 : Int32) (v4 : Int32) (v5 : Int32) (S0 : gS) : Option (Int32 × gS) := (if v5 = ((iA S0 0) 1) then (k85 v2 v3 (v4 + 1) S0) else (lX11_rank_145 k85 fu v1 fu v2 v3 v4 v5 (0 : Int32) S0))
def lX11_rank_94 (k85 : (Int32) → (Int32) → (Int32) → (gS) → Option (Int32 × gS)) (fu : Nat) (v1 : Int32) : Nat → (Int32) → (Int32) → (Int32) → (Int32) → (gS) → Option (Int32 × gS)
  | 0, _, _, _, _, _ => none
  | j + 1, v2, v3, v4, v5, S0 => (if ((iA S0 0) 1) ≤ v5 then (jX11_rank_128 k85 fu v1 v2 v3 v4 v5 S0) else ((gIx (((4 : Int32) * v5) + v4) 80).bind fun k116 => (if ((lA S0 26) k116) = (0 : Int64) then ((lX11_rank_94 k85 fu v1 j) v2 v3 v4 (v5 + 1) S0) else (jX11_rank_128 k85 fu v1 v2 v3 v4 v5 S0))))
def lX11_rank_85  (fu : Nat) (v1 : Int32) : Nat → (Int32) → (Int32) → (Int32) → (gS) → Option (Int32 × gS)
  | 0, _, _, _, _ => none
  | j + 1, v2, v3, v4, S0 => (if v2 ≤ v4 then (some (v3, S0)) else (lX11_rank_94 (lX11_rank_85  fu v1 j) fu v1 fu v2 v3 v4 v3 S0))
def lX11_rank_23 (k4 : (Int32) → (Int32) → (gS) → Option (Int32 × gS)) (fu : Nat) (v1 : Int32) : Nat → (Int32) → (Int32) → (Int32) → (gS) → Option (Int32 × gS)
  | 0, _, _, _, _ => none
  | j + 1, v2, v3, v4, S0 => (if ((iA S0 0) 1) ≤ v4 then (k4 (v2 + 1) (v3 + 1) S0) else ((gIx v3 4).bind fun k50 => ((gIx ((32 : Int32) + v4) 160).bind fun k60 => ((fX11_shown fu S0 ((iA S0 21) k50) ((iA S0 0) k60)).bind fun r61 => ((gIx (((4 : Int32) * v4) + v2) 80).bind fun k64 => ((some (sBu S0 26 k64 r61)).bind fun S0x64 => ((lX11_rank_23 k4 fu v1 j) v2 v3 (v4 + 1) S0x64)))))))
def lX11_rank_4  (fu : Nat) (v1 : Int32) : Nat → (Int32) → (Int32) → (gS) → Option (Int32 × gS)
  | 0, _, _, _ => none
  | j + 1, v2, v3, S0 => (if (iF S0 20) ≤ v3 then (lX11_rank_85  fu v1 fu v2 (0 : Int32) (0 : Int32) S0) else (if v3 = v1 then ((lX11_rank_4  fu v1 j) v2 (v3 + 1) S0) else (lX11_rank_23 (lX11_rank_4  fu v1 j) fu v1 fu v2 v3 (0 : Int32) S0)))
def fX11_rank (fu : Nat) (S0 : gS) (v1 : Int32) : Option (Int32 × gS) := (lX11_rank_4  fu v1 fu (0 : Int32) (0 : Int32) S0)
set_option maxHeartbeats 4000000 in
set_option maxRecDepth 100000 in
theorem qX11_rank {l : Launch} {E : gE} {a0 : Nat → Nat} {fu : Nat} {S0 : gS} {v1 : Int32} {r : Int32 × gS} (hf : fX11_rank fu S0 v1 = some r) : CtrF l yX11_rank cX11_rank 10 (some .int) (gR 1 28) E [.ref (a0 0), .int v1] (wRf E a0 S0) (some (.int r.1)) (wRf E a0 r.2) := by
  refine ctr_of false (plainFor_of_name (by decide)) (Nat.le_of_ble_eq_true rfl) (fun q => by cases q) (fun Γ h => ?_)
  refine g_lv [some _, some _, _, _, _, _, _, _, _, _] rfl ?_
  rw [fX11_rank] at hf
  have loop85 : ∀ (j85 : Nat) (v2 : Int32) (v3 : Int32) (v4 : Int32) (S0 : gS) (o5 : Option Value) (o6 : Option Value) (o7 : Option Value) (o8 : Option Value) (o9 : Option Value), lX11_rank_85  fu v1 j85 v2 v3 v4 S0 = some r → Γ 0 0 85 [some (.ref (a0 0)), some (.int v1), some (.int v2), some (.int v3), some (.int v4), o5, o6, o7, o8, o9] [] (wRf E a0 S0) := by
    intro j85
    induction j85 with
    | zero => intro v2 v3 v4 S0 o5 o6 o7 o8 o9 hf; exact gno hf
    | succ j85 ih85 =>
      intro v2 v3 v4 S0 o5 o6 o7 o8 o9 hf
      rw [lX11_rank_85] at hf
      have loop212 : ∀ (j212 : Nat) (v2 : Int32) (v3 : Int32) (v4 : Int32) (v6 : Int32) (S0 : gS) (o5 : Option Value) (o7 : Option Value) (o8 : Option Value) (o9 : Option Value), lX11_rank_212 (lX11_rank_85  fu v1 j85) fu v1 j212 v2 v3 v4 v6 S0 = some r → Γ 0 0 212 [some (.ref (a0 0)), some (.int v1), some (.int v2), some (.int v3), some (.int v4), o5, some (.int v6), o7, o8, o9] [] (wRf E a0 S0) := by
        intro j212
        induction j212 with
        | zero => intro v2 v3 v4 v6 S0 o5 o7 o8 o9 hf; exact gno hf
        | succ j212 ih212 =>
          intro v2 v3 v4 v6 S0 o5 o7 o8 o9 hf
          rw [lX11_rank_212] at hf
          have loop240 : ∀ (j240 : Nat) (v2 : Int32) (v3 : Int32) (v4 : Int32) (v6 : Int32) (v7 : Int64) (v9 : Int32) (S0 : gS) (o5 : Option Value), lX11_rank_240 (lX11_rank_85  fu v1 j85) (lX11_rank_212 (lX11_rank_85  fu v1 j85) fu v1 j212) fu v1 j240 v2 v3 v4 v6 v7 v9 S0 = some r → Γ 0 0 240 [some (.ref (a0 0)), some (.int v1), some (.int v2), some (.int v3), some (.int v4), o5, some (.int v6), some (.long v7), none, some (.int v9)] [] (wRf E a0 S0) := by
            intro j240
            induction j240 with
            | zero => intro v2 v3 v4 v6 v7 v9 S0 o5 hf; exact gno hf
            | succ j240 ih240 =>
              intro v2 v3 v4 v6 v7 v9 S0 o5 hf
              rw [lX11_rank_240] at hf
              refine g_iload h dX11_rank_240 rfl ?_
              refine g_iload_n h dX11_rank_242 rfl ?_
              refine g_ic_ge h dX11_rank_243 rfl (fun c243 => ?_) (fun c243 => ?_)
              · replace hf := ifp_t c243 hf
                refine g_iinc (v := (v6 + 1)) (lv' := [some _, some _, some _, some _, some _, _, some _, some _, none, some _]) h dX11_rank_303 rfl rfl (by decide) rfl ?_
                refine g_goto h dX11_rank_306 rfl ?_
                exact ih212 _ _ _ _ _ _ _ _ _ hf
              · replace hf := ifp_f c243 hf
                refine g_aload_n h dX11_rank_246 rfl ?_
                refine g_get h flX11_53 dX11_rank_247 0 rfl rfl ?_
                refine g_iconst (v := 4) h dX11_rank_250 (by decide) ?_
                refine g_iload h dX11_rank_251 rfl ?_
                refine g_imul h dX11_rank_253 ?_
                refine g_iload h dX11_rank_254 rfl ?_
                refine g_iadd h dX11_rank_256 ?_
                refine g_aload_n h dX11_rank_257 rfl ?_
                refine g_get h flX11_53 dX11_rank_258 0 rfl rfl ?_
                refine g_iconst (v := 4) h dX11_rank_261 (by decide) ?_
                refine g_iload h dX11_rank_262 rfl ?_
                refine g_imul h dX11_rank_264 ?_
                refine g_iload h dX11_rank_265 rfl ?_
                refine g_iadd h dX11_rank_267 ?_
                obtain ⟨k268, q268, hf⟩ := gbind hf
                have e268 := (gIx_s q268).1
                have b268 := (gIx_s q268).2
                refine g_lald h dX11_rank_268 15 k268 rfl e268 b268 (by decide) ?_
                refine g_aload_n h dX11_rank_269 rfl ?_
                refine g_get h flX11_53 dX11_rank_270 0 rfl rfl ?_
                refine g_iconst (v := 4) h dX11_rank_273 (by decide) ?_
                refine g_iload_n h dX11_rank_274 rfl ?_
                refine g_imul h dX11_rank_275 ?_
                refine g_iload h dX11_rank_276 rfl ?_
                refine g_iadd h dX11_rank_278 ?_
                obtain ⟨k279, q279, hf⟩ := gbind hf
                have e279 := (gIx_s q279).1
                have b279 := (gIx_s q279).2
                refine g_lald h dX11_rank_279 15 k279 rfl e279 b279 (by decide) ?_
                refine g_lmul h dX11_rank_280 ?_
                refine g_aload_n h dX11_rank_281 rfl ?_
                refine g_get h flX11_53 dX11_rank_282 0 rfl rfl ?_
                refine g_iconst (v := 4) h dX11_rank_285 (by decide) ?_
                refine g_iload_n h dX11_rank_286 rfl ?_
                refine g_imul h dX11_rank_287 ?_
                refine g_iload h dX11_rank_288 rfl ?_
                refine g_iadd h dX11_rank_290 ?_
                obtain ⟨k291, q291, hf⟩ := gbind hf
                have e291 := (gIx_s q291).1
                have b291 := (gIx_s q291).2
                refine g_lald h dX11_rank_291 15 k291 rfl e291 b291 (by decide) ?_
                refine g_lload h dX11_rank_292 rfl ?_
                refine g_lmul h dX11_rank_294 ?_
                refine g_lsub h dX11_rank_295 ?_
                obtain ⟨S0x296, w296, hf⟩ := gbind hf
                refine g_last (ws' := wRf E a0 S0x296) h dX11_rank_296 15 k268 rfl e268 b268 (by decide) (by cases w296; rfl) ?_
                refine g_iinc (v := (v9 + 1)) (lv' := [some _, some _, some _, some _, some _, _, some _, some _, none, some _]) h dX11_rank_297 rfl rfl (by decide) rfl ?_
                refine g_goto h dX11_rank_300 rfl ?_
                exact ih240 _ _ _ _ _ _ _ _ hf
          refine g_iload h dX11_rank_212 rfl ?_
          refine g_aload_n h dX11_rank_214 rfl ?_
          refine g_get h flX11_9 dX11_rank_215 0 rfl rfl ?_
          refine g_iconst (v := 1) h dX11_rank_218 (by decide) ?_
          refine g_iald h dX11_rank_219 1 1 rfl rfl (by decide) (by decide) ?_
          refine g_ic_ge h dX11_rank_220 rfl (fun c220 => ?_) (fun c220 => ?_)
          · replace hf := ifp_t c220 hf
            refine g_iinc (v := (v3 + 1)) (lv' := [some _, some _, some _, some _, some _, _, some _, _, _, _]) h dX11_rank_309 rfl rfl (by decide) rfl ?_
            refine g_iinc (v := (v4 + 1)) (lv' := [some _, some _, some _, some _, some _, _, some _, _, _, _]) h dX11_rank_312 rfl rfl (by decide) rfl ?_
            refine g_goto h dX11_rank_315 rfl ?_
            exact ih85 _ _ _ _ _ _ _ _ _ hf
          · replace hf := ifp_f c220 hf
            refine g_aload_n h dX11_rank_223 rfl ?_
            refine g_get h flX11_53 dX11_rank_224 0 rfl rfl ?_
            refine g_iconst (v := 4) h dX11_rank_227 (by decide) ?_
            refine g_iload h dX11_rank_228 rfl ?_
            refine g_imul h dX11_rank_230 ?_
            refine g_iload h dX11_rank_231 rfl ?_
            refine g_iadd h dX11_rank_233 ?_
            obtain ⟨k234, q234, hf⟩ := gbind hf
            have e234 := (gIx_s q234).1
            have b234 := (gIx_s q234).2
            refine g_lald h dX11_rank_234 15 k234 rfl e234 b234 (by decide) ?_
            refine g_lstore (lv' := [some _, some _, some _, some _, some _, _, some _, some _, none, _]) h dX11_rank_235 (by decide) rfl ?_
            refine g_iconst (v := 0) h dX11_rank_237 (by decide) ?_
            refine g_istore (lv' := [some _, some _, some _, some _, some _, _, some _, some _, none, some _]) h dX11_rank_238 (by decide) rfl ?_
            exact loop240 _ _ _ _ _ _ _ _ _ hf
      have loop145 : ∀ (j145 : Nat) (v2 : Int32) (v3 : Int32) (v4 : Int32) (v5 : Int32) (v6 : Int32) (S0 : gS) (o7 : Option Value) (o8 : Option Value) (o9 : Option Value), lX11_rank_145 (lX11_rank_85  fu v1 j85) fu v1 j145 v2 v3 v4 v5 v6 S0 = some r → Γ 0 0 145 [some (.ref (a0 0)), some (.int v1), some (.int v2), some (.int v3), some (.int v4), some (.int v5), some (.int v6), o7, o8, o9] [] (wRf E a0 S0) := by
        intro j145
        induction j145 with
        | zero => intro v2 v3 v4 v5 v6 S0 o7 o8 o9 hf; exact gno hf
        | succ j145 ih145 =>
          intro v2 v3 v4 v5 v6 S0 o7 o8 o9 hf
          rw [lX11_rank_145] at hf
          refine g_iload h dX11_rank_145 rfl ?_
          refine g_iload_n h dX11_rank_147 rfl ?_
          refine g_ic_ge h dX11_rank_148 rfl (fun c148 => ?_) (fun c148 => ?_)
          · replace hf := ifp_t c148 hf
            refine g_iload_n h dX11_rank_207 rfl ?_
            refine g_iconst (v := 1) h dX11_rank_208 (by decide) ?_
            refine g_iadd h dX11_rank_209 ?_
            refine g_istore (lv' := [some _, some _, some _, some _, some _, some _, some _, _, _, _]) h dX11_rank_210 (by decide) rfl ?_
            exact loop212 _ _ _ _ _ _ _ _ _ _ hf
          · replace hf := ifp_f c148 hf
            refine g_aload_n h dX11_rank_151 rfl ?_
            refine g_get h flX11_53 dX11_rank_152 0 rfl rfl ?_
            refine g_iconst (v := 4) h dX11_rank_155 (by decide) ?_
            refine g_iload h dX11_rank_156 rfl ?_
            refine g_imul h dX11_rank_158 ?_
            refine g_iload h dX11_rank_159 rfl ?_
            refine g_iadd h dX11_rank_161 ?_
            obtain ⟨k162, q162, hf⟩ := gbind hf
            have e162 := (gIx_s q162).1
            have b162 := (gIx_s q162).2
            refine g_lald h dX11_rank_162 15 k162 rfl e162 b162 (by decide) ?_
            refine g_lstore (lv' := [some _, some _, some _, some _, some _, some _, some _, some _, none, _]) h dX11_rank_163 (by decide) rfl ?_
            refine g_aload_n h dX11_rank_165 rfl ?_
            refine g_get h flX11_53 dX11_rank_166 0 rfl rfl ?_
            refine g_iconst (v := 4) h dX11_rank_169 (by decide) ?_
            refine g_iload h dX11_rank_170 rfl ?_
            refine g_imul h dX11_rank_172 ?_
            refine g_iload h dX11_rank_173 rfl ?_
            refine g_iadd h dX11_rank_175 ?_
            refine g_aload_n h dX11_rank_176 rfl ?_
            refine g_get h flX11_53 dX11_rank_177 0 rfl rfl ?_
            refine g_iconst (v := 4) h dX11_rank_180 (by decide) ?_
            refine g_iload_n h dX11_rank_181 rfl ?_
            refine g_imul h dX11_rank_182 ?_
            refine g_iload h dX11_rank_183 rfl ?_
            refine g_iadd h dX11_rank_185 ?_
            obtain ⟨k186, q186, hf⟩ := gbind hf
            have e186 := (gIx_s q186).1
            have b186 := (gIx_s q186).2
            refine g_lald h dX11_rank_186 15 k186 rfl e186 b186 (by decide) ?_
            obtain ⟨S0x187, w187, hf⟩ := gbind hf
            refine g_last (ws' := wRf E a0 S0x187) h dX11_rank_187 15 k162 rfl e162 b162 (by decide) (by cases w187; rfl) ?_
            refine g_aload_n h dX11_rank_188 rfl ?_
            refine g_get h flX11_53 dX11_rank_189 0 rfl rfl ?_
            refine g_iconst (v := 4) h dX11_rank_192 (by decide) ?_
            refine g_iload_n h dX11_rank_193 rfl ?_
            refine g_imul h dX11_rank_194 ?_
            refine g_iload h dX11_rank_195 rfl ?_
            refine g_iadd h dX11_rank_197 ?_
            refine g_lload h dX11_rank_198 rfl ?_
            obtain ⟨S0x200, w200, hf⟩ := gbind hf
            refine g_last (ws' := wRf E a0 S0x200) h dX11_rank_200 15 k186 rfl e186 b186 (by decide) (by cases w200; rfl) ?_
            refine g_iinc (v := (v6 + 1)) (lv' := [some _, some _, some _, some _, some _, some _, some _, some _, none, _]) h dX11_rank_201 rfl rfl (by decide) rfl ?_
            refine g_goto h dX11_rank_204 rfl ?_
            exact ih145 _ _ _ _ _ _ _ _ _ hf
      have jn128 : ∀ (v2 : Int32) (v3 : Int32) (v4 : Int32) (v5 : Int32) (S0 : gS) (o6 : Option Value) (o7 : Option Value) (o8 : Option Value) (o9 : Option Value), jX11_rank_128 (lX11_rank_85  fu v1 j85) fu v1 v2 v3 v4 v5 S0 = some r → Γ 0 0 128 [some (.ref (a0 0)), some (.int v1), some (.int v2), some (.int v3), some (.int v4), some (.int v5), o6, o7, o8, o9] [] (wRf E a0 S0) := by
        intro v2 v3 v4 v5 S0 o6 o7 o8 o9 hf
        rw [jX11_rank_128] at hf
        refine g_iload h dX11_rank_128 rfl ?_
        refine g_aload_n h dX11_rank_130 rfl ?_
        refine g_get h flX11_9 dX11_rank_131 0 rfl rfl ?_
        refine g_iconst (v := 1) h dX11_rank_134 (by decide) ?_
        refine g_iald h dX11_rank_135 1 1 rfl rfl (by decide) (by decide) ?_
        refine g_ic_ne h dX11_rank_136 rfl (fun c136 => ?_) (fun c136 => ?_)
        · replace hf := ifp_f c136 hf
          refine g_iconst (v := 0) h dX11_rank_142 (by decide) ?_
          refine g_istore (lv' := [some _, some _, some _, some _, some _, some _, some _, _, _, _]) h dX11_rank_143 (by decide) rfl ?_
          exact loop145 _ _ _ _ _ _ _ _ _ _ hf
        · replace hf := ifp_t c136 hf
          refine g_goto h dX11_rank_139 rfl ?_
          refine g_iinc (v := (v4 + 1)) (lv' := [some _, some _, some _, some _, some _, some _, _, _, _, _]) h dX11_rank_312 rfl rfl (by decide) rfl ?_
          refine g_goto h dX11_rank_315 rfl ?_
          exact ih85 _ _ _ _ _ _ _ _ _ hf
      have loop94 : ∀ (j94 : Nat) (v2 : Int32) (v3 : Int32) (v4 : Int32) (v5 : Int32) (S0 : gS) (o6 : Option Value) (o7 : Option Value) (o8 : Option Value) (o9 : Option Value), lX11_rank_94 (lX11_rank_85  fu v1 j85) fu v1 j94 v2 v3 v4 v5 S0 = some r → Γ 0 0 94 [some (.ref (a0 0)), some (.int v1), some (.int v2), some (.int v3), some (.int v4), some (.int v5), o6, o7, o8, o9] [] (wRf E a0 S0) := by
        intro j94
        induction j94 with
        | zero => intro v2 v3 v4 v5 S0 o6 o7 o8 o9 hf; exact gno hf
        | succ j94 ih94 =>
          intro v2 v3 v4 v5 S0 o6 o7 o8 o9 hf
          rw [lX11_rank_94] at hf
          refine g_iload h dX11_rank_94 rfl ?_
          refine g_aload_n h dX11_rank_96 rfl ?_
          refine g_get h flX11_9 dX11_rank_97 0 rfl rfl ?_
          refine g_iconst (v := 1) h dX11_rank_100 (by decide) ?_
          refine g_iald h dX11_rank_101 1 1 rfl rfl (by decide) (by decide) ?_
          refine g_ic_ge h dX11_rank_102 rfl (fun c102 => ?_) (fun c102 => ?_)
          · replace hf := ifp_t c102 hf
            exact jn128 _ _ _ _ _ _ _ _ _ hf
          · replace hf := ifp_f c102 hf
            refine g_aload_n h dX11_rank_105 rfl ?_
            refine g_get h flX11_53 dX11_rank_106 0 rfl rfl ?_
            refine g_iconst (v := 4) h dX11_rank_109 (by decide) ?_
            refine g_iload h dX11_rank_110 rfl ?_
            refine g_imul h dX11_rank_112 ?_
            refine g_iload h dX11_rank_113 rfl ?_
            refine g_iadd h dX11_rank_115 ?_
            obtain ⟨k116, q116, hf⟩ := gbind hf
            have e116 := (gIx_s q116).1
            have b116 := (gIx_s q116).2
            refine g_lald h dX11_rank_116 15 k116 rfl e116 b116 (by decide) ?_
            refine g_lconst (v := 0) h dX11_rank_117 (by decide) ?_
            refine g_lcmp h dX11_rank_118 ?_
            refine g_lif_ne h dX11_rank_119 rfl (fun c119 => ?_) (fun c119 => ?_)
            · replace hf := ifp_f c119 hf
              exact jn128 _ _ _ _ _ _ _ _ _ hf
            · replace hf := ifp_t c119 hf
              refine g_iinc (v := (v5 + 1)) (lv' := [some _, some _, some _, some _, some _, some _, _, _, _, _]) h dX11_rank_122 rfl rfl (by decide) rfl ?_
              refine g_goto h dX11_rank_125 rfl ?_
              exact ih94 _ _ _ _ _ _ _ _ _ hf
      refine g_iload h dX11_rank_85 rfl ?_
      refine g_iload_n h dX11_rank_87 rfl ?_
      refine g_ic_ge h dX11_rank_88 rfl (fun c88 => ?_) (fun c88 => ?_)
      · replace hf := ifp_t c88 hf
        refine g_iload_n h dX11_rank_318 rfl ?_
        have er := Option.some.inj hf
        subst er
        exact g_ireturn h dX11_rank_319 rfl rfl ⟨Nat.zero_le _, Nat.zero_le _, rfl, rfl, rfl⟩
      · replace hf := ifp_f c88 hf
        refine g_iload_n h dX11_rank_91 rfl ?_
        refine g_istore (lv' := [some _, some _, some _, some _, some _, some _, _, _, _, _]) h dX11_rank_92 (by decide) rfl ?_
        exact loop94 _ _ _ _ _ _ _ _ _ _ hf
  have loop4 : ∀ (j4 : Nat) (v2 : Int32) (v3 : Int32) (S0 : gS) (o4 : Option Value) (o5 : Option Value) (o6 : Option Value) (o7 : Option Value) (o8 : Option Value) (o9 : Option Value), lX11_rank_4  fu v1 j4 v2 v3 S0 = some r → Γ 0 0 4 [some (.ref (a0 0)), some (.int v1), some (.int v2), some (.int v3), o4, o5, o6, o7, o8, o9] [] (wRf E a0 S0) := by
    intro j4
    induction j4 with
    | zero => intro v2 v3 S0 o4 o5 o6 o7 o8 o9 hf; exact gno hf
    | succ j4 ih4 =>
      intro v2 v3 S0 o4 o5 o6 o7 o8 o9 hf
      rw [lX11_rank_4] at hf
      have loop23 : ∀ (j23 : Nat) (v2 : Int32) (v3 : Int32) (v4 : Int32) (S0 : gS) (o5 : Option Value) (o6 : Option Value) (o7 : Option Value) (o8 : Option Value) (o9 : Option Value), lX11_rank_23 (lX11_rank_4  fu v1 j4) fu v1 j23 v2 v3 v4 S0 = some r → Γ 0 0 23 [some (.ref (a0 0)), some (.int v1), some (.int v2), some (.int v3), some (.int v4), o5, o6, o7, o8, o9] [] (wRf E a0 S0) := by
        intro j23
        induction j23 with
        | zero => intro v2 v3 v4 S0 o5 o6 o7 o8 o9 hf; exact gno hf
        | succ j23 ih23 =>
          intro v2 v3 v4 S0 o5 o6 o7 o8 o9 hf
          rw [lX11_rank_23] at hf
          refine g_iload h dX11_rank_23 rfl ?_
          refine g_aload_n h dX11_rank_25 rfl ?_
          refine g_get h flX11_9 dX11_rank_26 0 rfl rfl ?_
          refine g_iconst (v := 1) h dX11_rank_29 (by decide) ?_
          refine g_iald h dX11_rank_30 1 1 rfl rfl (by decide) (by decide) ?_
          refine g_ic_ge h dX11_rank_31 rfl (fun c31 => ?_) (fun c31 => ?_)
          · replace hf := ifp_t c31 hf
            refine g_iinc (v := (v2 + 1)) (lv' := [some _, some _, some _, some _, some _, _, _, _, _, _]) h dX11_rank_71 rfl rfl (by decide) rfl ?_
            refine g_iinc (v := (v3 + 1)) (lv' := [some _, some _, some _, some _, some _, _, _, _, _, _]) h dX11_rank_74 rfl rfl (by decide) rfl ?_
            refine g_goto h dX11_rank_77 rfl ?_
            exact ih4 _ _ _ _ _ _ _ _ _ hf
          · replace hf := ifp_f c31 hf
            refine g_aload_n h dX11_rank_34 rfl ?_
            refine g_get h flX11_53 dX11_rank_35 0 rfl rfl ?_
            refine g_iconst (v := 4) h dX11_rank_38 (by decide) ?_
            refine g_iload h dX11_rank_39 rfl ?_
            refine g_imul h dX11_rank_41 ?_
            refine g_iload_n h dX11_rank_42 rfl ?_
            refine g_iadd h dX11_rank_43 ?_
            refine g_aload_n h dX11_rank_44 rfl ?_
            refine g_aload_n h dX11_rank_45 rfl ?_
            refine g_get h flX11_41 dX11_rank_46 0 rfl rfl ?_
            refine g_iload_n h dX11_rank_49 rfl ?_
            obtain ⟨k50, q50, hf⟩ := gbind hf
            have e50 := (gIx_s q50).1
            have b50 := (gIx_s q50).2
            refine g_iald h dX11_rank_50 11 k50 rfl e50 b50 (by decide) ?_
            refine g_aload_n h dX11_rank_51 rfl ?_
            refine g_get h flX11_9 dX11_rank_52 0 rfl rfl ?_
            refine g_bipush (v := 32) h dX11_rank_55 (by decide) ?_
            refine g_iload h dX11_rank_57 rfl ?_
            refine g_iadd h dX11_rank_59 ?_
            obtain ⟨k60, q60, hf⟩ := gbind hf
            have e60 := (gIx_s q60).1
            have b60 := (gIx_s q60).2
            refine g_iald h dX11_rank_60 1 k60 rfl e60 b60 (by decide) ?_
            obtain ⟨r61, q61, hf⟩ := gbind hf
            refine g_cVr h (qX11_shown (a0 := a0) q61) mX11_shown lkX11_81 dX11_rank_61 rfl rfl ⟨Nat.zero_le _, Nat.zero_le _⟩ ⟨by decide, by decide⟩ (Nat.le_of_ble_eq_true rfl) [0, 1, 2, 3, 4, 5, 6, 7, 8, 9, 10, 11, 12, 13, 14, 15] rfl rfl 0 rfl rfl ?_
            obtain ⟨k64, q64, hf⟩ := gbind hf
            have e64 := (gIx_s q64).1
            have b64 := (gIx_s q64).2
            obtain ⟨S0x64, w64, hf⟩ := gbind hf
            refine g_last (ws' := wRf E a0 S0x64) h dX11_rank_64 15 k64 rfl e64 b64 (by decide) (by cases w64; rfl) ?_
            refine g_iinc (v := (v4 + 1)) (lv' := [some _, some _, some _, some _, some _, _, _, _, _, _]) h dX11_rank_65 rfl rfl (by decide) rfl ?_
            refine g_goto h dX11_rank_68 rfl ?_
            exact ih23 _ _ _ _ _ _ _ _ _ hf
      refine g_iload_n h dX11_rank_4 rfl ?_
      refine g_aload_n h dX11_rank_5 rfl ?_
      refine g_get h flX11_101 dX11_rank_6 0 rfl rfl ?_
      refine g_ic_ge h dX11_rank_9 rfl (fun c9 => ?_) (fun c9 => ?_)
      · replace hf := ifp_t c9 hf
        refine g_iconst (v := 0) h dX11_rank_80 (by decide) ?_
        refine g_istore_n (lv' := [some _, some _, some _, some _, _, _, _, _, _, _]) h dX11_rank_81 (by decide) rfl ?_
        refine g_iconst (v := 0) h dX11_rank_82 (by decide) ?_
        refine g_istore (lv' := [some _, some _, some _, some _, some _, _, _, _, _, _]) h dX11_rank_83 (by decide) rfl ?_
        exact loop85 _ _ _ _ _ _ _ _ _ _ hf
      · replace hf := ifp_f c9 hf
        refine g_iload_n h dX11_rank_12 rfl ?_
        refine g_iload_n h dX11_rank_13 rfl ?_
        refine g_ic_ne h dX11_rank_14 rfl (fun c14 => ?_) (fun c14 => ?_)
        · replace hf := ifp_f c14 hf
          refine g_iconst (v := 0) h dX11_rank_20 (by decide) ?_
          refine g_istore (lv' := [some _, some _, some _, some _, some _, _, _, _, _, _]) h dX11_rank_21 (by decide) rfl ?_
          exact loop23 _ _ _ _ _ _ _ _ _ _ hf
        · replace hf := ifp_t c14 hf
          refine g_goto h dX11_rank_17 rfl ?_
          refine g_iinc (v := (v3 + 1)) (lv' := [some _, some _, some _, some _, _, _, _, _, _, _]) h dX11_rank_74 rfl rfl (by decide) rfl ?_
          refine g_goto h dX11_rank_77 rfl ?_
          exact ih4 _ _ _ _ _ _ _ _ _ hf
  refine g_iconst (v := 0) h dX11_rank_0 (by decide) ?_
  refine g_istore_n (lv' := [some _, some _, some _, _, _, _, _, _, _, _]) h dX11_rank_1 (by decide) rfl ?_
  refine g_iconst (v := 0) h dX11_rank_2 (by decide) ?_
  refine g_istore_n (lv' := [some _, some _, some _, some _, _, _, _, _, _, _]) h dX11_rank_3 (by decide) rfl ?_
  exact loop4 _ _ _ _ _ _ _ _ _ _ hf
