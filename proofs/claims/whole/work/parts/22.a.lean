def fX11_tellFinding (fu : Nat) (S0 : gS) (v1 : Int64) : Option (Int64 × gS) := ((gIx (((-9000000000000000000 : Int64) - v1).toInt32) 8).bind fun k11 => ((some (sBu S0 10 k11 (((lA S0 10) k11) + (1 : Int64)))).bind fun S0x14 => (some (v1, S0x14))))
set_option maxHeartbeats 4000000 in
set_option maxRecDepth 100000 in
theorem qX11_tellFinding {l : Launch} {E : gE} {a0 : Nat → Nat} {fu : Nat} {S0 : gS} {v1 : Int64} {r : Int64 × gS} (hf : fX11_tellFinding fu S0 v1 = some r) : CtrF l yX11_tellFinding cX11_tellFinding 3 (some .long) (gR 0 0) E [.ref (a0 0), .long v1] (wRf E a0 S0) (some (.long r.1)) (wRf E a0 r.2) := by
  refine ctr_of false (plainFor_of_name (by decide)) (Nat.le_of_ble_eq_true rfl) (fun q => by cases q) (fun Γ h => ?_)
  refine g_lv [some _, some _, none] rfl ?_
  rw [fX11_tellFinding] at hf
  refine g_aload_n h dX11_tellFinding_0 rfl ?_
  refine g_get h flX11_31 dX11_tellFinding_1 0 rfl rfl ?_
  refine g_ldc2 (v := (-9000000000000000000)) h dX11_tellFinding_4 gcX11_56 ?_
  refine g_lload_n h dX11_tellFinding_7 rfl ?_
  refine g_lsub h dX11_tellFinding_8 ?_
  refine g_l2i h dX11_tellFinding_9 ?_
  refine g_dup2_11 h dX11_tellFinding_10 rfl rfl ?_
  obtain ⟨k11, q11, hf⟩ := gbind hf
  have e11 := (gIx_s q11).1
  have b11 := (gIx_s q11).2
  refine g_lald h dX11_tellFinding_11 8 k11 rfl e11 b11 (by decide) ?_
  refine g_lconst (v := 1) h dX11_tellFinding_12 (by decide) ?_
  refine g_ladd h dX11_tellFinding_13 ?_
  obtain ⟨S0x14, w14, hf⟩ := gbind hf
  refine g_last (ws' := wRf E a0 S0x14) h dX11_tellFinding_14 8 k11 rfl e11 b11 (by decide) (by cases w14; rfl) ?_
  refine g_lload_n h dX11_tellFinding_15 rfl ?_
  have er := Option.some.inj hf
  subst er
  exact g_lreturn h dX11_tellFinding_16 rfl ⟨Nat.zero_le _, Nat.zero_le _, rfl, rfl, rfl⟩
def fX11_in (fu : Nat)  (v0 : Int32) (v1 : Int32) (v2 : Int32) : Option (Bool) := (if v0 < v1 then (some false) else (if v2 < v0 then (some false) else (some true)))
set_option maxHeartbeats 4000000 in
set_option maxRecDepth 100000 in
theorem qX11_in {l : Launch} {E : gE}  {fu : Nat}  {v0 : Int32} {v1 : Int32} {v2 : Int32} {r : Bool} (hf : fX11_in fu  v0 v1 v2 = some r) : CtrF l yX11_in cX11_in 3 (some .boolean) (gR 0 0) E [.int v0, .int v1, .int v2] ([]) (some (.int (bI r))) ([]) := by
  refine ctr_of false (plainFor_of_name (by decide)) (Nat.le_of_ble_eq_true rfl) (fun q => by cases q) (fun Γ h => ?_)
  refine g_lv [some _, some _, some _] rfl ?_
  rw [fX11_in] at hf
  refine g_iload_n h dX11_in_0 rfl ?_
  refine g_iload_n h dX11_in_1 rfl ?_
  refine g_ic_lt h dX11_in_2 rfl (fun c2 => ?_) (fun c2 => ?_)
  · replace hf := ifp_t c2 hf
    refine g_iconst (v := 0) h dX11_in_14 (by decide) ?_
    have er := Option.some.inj hf
    subst er
    exact g_ireturn h dX11_in_15 rfl rfl ⟨Nat.zero_le _, Nat.zero_le _, rfl, rfl, rfl⟩
  · replace hf := ifp_f c2 hf
    refine g_iload_n h dX11_in_5 rfl ?_
    refine g_iload_n h dX11_in_6 rfl ?_
    refine g_ic_gt h dX11_in_7 rfl (fun c7 => ?_) (fun c7 => ?_)
    · replace hf := ifp_t c7 hf
      refine g_iconst (v := 0) h dX11_in_14 (by decide) ?_
      have er := Option.some.inj hf
      subst er
      exact g_ireturn h dX11_in_15 rfl rfl ⟨Nat.zero_le _, Nat.zero_le _, rfl, rfl, rfl⟩
    · replace hf := ifp_f c7 hf
      refine g_iconst (v := 1) h dX11_in_10 (by decide) ?_
      refine g_goto h dX11_in_11 rfl ?_
      have er := Option.some.inj hf
      subst er
      exact g_ireturn h dX11_in_15 rfl rfl ⟨Nat.zero_le _, Nat.zero_le _, rfl, rfl, rfl⟩
def fX11_isCause (fu : Nat) (S0 : gS) (v1 : Int32) : Option (Bool) := ((fX11_in fu v1 (0 : Int32) (((iA S0 0) 0) - (1 : Int32))).bind fun r10 => (some r10))
set_option maxHeartbeats 4000000 in
set_option maxRecDepth 100000 in
theorem qX11_isCause {l : Launch} {E : gE} {a0 : Nat → Nat} {fu : Nat} {S0 : gS} {v1 : Int32} {r : Bool} (hf : fX11_isCause fu S0 v1 = some r) : CtrF l yX11_isCause cX11_isCause 2 (some .boolean) (gR 1 22) E [.ref (a0 0), .int v1] (wRf E a0 S0) (some (.int (bI r))) (wRf E a0 S0) := by
  refine ctr_of false (plainFor_of_name (by decide)) (Nat.le_of_ble_eq_true rfl) (fun q => by cases q) (fun Γ h => ?_)
  refine g_lv [some _, some _] rfl ?_
  rw [fX11_isCause] at hf
  refine g_iload_n h dX11_isCause_0 rfl ?_
  refine g_iconst (v := 0) h dX11_isCause_1 (by decide) ?_
  refine g_aload_n h dX11_isCause_2 rfl ?_
  refine g_get h flX11_9 dX11_isCause_3 0 rfl rfl ?_
  refine g_iconst (v := 0) h dX11_isCause_6 (by decide) ?_
  refine g_iald h dX11_isCause_7 1 0 rfl rfl (by decide) (by decide) ?_
  refine g_iconst (v := 1) h dX11_isCause_8 (by decide) ?_
  refine g_isub h dX11_isCause_9 ?_
  obtain ⟨r10, q10, hf⟩ := gbind hf
  refine g_cSr h (qX11_in q10) mX11_in lkX11_58 dX11_isCause_10 rfl rfl ⟨Nat.zero_le _, Nat.zero_le _⟩ ⟨by decide, by decide⟩ (Nat.le_of_ble_eq_true rfl) [] rfl rfl ?_
  have er := Option.some.inj hf
  subst er
  exact g_ireturn h dX11_isCause_13 rfl (bI_nar _) ⟨Nat.zero_le _, Nat.zero_le _, rfl, rfl, rfl⟩
def fX11_isState (fu : Nat)  (v0 : Int32) : Option (Bool) := ((fX11_in fu v0 (0 : Int32) (35 : Int32)).bind fun r4 => (some r4))
set_option maxHeartbeats 4000000 in
set_option maxRecDepth 100000 in
theorem qX11_isState {l : Launch} {E : gE}  {fu : Nat}  {v0 : Int32} {r : Bool} (hf : fX11_isState fu  v0 = some r) : CtrF l yX11_isState cX11_isState 1 (some .boolean) (gR 1 22) E [.int v0] ([]) (some (.int (bI r))) ([]) := by
  refine ctr_of false (plainFor_of_name (by decide)) (Nat.le_of_ble_eq_true rfl) (fun q => by cases q) (fun Γ h => ?_)
  refine g_lv [some _] rfl ?_
  rw [fX11_isState] at hf
  refine g_iload_n h dX11_isState_0 rfl ?_
  refine g_iconst (v := 0) h dX11_isState_1 (by decide) ?_
  refine g_bipush (v := 35) h dX11_isState_2 (by decide) ?_
  obtain ⟨r4, q4, hf⟩ := gbind hf
  refine g_cSr h (qX11_in q4) mX11_in lkX11_58 dX11_isState_4 rfl rfl ⟨Nat.zero_le _, Nat.zero_le _⟩ ⟨by decide, by decide⟩ (Nat.le_of_ble_eq_true rfl) [] rfl rfl ?_
  have er := Option.some.inj hf
  subst er
  exact g_ireturn h dX11_isState_7 rfl (bI_nar _) ⟨Nat.zero_le _, Nat.zero_le _, rfl, rfl, rfl⟩
def jX11_cause_191  (fu : Nat) (v1 : Int32) (v2 : Int32) (v3 : Int32) (v5 : Int32) (s0 : Int32) (s1 : Int32) (S0 : gS) : Option (Int64 × gS) := ((gIx s1 160).bind fun k191 => ((some (sAu S0 0 k191 s0)).bind fun S0x191 => ((some (sAu S0x191 0 0 (((iA S0x191 0) 0) + (1 : Int32)))).bind fun S0x201 => ((some (sI S0x201 13 (1 : Int32))).bind fun S0x204 => (some ((v5.toInt64), S0x204))))))
def jX11_cause_172  (fu : Nat) (v1 : Int32) (v2 : Int32) (v3 : Int32) (v5 : Int32) (s0 : Int32) (s1 : Int32) (S0 : gS) : Option (Int64 × gS) := ((gIx s1 160).bind fun k172 => ((some (sAu S0 0 k172 s0)).bind fun S0x172 => (if v1 = 0 then (jX11_cause_191  fu v1 v2 v3 v5 (0 : Int32) ((24 : Int32) + v5) S0x172) else (jX11_cause_191  fu v1 v2 v3 v5 v3 ((24 : Int32) + v5) S0x172))))
def jX11_cause_107  (fu : Nat) (v1 : Int32) (v2 : Int32) (v3 : Int32) (v4 : Int32) (S0 : gS) : Option (Int64 × gS) := (if v4 = 0 then ((fX11_tellFinding fu S0 (-9000000000000000001 : Int64)).bind fun r116 => (some (r116.1, r116.2))) else (if ((iA S0 0) 0) = (8 : Int32) then ((fX11_tellFinding fu S0 (-9000000000000000005 : Int64)).bind fun r139 => (some (r139.1, r139.2))) else ((gIx ((8 : Int32) + ((iA S0 0) 0)) 160).bind fun k153 => ((some (sAu S0 0 k153 v1)).bind fun S0x153 => (if v1 = 0 then (jX11_cause_172  fu v1 v2 v3 ((iA S0 0) 0) (0 : Int32) ((16 : Int32) + ((iA S0 0) 0)) S0x153) else (jX11_cause_172  fu v1 v2 v3 ((iA S0 0) 0) v2 ((16 : Int32) + ((iA S0 0) 0)) S0x153))))))
def jX11_cause_69  (fu : Nat) (v1 : Int32) (v2 : Int32) (v3 : Int32) (s0 : Int32) (S0 : gS) : Option (Int64 × gS) := (jX11_cause_107  fu v1 v2 v3 s0 S0)
def jX11_cause_68  (fu : Nat) (v1 : Int32) (v2 : Int32) (v3 : Int32) (S0 : gS) : Option (Int64 × gS) := (jX11_cause_69  fu v1 v2 v3 (0 : Int32) S0)
def jX11_cause_46  (fu : Nat) (v1 : Int32) (v2 : Int32) (v3 : Int32) (S0 : gS) : Option (Int64 × gS) := ((fX11_in fu v2 (0 : Int32) (3 : Int32)).bind fun r49 => (if r49 = true then ((fX11_in fu v3 (1 : Int32) (3 : Int32)).bind fun r58 => (if r58 = true then (jX11_cause_69  fu v1 v2 v3 (1 : Int32) S0) else (jX11_cause_68  fu v1 v2 v3 S0))) else (jX11_cause_68  fu v1 v2 v3 S0)))
def jX11_cause_99  (fu : Nat) (v1 : Int32) (v2 : Int32) (v3 : Int32) (s0 : Int32) (S0 : gS) : Option (Int64 × gS) := (jX11_cause_107  fu v1 v2 v3 s0 S0)
def jX11_cause_98  (fu : Nat) (v1 : Int32) (v2 : Int32) (v3 : Int32) (S0 : gS) : Option (Int64 × gS) := (jX11_cause_99  fu v1 v2 v3 (0 : Int32) S0)
def jX11_cause_74  (fu : Nat) (v1 : Int32) (v2 : Int32) (v3 : Int32) (S0 : gS) : Option (Int64 × gS) := ((fX11_in fu v2 (-2 : Int32) (2 : Int32)).bind fun r78 => (if r78 = true then ((fX11_in fu v3 (-2 : Int32) (2 : Int32)).bind fun r88 => (if r88 = true then (jX11_cause_99  fu v1 v2 v3 (1 : Int32) S0) else (jX11_cause_98  fu v1 v2 v3 S0))) else (jX11_cause_98  fu v1 v2 v3 S0)))
def fX11_cause (fu : Nat) (S0 : gS) (v1 : Int32) (v2 : Int32) (v3 : Int32) : Option (Int64 × gS) := (if v1 = 0 then (jX11_cause_107  fu v1 v2 v3 (1 : Int32) S0) else (if v1 = 1 then (jX11_cause_46  fu v1 v2 v3 S0) else (if v1 = 2 then (jX11_cause_74  fu v1 v2 v3 S0) else (if v1 = 3 then (jX11_cause_74  fu v1 v2 v3 S0) else (if v1 = 4 then (jX11_cause_74  fu v1 v2 v3 S0) else (if v1 = 5 then (jX11_cause_46  fu v1 v2 v3 S0) else (jX11_cause_107  fu v1 v2 v3 (0 : Int32) S0)))))))
set_option maxRecDepth 100000 in
theorem mgX11_20 {E : gE} {S0 : gS} {n0 : gS} {a0 : Nat → Nat} : gmerge [0, 1, 2, 3, 4, 5, 6, 7, 8, 9, 10, 11, 12, 13, 14, 15] (wRf E a0 n0) (wRf E a0 S0) = wRf E a0 n0 := by
  have h0 : gmerge [0, 1, 2, 3, 4, 5, 6, 7, 8, 9, 10, 11, 12, 13, 14, 15] (wRf E a0 n0) (wRf E a0 S0) = wRf E a0 n0 := gmerge_cut 0 16 (Nat.le_of_ble_eq_true rfl) rfl rfl
  exact h0
set_option maxHeartbeats 4000000 in
set_option maxRecDepth 100000 in
theorem qX11_cause {l : Launch} {E : gE} {a0 : Nat → Nat} {fu : Nat} {S0 : gS} {v1 : Int32} {v2 : Int32} {v3 : Int32} {r : Int64 × gS} (hf : fX11_cause fu S0 v1 v2 v3 = some r) : CtrF l yX11_cause cX11_cause 6 (some .long) (gR 1 22) E [.ref (a0 0), .int v1, .int v2, .int v3] (wRf E a0 S0) (some (.long r.1)) (wRf E a0 r.2) := by
  refine ctr_of false (plainFor_of_name (by decide)) (Nat.le_of_ble_eq_true rfl) (fun q => by cases q) (fun Γ h => ?_)
  refine g_lv [some _, some _, some _, some _, _, _] rfl ?_
  rw [fX11_cause] at hf
  have jn191 : ∀ (v5 : Int32) (s0 : Int32) (s1 : Int32) (S0 : gS) (o4 : Option Value), jX11_cause_191  fu v1 v2 v3 v5 s0 s1 S0 = some r → Γ 0 0 191 [some (.ref (a0 0)), some (.int v1), some (.int v2), some (.int v3), o4, some (.int v5)] [.int s0, .int s1, .ref (a0 1)] (wRf E a0 S0) := by
    intro v5 s0 s1 S0 o4 hf
    rw [jX11_cause_191] at hf
    obtain ⟨k191, q191, hf⟩ := gbind hf
    have e191 := (gIx_s q191).1
    have b191 := (gIx_s q191).2
    obtain ⟨S0x191, w191, hf⟩ := gbind hf
    refine g_iast (ws' := wRf E a0 S0x191) h dX11_cause_191 1 k191 rfl e191 b191 (by decide) (by cases w191; rfl) ?_
    refine g_aload_n h dX11_cause_192 rfl ?_
    refine g_get h flX11_9 dX11_cause_193 0 rfl rfl ?_
    refine g_iconst (v := 0) h dX11_cause_196 (by decide) ?_
    refine g_dup2_11 h dX11_cause_197 rfl rfl ?_
    refine g_iald h dX11_cause_198 1 0 rfl rfl (by decide) (by decide) ?_
    refine g_iconst (v := 1) h dX11_cause_199 (by decide) ?_
    refine g_iadd h dX11_cause_200 ?_
    obtain ⟨S0x201, w201, hf⟩ := gbind hf
    refine g_iast (ws' := wRf E a0 S0x201) h dX11_cause_201 1 0 rfl rfl (by decide) (by decide) (by cases w201; rfl) ?_
    refine g_aload_n h dX11_cause_202 rfl ?_
    refine g_iconst (v := 1) h dX11_cause_203 (by decide) ?_
    obtain ⟨S0x204, q204, hf⟩ := gbind hf
    refine g_put (ws' := wRf E a0 S0x204) (ty := .boolean) h flX11_70 gftX11 rfl (by decide +kernel) dX11_cause_204 0 rfl rfl rfl (Nat.le_of_ble_eq_true rfl) (by cases q204; rfl) ?_
    refine g_iload h dX11_cause_207 rfl ?_
    refine g_i2l h dX11_cause_209 ?_
    have er := Option.some.inj hf
    subst er
    exact g_lreturn h dX11_cause_210 rfl ⟨Nat.zero_le _, Nat.zero_le _, rfl, rfl, rfl⟩
  have jn172 : ∀ (v5 : Int32) (s0 : Int32) (s1 : Int32) (S0 : gS) (o4 : Option Value), jX11_cause_172  fu v1 v2 v3 v5 s0 s1 S0 = some r → Γ 0 0 172 [some (.ref (a0 0)), some (.int v1), some (.int v2), some (.int v3), o4, some (.int v5)] [.int s0, .int s1, .ref (a0 1)] (wRf E a0 S0) := by
    intro v5 s0 s1 S0 o4 hf
    rw [jX11_cause_172] at hf
    obtain ⟨k172, q172, hf⟩ := gbind hf
    have e172 := (gIx_s q172).1
    have b172 := (gIx_s q172).2
    obtain ⟨S0x172, w172, hf⟩ := gbind hf
    refine g_iast (ws' := wRf E a0 S0x172) h dX11_cause_172 1 k172 rfl e172 b172 (by decide) (by cases w172; rfl) ?_
    refine g_aload_n h dX11_cause_173 rfl ?_
    refine g_get h flX11_9 dX11_cause_174 0 rfl rfl ?_
    refine g_bipush (v := 24) h dX11_cause_177 (by decide) ?_
    refine g_iload h dX11_cause_179 rfl ?_
    refine g_iadd h dX11_cause_181 ?_
    refine g_iload_n h dX11_cause_182 rfl ?_
    refine g_if_ne h dX11_cause_183 rfl (fun c183 => ?_) (fun c183 => ?_)
    · replace hf := ifp_f c183 hf
      refine g_iload_n h dX11_cause_190 rfl ?_
      exact jn191 _ _ _ _ _ hf
    · replace hf := ifp_t c183 hf
      refine g_iconst (v := 0) h dX11_cause_186 (by decide) ?_
      refine g_goto h dX11_cause_187 rfl ?_
      exact jn191 _ _ _ _ _ hf
  have jn107 : ∀ (v4 : Int32) (S0 : gS) (o5 : Option Value), jX11_cause_107  fu v1 v2 v3 v4 S0 = some r → Γ 0 0 107 [some (.ref (a0 0)), some (.int v1), some (.int v2), some (.int v3), some (.int v4), o5] [] (wRf E a0 S0) := by
    intro v4 S0 o5 hf
    rw [jX11_cause_107] at hf
    refine g_iload h dX11_cause_107 rfl ?_
    refine g_if_ne h dX11_cause_109 rfl (fun c109 => ?_) (fun c109 => ?_)
    · replace hf := ifp_f c109 hf
      refine g_aload_n h dX11_cause_120 rfl ?_
      refine g_get h flX11_9 dX11_cause_121 0 rfl rfl ?_
      refine g_iconst (v := 0) h dX11_cause_124 (by decide) ?_
      refine g_iald h dX11_cause_125 1 0 rfl rfl (by decide) (by decide) ?_
      refine g_istore (lv' := [some _, some _, some _, some _, some _, some _]) h dX11_cause_126 (by decide) rfl ?_
      refine g_iload h dX11_cause_128 rfl ?_
      refine g_bipush (v := 8) h dX11_cause_130 (by decide) ?_
      refine g_ic_ne h dX11_cause_132 rfl (fun c132 => ?_) (fun c132 => ?_)
      · replace hf := ifp_f c132 hf
        refine g_aload_n h dX11_cause_143 rfl ?_
        refine g_get h flX11_9 dX11_cause_144 0 rfl rfl ?_
        refine g_bipush (v := 8) h dX11_cause_147 (by decide) ?_
        refine g_iload h dX11_cause_149 rfl ?_
        refine g_iadd h dX11_cause_151 ?_
        refine g_iload_n h dX11_cause_152 rfl ?_
        obtain ⟨k153, q153, hf⟩ := gbind hf
        have e153 := (gIx_s q153).1
        have b153 := (gIx_s q153).2
        obtain ⟨S0x153, w153, hf⟩ := gbind hf
        refine g_iast (ws' := wRf E a0 S0x153) h dX11_cause_153 1 k153 rfl e153 b153 (by decide) (by cases w153; rfl) ?_
        refine g_aload_n h dX11_cause_154 rfl ?_
        refine g_get h flX11_9 dX11_cause_155 0 rfl rfl ?_
        refine g_bipush (v := 16) h dX11_cause_158 (by decide) ?_
        refine g_iload h dX11_cause_160 rfl ?_
        refine g_iadd h dX11_cause_162 ?_
        refine g_iload_n h dX11_cause_163 rfl ?_
        refine g_if_ne h dX11_cause_164 rfl (fun c164 => ?_) (fun c164 => ?_)
        · replace hf := ifp_f c164 hf
          refine g_iload_n h dX11_cause_171 rfl ?_
          exact jn172 _ _ _ _ _ hf
        · replace hf := ifp_t c164 hf
          refine g_iconst (v := 0) h dX11_cause_167 (by decide) ?_
          refine g_goto h dX11_cause_168 rfl ?_
          exact jn172 _ _ _ _ _ hf
      · replace hf := ifp_t c132 hf
        refine g_aload_n h dX11_cause_135 rfl ?_
        refine g_ldc2 (v := (-9000000000000000005)) h dX11_cause_136 gcX11_68 ?_
        obtain ⟨r139, q139, hf⟩ := gbind hf
        refine g_cVw (ws' := wRf E a0 r139.2) h (qX11_tellFinding (a0 := a0) q139) mX11_tellFinding lkX11_64 dX11_cause_139 rfl rfl ⟨Nat.zero_le _, Nat.zero_le _⟩ ⟨by decide, by decide⟩ (Nat.le_of_ble_eq_true rfl) [0, 1, 2, 3, 4, 5, 6, 7, 8, 9, 10, 11, 12, 13, 14, 15] rfl rfl 0 rfl rfl mgX11_20 ?_
        have er := Option.some.inj hf
        subst er
        exact g_lreturn h dX11_cause_142 rfl ⟨Nat.zero_le _, Nat.zero_le _, rfl, rfl, rfl⟩
    · replace hf := ifp_t c109 hf
      refine g_aload_n h dX11_cause_112 rfl ?_
      refine g_ldc2 (v := (-9000000000000000001)) h dX11_cause_113 gcX11_62 ?_
      obtain ⟨r116, q116, hf⟩ := gbind hf
      refine g_cVw (ws' := wRf E a0 r116.2) h (qX11_tellFinding (a0 := a0) q116) mX11_tellFinding lkX11_64 dX11_cause_116 rfl rfl ⟨Nat.zero_le _, Nat.zero_le _⟩ ⟨by decide, by decide⟩ (Nat.le_of_ble_eq_true rfl) [0, 1, 2, 3, 4, 5, 6, 7, 8, 9, 10, 11, 12, 13, 14, 15] rfl rfl 0 rfl rfl mgX11_20 ?_
      have er := Option.some.inj hf
      subst er
      exact g_lreturn h dX11_cause_119 rfl ⟨Nat.zero_le _, Nat.zero_le _, rfl, rfl, rfl⟩
  have jn69 : ∀ (s0 : Int32) (S0 : gS) (o4 : Option Value) (o5 : Option Value), jX11_cause_69  fu v1 v2 v3 s0 S0 = some r → Γ 0 0 69 [some (.ref (a0 0)), some (.int v1), some (.int v2), some (.int v3), o4, o5] [.int s0] (wRf E a0 S0) := by
    intro s0 S0 o4 o5 hf
    rw [jX11_cause_69] at hf
    refine g_istore (lv' := [some _, some _, some _, some _, some _, _]) h dX11_cause_69 (by decide) rfl ?_
    refine g_goto h dX11_cause_71 rfl ?_
    exact jn107 _ _ _ hf
  have jn68 : ∀ (S0 : gS) (o4 : Option Value) (o5 : Option Value), jX11_cause_68  fu v1 v2 v3 S0 = some r → Γ 0 0 68 [some (.ref (a0 0)), some (.int v1), some (.int v2), some (.int v3), o4, o5] [] (wRf E a0 S0) := by
    intro S0 o4 o5 hf
    rw [jX11_cause_68] at hf
    refine g_iconst (v := 0) h dX11_cause_68 (by decide) ?_
    exact jn69 _ _ _ _ hf
  have jn46 : ∀ (S0 : gS) (o4 : Option Value) (o5 : Option Value), jX11_cause_46  fu v1 v2 v3 S0 = some r → Γ 0 0 46 [some (.ref (a0 0)), some (.int v1), some (.int v2), some (.int v3), o4, o5] [] (wRf E a0 S0) := by
    intro S0 o4 o5 hf
    rw [jX11_cause_46] at hf
    refine g_iload_n h dX11_cause_46 rfl ?_
    refine g_iconst (v := 0) h dX11_cause_47 (by decide) ?_
    refine g_iconst (v := 3) h dX11_cause_48 (by decide) ?_
    obtain ⟨r49, q49, hf⟩ := gbind hf
    refine g_cSr h (qX11_in q49) mX11_in lkX11_58 dX11_cause_49 rfl rfl ⟨Nat.zero_le _, Nat.zero_le _⟩ ⟨by decide, by decide⟩ (Nat.le_of_ble_eq_true rfl) [] rfl rfl ?_
    refine g_ifb_eq h dX11_cause_52 rfl (fun c52 => ?_) (fun c52 => ?_)
    · replace hf := ifb_f c52 hf
      exact jn68 _ _ _ hf
    · replace hf := ifb_t c52 hf
      refine g_iload_n h dX11_cause_55 rfl ?_
      refine g_iconst (v := 1) h dX11_cause_56 (by decide) ?_
      refine g_iconst (v := 3) h dX11_cause_57 (by decide) ?_
      obtain ⟨r58, q58, hf⟩ := gbind hf
      refine g_cSr h (qX11_in q58) mX11_in lkX11_58 dX11_cause_58 rfl rfl ⟨Nat.zero_le _, Nat.zero_le _⟩ ⟨by decide, by decide⟩ (Nat.le_of_ble_eq_true rfl) [] rfl rfl ?_
      refine g_ifb_eq h dX11_cause_61 rfl (fun c61 => ?_) (fun c61 => ?_)
      · replace hf := ifb_f c61 hf
        exact jn68 _ _ _ hf
      · replace hf := ifb_t c61 hf
        refine g_iconst (v := 1) h dX11_cause_64 (by decide) ?_
        refine g_goto h dX11_cause_65 rfl ?_
        exact jn69 _ _ _ _ hf
  have jn99 : ∀ (s0 : Int32) (S0 : gS) (o4 : Option Value) (o5 : Option Value), jX11_cause_99  fu v1 v2 v3 s0 S0 = some r → Γ 0 0 99 [some (.ref (a0 0)), some (.int v1), some (.int v2), some (.int v3), o4, o5] [.int s0] (wRf E a0 S0) := by
    intro s0 S0 o4 o5 hf
    rw [jX11_cause_99] at hf
    refine g_istore (lv' := [some _, some _, some _, some _, some _, _]) h dX11_cause_99 (by decide) rfl ?_
    refine g_goto h dX11_cause_101 rfl ?_
    exact jn107 _ _ _ hf
  have jn98 : ∀ (S0 : gS) (o4 : Option Value) (o5 : Option Value), jX11_cause_98  fu v1 v2 v3 S0 = some r → Γ 0 0 98 [some (.ref (a0 0)), some (.int v1), some (.int v2), some (.int v3), o4, o5] [] (wRf E a0 S0) := by
    intro S0 o4 o5 hf
    rw [jX11_cause_98] at hf
    refine g_iconst (v := 0) h dX11_cause_98 (by decide) ?_
    exact jn99 _ _ _ _ hf
  have jn74 : ∀ (S0 : gS) (o4 : Option Value) (o5 : Option Value), jX11_cause_74  fu v1 v2 v3 S0 = some r → Γ 0 0 74 [some (.ref (a0 0)), some (.int v1), some (.int v2), some (.int v3), o4, o5] [] (wRf E a0 S0) := by
    intro S0 o4 o5 hf
    rw [jX11_cause_74] at hf
    refine g_iload_n h dX11_cause_74 rfl ?_
    refine g_bipush (v := (-2)) h dX11_cause_75 (by decide) ?_
    refine g_iconst (v := 2) h dX11_cause_77 (by decide) ?_
    obtain ⟨r78, q78, hf⟩ := gbind hf
    refine g_cSr h (qX11_in q78) mX11_in lkX11_58 dX11_cause_78 rfl rfl ⟨Nat.zero_le _, Nat.zero_le _⟩ ⟨by decide, by decide⟩ (Nat.le_of_ble_eq_true rfl) [] rfl rfl ?_
    refine g_ifb_eq h dX11_cause_81 rfl (fun c81 => ?_) (fun c81 => ?_)
    · replace hf := ifb_f c81 hf
      exact jn98 _ _ _ hf
    · replace hf := ifb_t c81 hf
      refine g_iload_n h dX11_cause_84 rfl ?_
      refine g_bipush (v := (-2)) h dX11_cause_85 (by decide) ?_
      refine g_iconst (v := 2) h dX11_cause_87 (by decide) ?_
      obtain ⟨r88, q88, hf⟩ := gbind hf
      refine g_cSr h (qX11_in q88) mX11_in lkX11_58 dX11_cause_88 rfl rfl ⟨Nat.zero_le _, Nat.zero_le _⟩ ⟨by decide, by decide⟩ (Nat.le_of_ble_eq_true rfl) [] rfl rfl ?_
      refine g_ifb_eq h dX11_cause_91 rfl (fun c91 => ?_) (fun c91 => ?_)
      · replace hf := ifb_f c91 hf
        exact jn98 _ _ _ hf
      · replace hf := ifb_t c91 hf
        refine g_iconst (v := 1) h dX11_cause_94 (by decide) ?_
        refine g_goto h dX11_cause_95 rfl ?_
        exact jn99 _ _ _ _ hf
  refine g_iload_n h dX11_cause_0 rfl ?_
  refine g_ts6_0 h dX11_cause_1 rfl rfl rfl rfl rfl rfl rfl (fun c1 => ?_) (fun c1 => ?_) (fun c1 => ?_) (fun c1 => ?_) (fun c1 => ?_) (fun c1 => ?_) (fun c1 => ?_)
  · replace hf := ifp_t (ts_eq (k := 0) c1 (by decide)) hf
    refine g_iconst (v := 1) h dX11_cause_40 (by decide) ?_
    refine g_istore (lv' := [some _, some _, some _, some _, some _, _]) h dX11_cause_41 (by decide) rfl ?_
    refine g_goto h dX11_cause_43 rfl ?_
    exact jn107 _ _ _ hf
  · replace hf := ifp_f (ts_ne (k := 0) c1 (by decide)) hf
    replace hf := ifp_t (ts_eq (k := 1) c1 (by decide)) hf
    exact jn46 _ _ _ hf
  · replace hf := ifp_f (ts_ne (k := 0) c1 (by decide)) hf
    replace hf := ifp_f (ts_ne (k := 1) c1 (by decide)) hf
    replace hf := ifp_t (ts_eq (k := 2) c1 (by decide)) hf
    exact jn74 _ _ _ hf
  · replace hf := ifp_f (ts_ne (k := 0) c1 (by decide)) hf
    replace hf := ifp_f (ts_ne (k := 1) c1 (by decide)) hf
    replace hf := ifp_f (ts_ne (k := 2) c1 (by decide)) hf
    replace hf := ifp_t (ts_eq (k := 3) c1 (by decide)) hf
    exact jn74 _ _ _ hf
  · replace hf := ifp_f (ts_ne (k := 0) c1 (by decide)) hf
    replace hf := ifp_f (ts_ne (k := 1) c1 (by decide)) hf
    replace hf := ifp_f (ts_ne (k := 2) c1 (by decide)) hf
    replace hf := ifp_f (ts_ne (k := 3) c1 (by decide)) hf
    replace hf := ifp_t (ts_eq (k := 4) c1 (by decide)) hf
    exact jn74 _ _ _ hf
  · replace hf := ifp_f (ts_ne (k := 0) c1 (by decide)) hf
    replace hf := ifp_f (ts_ne (k := 1) c1 (by decide)) hf
    replace hf := ifp_f (ts_ne (k := 2) c1 (by decide)) hf
    replace hf := ifp_f (ts_ne (k := 3) c1 (by decide)) hf
    replace hf := ifp_f (ts_ne (k := 4) c1 (by decide)) hf
    replace hf := ifp_t (ts_eq (k := 5) c1 (by decide)) hf
    exact jn46 _ _ _ hf
  · replace hf := ifp_f (ts_out (k := 0) c1 (by decide)) hf
    replace hf := ifp_f (ts_out (k := 1) c1 (by decide)) hf
    replace hf := ifp_f (ts_out (k := 2) c1 (by decide)) hf
    replace hf := ifp_f (ts_out (k := 3) c1 (by decide)) hf
    replace hf := ifp_f (ts_out (k := 4) c1 (by decide)) hf
    replace hf := ifp_f (ts_out (k := 5) c1 (by decide)) hf
    refine g_iconst (v := 0) h dX11_cause_104 (by decide) ?_
    refine g_istore (lv' := [some _, some _, some _, some _, some _, _]) h dX11_cause_105 (by decide) rfl ?_
    exact jn107 _ _ _ hf
def jX11_shown_59  (fu : Nat) (S0 : gS) (v1 : Int32) (v2 : Int32) (v4 : Int32) (v5 : Int32) (v6 : Int32) (v7 : Int32) (s0 : Int32) : Option (Int64) := ((gIx ((8 : Int32) + v1) 160).bind fun k69 => (if ((iA S0 0) k69) = 0 then (some (1 : Int64)) else (if ((iA S0 0) k69) = 1 then (if s0 = 0 then (some (v7.toInt64)) else (if s0 = (2 : Int32) then (some ((-v7).toInt64)) else (some (0 : Int64)))) else (if ((iA S0 0) k69) = 2 then (if v4 = 0 then (some (v6.toInt64)) else (some (v7.toInt64))) else (if ((iA S0 0) k69) = 3 then (if v4 = 0 then (if v5 = 0 then (some ((v6 + (1 : Int32)).toInt64)) else (some ((v6 + (0 : Int32)).toInt64))) else (if v5 = 0 then (some ((v7 + (1 : Int32)).toInt64)) else (some ((v7 + (0 : Int32)).toInt64)))) else (if ((iA S0 0) k69) = 4 then (if v5 = (1 : Int32) then (some (((v6 * (v5 - (1 : Int32))) + v7).toInt64)) else (some (((v6 * (v5 - (1 : Int32))) + (0 : Int32)).toInt64))) else (if s0 = 0 then (some (v7.toInt64)) else (if s0 = (2 : Int32) then (some ((-v7).toInt64)) else (if 0 ≤ s0 then (some (1 : Int64)) else (some (0 : Int64)))))))))))
def fX11_shown (fu : Nat) (S0 : gS) (v1 : Int32) (v2 : Int32) : Option (Int64) := ((gIx ((16 : Int32) + v1) 160).bind fun k25 => ((gIx ((24 : Int32) + v1) 160).bind fun k36 => (if (2 : Int32) ≤ (v2 / (6 : Int32)) then (jX11_shown_59  fu S0 v1 v2 ((v2 / (3 : Int32)) - (v2 / (3 : Int32)) / (2 : Int32) * (2 : Int32)) (v2 - v2 / (3 : Int32) * (3 : Int32)) ((iA S0 0) k25) ((iA S0 0) k36) (((((v2 / (6 : Int32)) - (2 : Int32)) - ((iA S0 0) k25)) + (8 : Int32)) - ((((v2 / (6 : Int32)) - (2 : Int32)) - ((iA S0 0) k25)) + (8 : Int32)) / (4 : Int32) * (4 : Int32))) else (jX11_shown_59  fu S0 v1 v2 ((v2 / (3 : Int32)) - (v2 / (3 : Int32)) / (2 : Int32) * (2 : Int32)) (v2 - v2 / (3 : Int32) * (3 : Int32)) ((iA S0 0) k25) ((iA S0 0) k36) (-1 : Int32)))))
set_option maxHeartbeats 4000000 in
set_option maxRecDepth 100000 in
theorem qX11_shown {l : Launch} {E : gE} {a0 : Nat → Nat} {fu : Nat} {S0 : gS} {v1 : Int32} {v2 : Int32} {r : Int64} (hf : fX11_shown fu S0 v1 v2 = some r) : CtrF l yX11_shown cX11_shown 9 (some .long) (gR 0 0) E [.ref (a0 0), .int v1, .int v2] (wRf E a0 S0) (some (.long r)) (wRf E a0 S0) := by
  refine ctr_of false (plainFor_of_name (by decide)) (Nat.le_of_ble_eq_true rfl) (fun q => by cases q) (fun Γ h => ?_)
  refine g_lv [some _, some _, some _, _, _, _, _, _, _] rfl ?_
  rw [fX11_shown] at hf
  have jn59 : ∀ (v4 : Int32) (v5 : Int32) (v6 : Int32) (v7 : Int32) (s0 : Int32) (o3 : Option Value) (o8 : Option Value), jX11_shown_59  fu S0 v1 v2 v4 v5 v6 v7 s0 = some r → Γ 0 0 59 [some (.ref (a0 0)), some (.int v1), some (.int v2), o3, some (.int v4), some (.int v5), some (.int v6), some (.int v7), o8] [.int s0] (wRf E a0 S0) := by
    intro v4 v5 v6 v7 s0 o3 o8 hf
    rw [jX11_shown_59] at hf
    refine g_istore (lv' := [some _, some _, some _, _, some _, some _, some _, some _, some _]) h dX11_shown_59 (by decide) rfl ?_
    refine g_aload_n h dX11_shown_61 rfl ?_
    refine g_get h flX11_9 dX11_shown_62 0 rfl rfl ?_
    refine g_bipush (v := 8) h dX11_shown_65 (by decide) ?_
    refine g_iload_n h dX11_shown_67 rfl ?_
    refine g_iadd h dX11_shown_68 ?_
    obtain ⟨k69, q69, hf⟩ := gbind hf
    have e69 := (gIx_s q69).1
    have b69 := (gIx_s q69).2
    refine g_iald h dX11_shown_69 1 k69 rfl e69 b69 (by decide) ?_
    refine g_ts5_0 h dX11_shown_70 rfl rfl rfl rfl rfl rfl (fun c70 => ?_) (fun c70 => ?_) (fun c70 => ?_) (fun c70 => ?_) (fun c70 => ?_) (fun c70 => ?_)
    · replace hf := ifp_t (ts_eq (k := 0) c70 (by decide)) hf
      refine g_lconst (v := 1) h dX11_shown_104 (by decide) ?_
      have er := Option.some.inj hf
      subst er
      exact g_lreturn h dX11_shown_105 rfl ⟨Nat.zero_le _, Nat.zero_le _, rfl, rfl, rfl⟩
    · replace hf := ifp_f (ts_ne (k := 0) c70 (by decide)) hf
      replace hf := ifp_t (ts_eq (k := 1) c70 (by decide)) hf
      refine g_iload h dX11_shown_106 rfl ?_
      refine g_if_ne h dX11_shown_108 rfl (fun c108 => ?_) (fun c108 => ?_)
      · replace hf := ifp_f c108 hf
        refine g_iload h dX11_shown_117 rfl ?_
        refine g_iconst (v := 2) h dX11_shown_119 (by decide) ?_
        refine g_ic_ne h dX11_shown_120 rfl (fun c120 => ?_) (fun c120 => ?_)
        · replace hf := ifp_f c120 hf
          refine g_lconst (v := 0) h dX11_shown_130 (by decide) ?_
          have er := Option.some.inj hf
          subst er
          exact g_lreturn h dX11_shown_131 rfl ⟨Nat.zero_le _, Nat.zero_le _, rfl, rfl, rfl⟩
        · replace hf := ifp_t c120 hf
          refine g_iload h dX11_shown_123 rfl ?_
          refine g_ineg h dX11_shown_125 ?_
          refine g_i2l h dX11_shown_126 ?_
          refine g_goto h dX11_shown_127 rfl ?_
          have er := Option.some.inj hf
          subst er
          exact g_lreturn h dX11_shown_131 rfl ⟨Nat.zero_le _, Nat.zero_le _, rfl, rfl, rfl⟩
      · replace hf := ifp_t c108 hf
        refine g_iload h dX11_shown_111 rfl ?_
        refine g_i2l h dX11_shown_113 ?_
        refine g_goto h dX11_shown_114 rfl ?_
        have er := Option.some.inj hf
        subst er
        exact g_lreturn h dX11_shown_131 rfl ⟨Nat.zero_le _, Nat.zero_le _, rfl, rfl, rfl⟩
    · replace hf := ifp_f (ts_ne (k := 0) c70 (by decide)) hf
      replace hf := ifp_f (ts_ne (k := 1) c70 (by decide)) hf
      replace hf := ifp_t (ts_eq (k := 2) c70 (by decide)) hf
      refine g_iload h dX11_shown_132 rfl ?_
      refine g_if_ne h dX11_shown_134 rfl (fun c134 => ?_) (fun c134 => ?_)
      · replace hf := ifp_f c134 hf
        refine g_iload h dX11_shown_143 rfl ?_
        refine g_i2l h dX11_shown_145 ?_
        have er := Option.some.inj hf
        subst er
        exact g_lreturn h dX11_shown_146 rfl ⟨Nat.zero_le _, Nat.zero_le _, rfl, rfl, rfl⟩
      · replace hf := ifp_t c134 hf
        refine g_iload h dX11_shown_137 rfl ?_
        refine g_i2l h dX11_shown_139 ?_
        refine g_goto h dX11_shown_140 rfl ?_
        have er := Option.some.inj hf
        subst er
        exact g_lreturn h dX11_shown_146 rfl ⟨Nat.zero_le _, Nat.zero_le _, rfl, rfl, rfl⟩
    · replace hf := ifp_f (ts_ne (k := 0) c70 (by decide)) hf
      replace hf := ifp_f (ts_ne (k := 1) c70 (by decide)) hf
      replace hf := ifp_f (ts_ne (k := 2) c70 (by decide)) hf
      replace hf := ifp_t (ts_eq (k := 3) c70 (by decide)) hf
      refine g_iload h dX11_shown_147 rfl ?_
      refine g_if_ne h dX11_shown_149 rfl (fun c149 => ?_) (fun c149 => ?_)
      · replace hf := ifp_f c149 hf
        refine g_iload h dX11_shown_157 rfl ?_
        refine g_iload h dX11_shown_159 rfl ?_
        refine g_if_ne h dX11_shown_161 rfl (fun c161 => ?_) (fun c161 => ?_)
        · replace hf := ifp_f c161 hf
          refine g_iconst (v := 0) h dX11_shown_168 (by decide) ?_
          refine g_iadd h dX11_shown_169 ?_
          refine g_i2l h dX11_shown_170 ?_
          have er := Option.some.inj hf
          subst er
          exact g_lreturn h dX11_shown_171 rfl ⟨Nat.zero_le _, Nat.zero_le _, rfl, rfl, rfl⟩
        · replace hf := ifp_t c161 hf
          refine g_iconst (v := 1) h dX11_shown_164 (by decide) ?_
          refine g_goto h dX11_shown_165 rfl ?_
          refine g_iadd h dX11_shown_169 ?_
          refine g_i2l h dX11_shown_170 ?_
          have er := Option.some.inj hf
          subst er
          exact g_lreturn h dX11_shown_171 rfl ⟨Nat.zero_le _, Nat.zero_le _, rfl, rfl, rfl⟩
      · replace hf := ifp_t c149 hf
        refine g_iload h dX11_shown_152 rfl ?_
        refine g_goto h dX11_shown_154 rfl ?_
        refine g_iload h dX11_shown_159 rfl ?_
        refine g_if_ne h dX11_shown_161 rfl (fun c161 => ?_) (fun c161 => ?_)
        · replace hf := ifp_f c161 hf
          refine g_iconst (v := 0) h dX11_shown_168 (by decide) ?_
          refine g_iadd h dX11_shown_169 ?_
          refine g_i2l h dX11_shown_170 ?_
          have er := Option.some.inj hf
          subst er
          exact g_lreturn h dX11_shown_171 rfl ⟨Nat.zero_le _, Nat.zero_le _, rfl, rfl, rfl⟩
        · replace hf := ifp_t c161 hf
          refine g_iconst (v := 1) h dX11_shown_164 (by decide) ?_
          refine g_goto h dX11_shown_165 rfl ?_
          refine g_iadd h dX11_shown_169 ?_
          refine g_i2l h dX11_shown_170 ?_
          have er := Option.some.inj hf
          subst er
          exact g_lreturn h dX11_shown_171 rfl ⟨Nat.zero_le _, Nat.zero_le _, rfl, rfl, rfl⟩
    · replace hf := ifp_f (ts_ne (k := 0) c70 (by decide)) hf
      replace hf := ifp_f (ts_ne (k := 1) c70 (by decide)) hf
      replace hf := ifp_f (ts_ne (k := 2) c70 (by decide)) hf
      replace hf := ifp_f (ts_ne (k := 3) c70 (by decide)) hf
      replace hf := ifp_t (ts_eq (k := 4) c70 (by decide)) hf
      refine g_iload h dX11_shown_172 rfl ?_
      refine g_iload h dX11_shown_174 rfl ?_
      refine g_iconst (v := 1) h dX11_shown_176 (by decide) ?_
      refine g_isub h dX11_shown_177 ?_
      refine g_imul h dX11_shown_178 ?_
      refine g_iload h dX11_shown_179 rfl ?_
      refine g_iconst (v := 1) h dX11_shown_181 (by decide) ?_
      refine g_ic_ne h dX11_shown_182 rfl (fun c182 => ?_) (fun c182 => ?_)
      · replace hf := ifp_f c182 hf
        refine g_iconst (v := 0) h dX11_shown_190 (by decide) ?_
        refine g_iadd h dX11_shown_191 ?_
        refine g_i2l h dX11_shown_192 ?_
        have er := Option.some.inj hf
        subst er
        exact g_lreturn h dX11_shown_193 rfl ⟨Nat.zero_le _, Nat.zero_le _, rfl, rfl, rfl⟩
      · replace hf := ifp_t c182 hf
        refine g_iload h dX11_shown_185 rfl ?_
        refine g_goto h dX11_shown_187 rfl ?_
        refine g_iadd h dX11_shown_191 ?_
        refine g_i2l h dX11_shown_192 ?_
        have er := Option.some.inj hf
        subst er
        exact g_lreturn h dX11_shown_193 rfl ⟨Nat.zero_le _, Nat.zero_le _, rfl, rfl, rfl⟩
    · replace hf := ifp_f (ts_out (k := 0) c70 (by decide)) hf
      replace hf := ifp_f (ts_out (k := 1) c70 (by decide)) hf
      replace hf := ifp_f (ts_out (k := 2) c70 (by decide)) hf
      replace hf := ifp_f (ts_out (k := 3) c70 (by decide)) hf
      replace hf := ifp_f (ts_out (k := 4) c70 (by decide)) hf
      refine g_iload h dX11_shown_194 rfl ?_
      refine g_if_ne h dX11_shown_196 rfl (fun c196 => ?_) (fun c196 => ?_)
      · replace hf := ifp_f c196 hf
        refine g_iload h dX11_shown_205 rfl ?_
        refine g_iconst (v := 2) h dX11_shown_207 (by decide) ?_
        refine g_ic_ne h dX11_shown_208 rfl (fun c208 => ?_) (fun c208 => ?_)
        · replace hf := ifp_f c208 hf
          refine g_iload h dX11_shown_218 rfl ?_
          refine g_if_ge h dX11_shown_220 rfl (fun c220 => ?_) (fun c220 => ?_)
          · replace hf := ifp_t c220 hf
            refine g_lconst (v := 1) h dX11_shown_227 (by decide) ?_
            have er := Option.some.inj hf
            subst er
            exact g_lreturn h dX11_shown_228 rfl ⟨Nat.zero_le _, Nat.zero_le _, rfl, rfl, rfl⟩
          · replace hf := ifp_f c220 hf
            refine g_lconst (v := 0) h dX11_shown_223 (by decide) ?_
            refine g_goto h dX11_shown_224 rfl ?_
            have er := Option.some.inj hf
            subst er
            exact g_lreturn h dX11_shown_228 rfl ⟨Nat.zero_le _, Nat.zero_le _, rfl, rfl, rfl⟩
        · replace hf := ifp_t c208 hf
          refine g_iload h dX11_shown_211 rfl ?_
          refine g_ineg h dX11_shown_213 ?_
          refine g_i2l h dX11_shown_214 ?_
          refine g_goto h dX11_shown_215 rfl ?_
          have er := Option.some.inj hf
          subst er
          exact g_lreturn h dX11_shown_228 rfl ⟨Nat.zero_le _, Nat.zero_le _, rfl, rfl, rfl⟩
      · replace hf := ifp_t c196 hf
        refine g_iload h dX11_shown_199 rfl ?_
        refine g_i2l h dX11_shown_201 ?_
        refine g_goto h dX11_shown_202 rfl ?_
        have er := Option.some.inj hf
        subst er
        exact g_lreturn h dX11_shown_228 rfl ⟨Nat.zero_le _, Nat.zero_le _, rfl, rfl, rfl⟩
  refine g_iload_n h dX11_shown_0 rfl ?_
  refine g_bipush (v := 6) h dX11_shown_1 (by decide) ?_
  refine g_idiv h dX11_shown_3 (by decide) ?_
  refine g_istore_n (lv' := [some _, some _, some _, some _, _, _, _, _, _]) h dX11_shown_4 (by decide) rfl ?_
  refine g_iload_n h dX11_shown_5 rfl ?_
  refine g_iconst (v := 3) h dX11_shown_6 (by decide) ?_
  refine g_idiv h dX11_shown_7 (by decide) ?_
  refine g_iconst (v := 2) h dX11_shown_8 (by decide) ?_
  refine g_irem h dX11_shown_9 (by decide) ?_
  refine g_istore (lv' := [some _, some _, some _, some _, some _, _, _, _, _]) h dX11_shown_10 (by decide) rfl ?_
  refine g_iload_n h dX11_shown_12 rfl ?_
  refine g_iconst (v := 3) h dX11_shown_13 (by decide) ?_
  refine g_irem h dX11_shown_14 (by decide) ?_
  refine g_istore (lv' := [some _, some _, some _, some _, some _, some _, _, _, _]) h dX11_shown_15 (by decide) rfl ?_
  refine g_aload_n h dX11_shown_17 rfl ?_
  refine g_get h flX11_9 dX11_shown_18 0 rfl rfl ?_
  refine g_bipush (v := 16) h dX11_shown_21 (by decide) ?_
  refine g_iload_n h dX11_shown_23 rfl ?_
  refine g_iadd h dX11_shown_24 ?_
  obtain ⟨k25, q25, hf⟩ := gbind hf
  have e25 := (gIx_s q25).1
  have b25 := (gIx_s q25).2
  refine g_iald h dX11_shown_25 1 k25 rfl e25 b25 (by decide) ?_
  refine g_istore (lv' := [some _, some _, some _, some _, some _, some _, some _, _, _]) h dX11_shown_26 (by decide) rfl ?_
  refine g_aload_n h dX11_shown_28 rfl ?_
  refine g_get h flX11_9 dX11_shown_29 0 rfl rfl ?_
  refine g_bipush (v := 24) h dX11_shown_32 (by decide) ?_
  refine g_iload_n h dX11_shown_34 rfl ?_
  refine g_iadd h dX11_shown_35 ?_
  obtain ⟨k36, q36, hf⟩ := gbind hf
  have e36 := (gIx_s q36).1
  have b36 := (gIx_s q36).2
  refine g_iald h dX11_shown_36 1 k36 rfl e36 b36 (by decide) ?_
  refine g_istore (lv' := [some _, some _, some _, some _, some _, some _, some _, some _, _]) h dX11_shown_37 (by decide) rfl ?_
  refine g_iload_n h dX11_shown_39 rfl ?_
  refine g_iconst (v := 2) h dX11_shown_40 (by decide) ?_
  refine g_ic_ge h dX11_shown_41 rfl (fun c41 => ?_) (fun c41 => ?_)
  · replace hf := ifp_t c41 hf
    refine g_iload_n h dX11_shown_48 rfl ?_
    refine g_iconst (v := 2) h dX11_shown_49 (by decide) ?_
    refine g_isub h dX11_shown_50 ?_
    refine g_iload h dX11_shown_51 rfl ?_
    refine g_isub h dX11_shown_53 ?_
    refine g_bipush (v := 8) h dX11_shown_54 (by decide) ?_
    refine g_iadd h dX11_shown_56 ?_
    refine g_iconst (v := 4) h dX11_shown_57 (by decide) ?_
    refine g_irem h dX11_shown_58 (by decide) ?_
    exact jn59 _ _ _ _ _ _ _ hf
  · replace hf := ifp_f c41 hf
    refine g_iconst (v := (-1)) h dX11_shown_44 (by decide) ?_
    refine g_goto h dX11_shown_45 rfl ?_
    exact jn59 _ _ _ _ _ _ _ hf
def fX11_shows (fu : Nat) (S0 : gS) (v1 : Int32) (v2 : Int32) : Option (Int64 × gS) := ((fX11_isCause fu S0 v1).bind fun r2 => (if r2 = true then ((fX11_isState fu v2).bind fun r9 => (if r9 = true then ((fX11_shown fu S0 v1 v2).bind fun r18 => (some (r18, S0))) else ((fX11_tellFinding fu S0 (-9000000000000000001 : Int64)).bind fun r28 => (some (r28.1, r28.2))))) else ((fX11_tellFinding fu S0 (-9000000000000000001 : Int64)).bind fun r28 => (some (r28.1, r28.2)))))
set_option maxHeartbeats 4000000 in
set_option maxRecDepth 100000 in
theorem qX11_shows {l : Launch} {E : gE} {a0 : Nat → Nat} {fu : Nat} {S0 : gS} {v1 : Int32} {v2 : Int32} {r : Int64 × gS} (hf : fX11_shows fu S0 v1 v2 = some r) : CtrF l yX11_shows cX11_shows 3 (some .long) (gR 2 43) E [.ref (a0 0), .int v1, .int v2] (wRf E a0 S0) (some (.long r.1)) (wRf E a0 r.2) := by
  refine ctr_of false (plainFor_of_name (by decide)) (Nat.le_of_ble_eq_true rfl) (fun q => by cases q) (fun Γ h => ?_)
  refine g_lv [some _, some _, some _] rfl ?_
  rw [fX11_shows] at hf
  refine g_aload_n h dX11_shows_0 rfl ?_
  refine g_iload_n h dX11_shows_1 rfl ?_
  obtain ⟨r2, q2, hf⟩ := gbind hf
  refine g_cVr h (qX11_isCause (a0 := a0) q2) mX11_isCause lkX11_74 dX11_shows_2 rfl rfl ⟨Nat.zero_le _, Nat.zero_le _⟩ ⟨by decide, by decide⟩ (Nat.le_of_ble_eq_true rfl) [0, 1, 2, 3, 4, 5, 6, 7, 8, 9, 10, 11, 12, 13, 14, 15] rfl rfl 0 rfl rfl ?_
  refine g_ifb_eq h dX11_shows_5 rfl (fun c5 => ?_) (fun c5 => ?_)
  · replace hf := ifb_f c5 hf
    refine g_aload_n h dX11_shows_24 rfl ?_
    refine g_ldc2 (v := (-9000000000000000001)) h dX11_shows_25 gcX11_62 ?_
    obtain ⟨r28, q28, hf⟩ := gbind hf
    refine g_cVw (ws' := wRf E a0 r28.2) h (qX11_tellFinding (a0 := a0) q28) mX11_tellFinding lkX11_64 dX11_shows_28 rfl rfl ⟨Nat.zero_le _, Nat.zero_le _⟩ ⟨by decide, by decide⟩ (Nat.le_of_ble_eq_true rfl) [0, 1, 2, 3, 4, 5, 6, 7, 8, 9, 10, 11, 12, 13, 14, 15] rfl rfl 0 rfl rfl mgX11_20 ?_
    have er := Option.some.inj hf
    subst er
    exact g_lreturn h dX11_shows_31 rfl ⟨Nat.zero_le _, Nat.zero_le _, rfl, rfl, rfl⟩
  · replace hf := ifb_t c5 hf
    refine g_iload_n h dX11_shows_8 rfl ?_
    obtain ⟨r9, q9, hf⟩ := gbind hf
    refine g_cSr h (qX11_isState q9) mX11_isState lkX11_78 dX11_shows_9 rfl rfl ⟨Nat.zero_le _, Nat.zero_le _⟩ ⟨by decide, by decide⟩ (Nat.le_of_ble_eq_true rfl) [] rfl rfl ?_
    refine g_ifb_eq h dX11_shows_12 rfl (fun c12 => ?_) (fun c12 => ?_)
    · replace hf := ifb_f c12 hf
      refine g_aload_n h dX11_shows_24 rfl ?_
      refine g_ldc2 (v := (-9000000000000000001)) h dX11_shows_25 gcX11_62 ?_
      obtain ⟨r28, q28, hf⟩ := gbind hf
      refine g_cVw (ws' := wRf E a0 r28.2) h (qX11_tellFinding (a0 := a0) q28) mX11_tellFinding lkX11_64 dX11_shows_28 rfl rfl ⟨Nat.zero_le _, Nat.zero_le _⟩ ⟨by decide, by decide⟩ (Nat.le_of_ble_eq_true rfl) [0, 1, 2, 3, 4, 5, 6, 7, 8, 9, 10, 11, 12, 13, 14, 15] rfl rfl 0 rfl rfl mgX11_20 ?_
      have er := Option.some.inj hf
      subst er
      exact g_lreturn h dX11_shows_31 rfl ⟨Nat.zero_le _, Nat.zero_le _, rfl, rfl, rfl⟩
    · replace hf := ifb_t c12 hf
      refine g_aload_n h dX11_shows_15 rfl ?_
      refine g_iload_n h dX11_shows_16 rfl ?_
      refine g_iload_n h dX11_shows_17 rfl ?_
      obtain ⟨r18, q18, hf⟩ := gbind hf
      refine g_cVr h (qX11_shown (a0 := a0) q18) mX11_shown lkX11_81 dX11_shows_18 rfl rfl ⟨Nat.zero_le _, Nat.zero_le _⟩ ⟨by decide, by decide⟩ (Nat.le_of_ble_eq_true rfl) [0, 1, 2, 3, 4, 5, 6, 7, 8, 9, 10, 11, 12, 13, 14, 15] rfl rfl 0 rfl rfl ?_
      refine g_goto h dX11_shows_21 rfl ?_
      have er := Option.some.inj hf
      subst er
      exact g_lreturn h dX11_shows_31 rfl ⟨Nat.zero_le _, Nat.zero_le _, rfl, rfl, rfl⟩
def jX11_as_69  (fu : Nat) (v1 : Int32) (v2 : Int32) (s0 : Int32) (S0 : gS) : Option (Int64 × gS) := (if s0 = 0 then ((fX11_tellFinding fu S0 (-9000000000000000003 : Int64)).bind fun r93 => (some (r93.1, r93.2))) else ((gIx ((16 : Int32) + v1) 160).bind fun k84 => (some ((((iA S0 0) k84).toInt64), S0))))
def jX11_as_64  (fu : Nat) (v1 : Int32) (v2 : Int32) (S0 : gS) : Option (Int64 × gS) := (jX11_as_69  fu v1 v2 (1 : Int32) S0)
def jX11_as_68  (fu : Nat) (v1 : Int32) (v2 : Int32) (S0 : gS) : Option (Int64 × gS) := (jX11_as_69  fu v1 v2 (0 : Int32) S0)
def jX11_as_54  (fu : Nat) (v1 : Int32) (v2 : Int32) (v3 : Int32) (S0 : gS) : Option (Int64 × gS) := (if v3 = (3 : Int32) then (if v2 = (2 : Int32) then (jX11_as_64  fu v1 v2 S0) else (jX11_as_68  fu v1 v2 S0)) else (jX11_as_68  fu v1 v2 S0))
def fX11_as (fu : Nat) (S0 : gS) (v1 : Int32) (v2 : Int32) : Option (Int64 × gS) := ((fX11_isCause fu S0 v1).bind fun r2 => (if r2 = true then ((fX11_in fu v2 (0 : Int32) (5 : Int32)).bind fun r11 => (if r11 = true then ((gIx ((8 : Int32) + v1) 160).bind fun k33 => (if v2 = 0 then (jX11_as_64  fu v1 v2 S0) else (if ((iA S0 0) k33) = v2 then (jX11_as_64  fu v1 v2 S0) else (if ((iA S0 0) k33) = (5 : Int32) then (if v2 = (1 : Int32) then (jX11_as_64  fu v1 v2 S0) else (jX11_as_54  fu v1 v2 ((iA S0 0) k33) S0)) else (jX11_as_54  fu v1 v2 ((iA S0 0) k33) S0))))) else ((fX11_tellFinding fu S0 (-9000000000000000001 : Int64)).bind fun r21 => (some (r21.1, r21.2))))) else ((fX11_tellFinding fu S0 (-9000000000000000001 : Int64)).bind fun r21 => (some (r21.1, r21.2)))))
set_option maxHeartbeats 4000000 in
set_option maxRecDepth 100000 in
theorem qX11_as {l : Launch} {E : gE} {a0 : Nat → Nat} {fu : Nat} {S0 : gS} {v1 : Int32} {v2 : Int32} {r : Int64 × gS} (hf : fX11_as fu S0 v1 v2 = some r) : CtrF l yX11_as cX11_as 5 (some .long) (gR 2 43) E [.ref (a0 0), .int v1, .int v2] (wRf E a0 S0) (some (.long r.1)) (wRf E a0 r.2) := by
  refine ctr_of false (plainFor_of_name (by decide)) (Nat.le_of_ble_eq_true rfl) (fun q => by cases q) (fun Γ h => ?_)
  refine g_lv [some _, some _, some _, _, _] rfl ?_
  rw [fX11_as] at hf
  have jn69 : ∀ (s0 : Int32) (S0 : gS) (o3 : Option Value) (o4 : Option Value), jX11_as_69  fu v1 v2 s0 S0 = some r → Γ 0 0 69 [some (.ref (a0 0)), some (.int v1), some (.int v2), o3, o4] [.int s0] (wRf E a0 S0) := by
    intro s0 S0 o3 o4 hf
    rw [jX11_as_69] at hf
    refine g_istore (lv' := [some _, some _, some _, _, some _]) h dX11_as_69 (by decide) rfl ?_
    refine g_iload h dX11_as_71 rfl ?_
    refine g_if_eq h dX11_as_73 rfl (fun c73 => ?_) (fun c73 => ?_)
    · replace hf := ifp_t c73 hf
      refine g_aload_n h dX11_as_89 rfl ?_
      refine g_ldc2 (v := (-9000000000000000003)) h dX11_as_90 gcX11_85 ?_
      obtain ⟨r93, q93, hf⟩ := gbind hf
      refine g_cVw (ws' := wRf E a0 r93.2) h (qX11_tellFinding (a0 := a0) q93) mX11_tellFinding lkX11_64 dX11_as_93 rfl rfl ⟨Nat.zero_le _, Nat.zero_le _⟩ ⟨by decide, by decide⟩ (Nat.le_of_ble_eq_true rfl) [0, 1, 2, 3, 4, 5, 6, 7, 8, 9, 10, 11, 12, 13, 14, 15] rfl rfl 0 rfl rfl mgX11_20 ?_
      have er := Option.some.inj hf
      subst er
      exact g_lreturn h dX11_as_96 rfl ⟨Nat.zero_le _, Nat.zero_le _, rfl, rfl, rfl⟩
    · replace hf := ifp_f c73 hf
      refine g_aload_n h dX11_as_76 rfl ?_
      refine g_get h flX11_9 dX11_as_77 0 rfl rfl ?_
      refine g_bipush (v := 16) h dX11_as_80 (by decide) ?_
      refine g_iload_n h dX11_as_82 rfl ?_
      refine g_iadd h dX11_as_83 ?_
      obtain ⟨k84, q84, hf⟩ := gbind hf
      have e84 := (gIx_s q84).1
      have b84 := (gIx_s q84).2
      refine g_iald h dX11_as_84 1 k84 rfl e84 b84 (by decide) ?_
      refine g_i2l h dX11_as_85 ?_
      refine g_goto h dX11_as_86 rfl ?_
      have er := Option.some.inj hf
      subst er
      exact g_lreturn h dX11_as_96 rfl ⟨Nat.zero_le _, Nat.zero_le _, rfl, rfl, rfl⟩
  have jn64 : ∀ (S0 : gS) (o3 : Option Value) (o4 : Option Value), jX11_as_64  fu v1 v2 S0 = some r → Γ 0 0 64 [some (.ref (a0 0)), some (.int v1), some (.int v2), o3, o4] [] (wRf E a0 S0) := by
    intro S0 o3 o4 hf
    rw [jX11_as_64] at hf
    refine g_iconst (v := 1) h dX11_as_64 (by decide) ?_
    refine g_goto h dX11_as_65 rfl ?_
    exact jn69 _ _ _ _ hf
  have jn68 : ∀ (S0 : gS) (o3 : Option Value) (o4 : Option Value), jX11_as_68  fu v1 v2 S0 = some r → Γ 0 0 68 [some (.ref (a0 0)), some (.int v1), some (.int v2), o3, o4] [] (wRf E a0 S0) := by
    intro S0 o3 o4 hf
    rw [jX11_as_68] at hf
    refine g_iconst (v := 0) h dX11_as_68 (by decide) ?_
    exact jn69 _ _ _ _ hf
  have jn54 : ∀ (v3 : Int32) (S0 : gS) (o4 : Option Value), jX11_as_54  fu v1 v2 v3 S0 = some r → Γ 0 0 54 [some (.ref (a0 0)), some (.int v1), some (.int v2), some (.int v3), o4] [] (wRf E a0 S0) := by
    intro v3 S0 o4 hf
    rw [jX11_as_54] at hf
    refine g_iload_n h dX11_as_54 rfl ?_
    refine g_iconst (v := 3) h dX11_as_55 (by decide) ?_
    refine g_ic_ne h dX11_as_56 rfl (fun c56 => ?_) (fun c56 => ?_)
    · replace hf := ifp_f c56 hf
      exact jn68 _ _ _ hf
    · replace hf := ifp_t c56 hf
      refine g_iload_n h dX11_as_59 rfl ?_
      refine g_iconst (v := 2) h dX11_as_60 (by decide) ?_
      refine g_ic_ne h dX11_as_61 rfl (fun c61 => ?_) (fun c61 => ?_)
      · replace hf := ifp_f c61 hf
        exact jn68 _ _ _ hf
      · replace hf := ifp_t c61 hf
        exact jn64 _ _ _ hf
  refine g_aload_n h dX11_as_0 rfl ?_
  refine g_iload_n h dX11_as_1 rfl ?_
  obtain ⟨r2, q2, hf⟩ := gbind hf
  refine g_cVr h (qX11_isCause (a0 := a0) q2) mX11_isCause lkX11_74 dX11_as_2 rfl rfl ⟨Nat.zero_le _, Nat.zero_le _⟩ ⟨by decide, by decide⟩ (Nat.le_of_ble_eq_true rfl) [0, 1, 2, 3, 4, 5, 6, 7, 8, 9, 10, 11, 12, 13, 14, 15] rfl rfl 0 rfl rfl ?_
  refine g_ifb_eq h dX11_as_5 rfl (fun c5 => ?_) (fun c5 => ?_)
  · replace hf := ifb_f c5 hf
    refine g_aload_n h dX11_as_17 rfl ?_
    refine g_ldc2 (v := (-9000000000000000001)) h dX11_as_18 gcX11_62 ?_
    obtain ⟨r21, q21, hf⟩ := gbind hf
    refine g_cVw (ws' := wRf E a0 r21.2) h (qX11_tellFinding (a0 := a0) q21) mX11_tellFinding lkX11_64 dX11_as_21 rfl rfl ⟨Nat.zero_le _, Nat.zero_le _⟩ ⟨by decide, by decide⟩ (Nat.le_of_ble_eq_true rfl) [0, 1, 2, 3, 4, 5, 6, 7, 8, 9, 10, 11, 12, 13, 14, 15] rfl rfl 0 rfl rfl mgX11_20 ?_
    have er := Option.some.inj hf
    subst er
    exact g_lreturn h dX11_as_24 rfl ⟨Nat.zero_le _, Nat.zero_le _, rfl, rfl, rfl⟩
  · replace hf := ifb_t c5 hf
    refine g_iload_n h dX11_as_8 rfl ?_
    refine g_iconst (v := 0) h dX11_as_9 (by decide) ?_
    refine g_iconst (v := 5) h dX11_as_10 (by decide) ?_
    obtain ⟨r11, q11, hf⟩ := gbind hf
    refine g_cSr h (qX11_in q11) mX11_in lkX11_58 dX11_as_11 rfl rfl ⟨Nat.zero_le _, Nat.zero_le _⟩ ⟨by decide, by decide⟩ (Nat.le_of_ble_eq_true rfl) [] rfl rfl ?_
    refine g_ifb_ne h dX11_as_14 rfl (fun c14 => ?_) (fun c14 => ?_)
    · replace hf := ifb_t c14 hf
      refine g_aload_n h dX11_as_25 rfl ?_
      refine g_get h flX11_9 dX11_as_26 0 rfl rfl ?_
      refine g_bipush (v := 8) h dX11_as_29 (by decide) ?_
      refine g_iload_n h dX11_as_31 rfl ?_
      refine g_iadd h dX11_as_32 ?_
      obtain ⟨k33, q33, hf⟩ := gbind hf
      have e33 := (gIx_s q33).1
      have b33 := (gIx_s q33).2
      refine g_iald h dX11_as_33 1 k33 rfl e33 b33 (by decide) ?_
      refine g_istore_n (lv' := [some _, some _, some _, some _, _]) h dX11_as_34 (by decide) rfl ?_
      refine g_iload_n h dX11_as_35 rfl ?_
      refine g_if_eq h dX11_as_36 rfl (fun c36 => ?_) (fun c36 => ?_)
      · replace hf := ifp_t c36 hf
        exact jn64 _ _ _ hf
      · replace hf := ifp_f c36 hf
        refine g_iload_n h dX11_as_39 rfl ?_
        refine g_iload_n h dX11_as_40 rfl ?_
        refine g_ic_eq h dX11_as_41 rfl (fun c41 => ?_) (fun c41 => ?_)
        · replace hf := ifp_t c41 hf
          exact jn64 _ _ _ hf
        · replace hf := ifp_f c41 hf
          refine g_iload_n h dX11_as_44 rfl ?_
          refine g_iconst (v := 5) h dX11_as_45 (by decide) ?_
          refine g_ic_ne h dX11_as_46 rfl (fun c46 => ?_) (fun c46 => ?_)
          · replace hf := ifp_f c46 hf
            exact jn54 _ _ _ hf
          · replace hf := ifp_t c46 hf
            refine g_iload_n h dX11_as_49 rfl ?_
            refine g_iconst (v := 1) h dX11_as_50 (by decide) ?_
            refine g_ic_eq h dX11_as_51 rfl (fun c51 => ?_) (fun c51 => ?_)
            · replace hf := ifp_t c51 hf
              exact jn64 _ _ _ hf
            · replace hf := ifp_f c51 hf
              exact jn54 _ _ _ hf
    · replace hf := ifb_f c14 hf
      refine g_aload_n h dX11_as_17 rfl ?_
      refine g_ldc2 (v := (-9000000000000000001)) h dX11_as_18 gcX11_62 ?_
      obtain ⟨r21, q21, hf⟩ := gbind hf
      refine g_cVw (ws' := wRf E a0 r21.2) h (qX11_tellFinding (a0 := a0) q21) mX11_tellFinding lkX11_64 dX11_as_21 rfl rfl ⟨Nat.zero_le _, Nat.zero_le _⟩ ⟨by decide, by decide⟩ (Nat.le_of_ble_eq_true rfl) [0, 1, 2, 3, 4, 5, 6, 7, 8, 9, 10, 11, 12, 13, 14, 15] rfl rfl 0 rfl rfl mgX11_20 ?_
      have er := Option.some.inj hf
      subst er
      exact g_lreturn h dX11_as_24 rfl ⟨Nat.zero_le _, Nat.zero_le _, rfl, rfl, rfl⟩
def fX11_addReading (fu : Nat) (S0 : gS) (v1 : Int32) (v2 : Int32) : Option (gS) := ((gIx ((32 : Int32) + ((iA S0 0) 1)) 160).bind fun k16 => ((some (sAu S0 0 k16 v1)).bind fun S0x16 => ((gIx ((52 : Int32) + ((iA S0 0) 1)) 160).bind fun k26 => ((some (sAu S0x16 0 k26 v2)).bind fun S0x26 => ((some (sAu S0x26 0 1 (((iA S0x26 0) 1) + (1 : Int32)))).bind fun S0x36 => (some S0x36))))))
set_option maxHeartbeats 4000000 in
set_option maxRecDepth 100000 in
theorem qX11_addReading {l : Launch} {E : gE} {a0 : Nat → Nat} {fu : Nat} {S0 : gS} {v1 : Int32} {v2 : Int32} {r : gS} (hf : fX11_addReading fu S0 v1 v2 = some r) : CtrF l yX11_addReading cX11_addReading 4 none (gR 0 0) E [.ref (a0 0), .int v1, .int v2] (wRf E a0 S0) none (wRf E a0 r) := by
  refine ctr_of false (plainFor_of_name (by decide)) (Nat.le_of_ble_eq_true rfl) (fun q => by cases q) (fun Γ h => ?_)
  refine g_lv [some _, some _, some _, _] rfl ?_
  rw [fX11_addReading] at hf
  refine g_aload_n h dX11_addReading_0 rfl ?_
  refine g_get h flX11_9 dX11_addReading_1 0 rfl rfl ?_
  refine g_iconst (v := 1) h dX11_addReading_4 (by decide) ?_
  refine g_iald h dX11_addReading_5 1 1 rfl rfl (by decide) (by decide) ?_
  refine g_istore_n (lv' := [some _, some _, some _, some _]) h dX11_addReading_6 (by decide) rfl ?_
  refine g_aload_n h dX11_addReading_7 rfl ?_
  refine g_get h flX11_9 dX11_addReading_8 0 rfl rfl ?_
  refine g_bipush (v := 32) h dX11_addReading_11 (by decide) ?_
  refine g_iload_n h dX11_addReading_13 rfl ?_
  refine g_iadd h dX11_addReading_14 ?_
  refine g_iload_n h dX11_addReading_15 rfl ?_
  obtain ⟨k16, q16, hf⟩ := gbind hf
  have e16 := (gIx_s q16).1
  have b16 := (gIx_s q16).2
  obtain ⟨S0x16, w16, hf⟩ := gbind hf
  refine g_iast (ws' := wRf E a0 S0x16) h dX11_addReading_16 1 k16 rfl e16 b16 (by decide) (by cases w16; rfl) ?_
  refine g_aload_n h dX11_addReading_17 rfl ?_
  refine g_get h flX11_9 dX11_addReading_18 0 rfl rfl ?_
  refine g_bipush (v := 52) h dX11_addReading_21 (by decide) ?_
  refine g_iload_n h dX11_addReading_23 rfl ?_
  refine g_iadd h dX11_addReading_24 ?_
  refine g_iload_n h dX11_addReading_25 rfl ?_
  obtain ⟨k26, q26, hf⟩ := gbind hf
  have e26 := (gIx_s q26).1
  have b26 := (gIx_s q26).2
  obtain ⟨S0x26, w26, hf⟩ := gbind hf
  refine g_iast (ws' := wRf E a0 S0x26) h dX11_addReading_26 1 k26 rfl e26 b26 (by decide) (by cases w26; rfl) ?_
  refine g_aload_n h dX11_addReading_27 rfl ?_
  refine g_get h flX11_9 dX11_addReading_28 0 rfl rfl ?_
  refine g_iconst (v := 1) h dX11_addReading_31 (by decide) ?_
  refine g_dup2_11 h dX11_addReading_32 rfl rfl ?_
  refine g_iald h dX11_addReading_33 1 1 rfl rfl (by decide) (by decide) ?_
  refine g_iconst (v := 1) h dX11_addReading_34 (by decide) ?_
  refine g_iadd h dX11_addReading_35 ?_
  obtain ⟨S0x36, w36, hf⟩ := gbind hf
  refine g_iast (ws' := wRf E a0 S0x36) h dX11_addReading_36 1 1 rfl rfl (by decide) (by decide) (by cases w36; rfl) ?_
  have er := Option.some.inj hf
  subst er
  exact g_return h dX11_addReading_37 rfl ⟨Nat.zero_le _, Nat.zero_le _, rfl, rfl, rfl⟩
def fX11_read (fu : Nat) (S0 : gS) (v1 : Int32) (v2 : Int32) : Option (Int64 × gS) := ((fX11_isState fu v1).bind fun r1 => (if r1 = true then ((fX11_in fu v2 (-300 : Int32) (300 : Int32)).bind fun r14 => (if r14 = true then (if ((iA S0 0) 1) = (20 : Int32) then ((fX11_tellFinding fu S0 (-9000000000000000005 : Int64)).bind fun r43 => (some (r43.1, r43.2))) else ((fX11_addReading fu S0 v1 v2).bind fun r50 => ((some (sI r50 13 (1 : Int32))).bind fun S0x55 => (some (((((iA S0x55 0) 1) - (1 : Int32)).toInt64), S0x55))))) else ((fX11_tellFinding fu S0 (-9000000000000000001 : Int64)).bind fun r24 => (some (r24.1, r24.2))))) else ((fX11_tellFinding fu S0 (-9000000000000000001 : Int64)).bind fun r24 => (some (r24.1, r24.2)))))
set_option maxHeartbeats 4000000 in
set_option maxRecDepth 100000 in
theorem qX11_read {l : Launch} {E : gE} {a0 : Nat → Nat} {fu : Nat} {S0 : gS} {v1 : Int32} {v2 : Int32} {r : Int64 × gS} (hf : fX11_read fu S0 v1 v2 = some r) : CtrF l yX11_read cX11_read 3 (some .long) (gR 2 42) E [.ref (a0 0), .int v1, .int v2] (wRf E a0 S0) (some (.long r.1)) (wRf E a0 r.2) := by
  refine ctr_of false (plainFor_of_name (by decide)) (Nat.le_of_ble_eq_true rfl) (fun q => by cases q) (fun Γ h => ?_)
  refine g_lv [some _, some _, some _] rfl ?_
  rw [fX11_read] at hf
  refine g_iload_n h dX11_read_0 rfl ?_
  obtain ⟨r1, q1, hf⟩ := gbind hf
  refine g_cSr h (qX11_isState q1) mX11_isState lkX11_78 dX11_read_1 rfl rfl ⟨Nat.zero_le _, Nat.zero_le _⟩ ⟨by decide, by decide⟩ (Nat.le_of_ble_eq_true rfl) [] rfl rfl ?_
  refine g_ifb_eq h dX11_read_4 rfl (fun c4 => ?_) (fun c4 => ?_)
  · replace hf := ifb_f c4 hf
    refine g_aload_n h dX11_read_20 rfl ?_
    refine g_ldc2 (v := (-9000000000000000001)) h dX11_read_21 gcX11_62 ?_
    obtain ⟨r24, q24, hf⟩ := gbind hf
    refine g_cVw (ws' := wRf E a0 r24.2) h (qX11_tellFinding (a0 := a0) q24) mX11_tellFinding lkX11_64 dX11_read_24 rfl rfl ⟨Nat.zero_le _, Nat.zero_le _⟩ ⟨by decide, by decide⟩ (Nat.le_of_ble_eq_true rfl) [0, 1, 2, 3, 4, 5, 6, 7, 8, 9, 10, 11, 12, 13, 14, 15] rfl rfl 0 rfl rfl mgX11_20 ?_
    have er := Option.some.inj hf
    subst er
    exact g_lreturn h dX11_read_27 rfl ⟨Nat.zero_le _, Nat.zero_le _, rfl, rfl, rfl⟩
  · replace hf := ifb_t c4 hf
    refine g_iload_n h dX11_read_7 rfl ?_
    refine g_sipush (v := (-300)) h dX11_read_8 (by decide) ?_
    refine g_sipush (v := 300) h dX11_read_11 (by decide) ?_
    obtain ⟨r14, q14, hf⟩ := gbind hf
    refine g_cSr h (qX11_in q14) mX11_in lkX11_58 dX11_read_14 rfl rfl ⟨Nat.zero_le _, Nat.zero_le _⟩ ⟨by decide, by decide⟩ (Nat.le_of_ble_eq_true rfl) [] rfl rfl ?_
    refine g_ifb_ne h dX11_read_17 rfl (fun c17 => ?_) (fun c17 => ?_)
    · replace hf := ifb_t c17 hf
      refine g_aload_n h dX11_read_28 rfl ?_
      refine g_get h flX11_9 dX11_read_29 0 rfl rfl ?_
      refine g_iconst (v := 1) h dX11_read_32 (by decide) ?_
      refine g_iald h dX11_read_33 1 1 rfl rfl (by decide) (by decide) ?_
      refine g_bipush (v := 20) h dX11_read_34 (by decide) ?_
      refine g_ic_ne h dX11_read_36 rfl (fun c36 => ?_) (fun c36 => ?_)
      · replace hf := ifp_f c36 hf
        refine g_aload_n h dX11_read_47 rfl ?_
        refine g_iload_n h dX11_read_48 rfl ?_
        refine g_iload_n h dX11_read_49 rfl ?_
        obtain ⟨r50, q50, hf⟩ := gbind hf
        refine g_cVv (ws' := wRf E a0 r50) h (qX11_addReading (a0 := a0) q50) mX11_addReading lkX11_87 dX11_read_50 rfl rfl ⟨Nat.zero_le _, Nat.zero_le _⟩ ⟨by decide, by decide⟩ (Nat.le_of_ble_eq_true rfl) [0, 1, 2, 3, 4, 5, 6, 7, 8, 9, 10, 11, 12, 13, 14, 15] rfl rfl 0 rfl rfl mgX11_20 ?_
        refine g_aload_n h dX11_read_53 rfl ?_
        refine g_iconst (v := 1) h dX11_read_54 (by decide) ?_
        obtain ⟨S0x55, q55, hf⟩ := gbind hf
        refine g_put (ws' := wRf E a0 S0x55) (ty := .boolean) h flX11_70 gftX11 rfl (by decide +kernel) dX11_read_55 0 rfl rfl rfl (Nat.le_of_ble_eq_true rfl) (by cases q55; rfl) ?_
        refine g_aload_n h dX11_read_58 rfl ?_
        refine g_get h flX11_9 dX11_read_59 0 rfl rfl ?_
        refine g_iconst (v := 1) h dX11_read_62 (by decide) ?_
        refine g_iald h dX11_read_63 1 1 rfl rfl (by decide) (by decide) ?_
        refine g_iconst (v := 1) h dX11_read_64 (by decide) ?_
        refine g_isub h dX11_read_65 ?_
        refine g_i2l h dX11_read_66 ?_
        have er := Option.some.inj hf
        subst er
        exact g_lreturn h dX11_read_67 rfl ⟨Nat.zero_le _, Nat.zero_le _, rfl, rfl, rfl⟩
      · replace hf := ifp_t c36 hf
        refine g_aload_n h dX11_read_39 rfl ?_
        refine g_ldc2 (v := (-9000000000000000005)) h dX11_read_40 gcX11_68 ?_
        obtain ⟨r43, q43, hf⟩ := gbind hf
        refine g_cVw (ws' := wRf E a0 r43.2) h (qX11_tellFinding (a0 := a0) q43) mX11_tellFinding lkX11_64 dX11_read_43 rfl rfl ⟨Nat.zero_le _, Nat.zero_le _⟩ ⟨by decide, by decide⟩ (Nat.le_of_ble_eq_true rfl) [0, 1, 2, 3, 4, 5, 6, 7, 8, 9, 10, 11, 12, 13, 14, 15] rfl rfl 0 rfl rfl mgX11_20 ?_
        have er := Option.some.inj hf
        subst er
        exact g_lreturn h dX11_read_46 rfl ⟨Nat.zero_le _, Nat.zero_le _, rfl, rfl, rfl⟩
    · replace hf := ifb_f c17 hf
      refine g_aload_n h dX11_read_20 rfl ?_
      refine g_ldc2 (v := (-9000000000000000001)) h dX11_read_21 gcX11_62 ?_
      obtain ⟨r24, q24, hf⟩ := gbind hf
      refine g_cVw (ws' := wRf E a0 r24.2) h (qX11_tellFinding (a0 := a0) q24) mX11_tellFinding lkX11_64 dX11_read_24 rfl rfl ⟨Nat.zero_le _, Nat.zero_le _⟩ ⟨by decide, by decide⟩ (Nat.le_of_ble_eq_true rfl) [0, 1, 2, 3, 4, 5, 6, 7, 8, 9, 10, 11, 12, 13, 14, 15] rfl rfl 0 rfl rfl mgX11_20 ?_
      have er := Option.some.inj hf
      subst er
      exact g_lreturn h dX11_read_27 rfl ⟨Nat.zero_le _, Nat.zero_le _, rfl, rfl, rfl⟩
def fX11_isReading (fu : Nat) (S0 : gS) (v1 : Int32) : Option (Bool) := ((fX11_in fu v1 (0 : Int32) (((iA S0 0) 1) - (1 : Int32))).bind fun r10 => (some r10))
set_option maxHeartbeats 4000000 in
set_option maxRecDepth 100000 in
theorem qX11_isReading {l : Launch} {E : gE} {a0 : Nat → Nat} {fu : Nat} {S0 : gS} {v1 : Int32} {r : Bool} (hf : fX11_isReading fu S0 v1 = some r) : CtrF l yX11_isReading cX11_isReading 2 (some .boolean) (gR 1 22) E [.ref (a0 0), .int v1] (wRf E a0 S0) (some (.int (bI r))) (wRf E a0 S0) := by
  refine ctr_of false (plainFor_of_name (by decide)) (Nat.le_of_ble_eq_true rfl) (fun q => by cases q) (fun Γ h => ?_)
  refine g_lv [some _, some _] rfl ?_
  rw [fX11_isReading] at hf
  refine g_iload_n h dX11_isReading_0 rfl ?_
  refine g_iconst (v := 0) h dX11_isReading_1 (by decide) ?_
  refine g_aload_n h dX11_isReading_2 rfl ?_
  refine g_get h flX11_9 dX11_isReading_3 0 rfl rfl ?_
  refine g_iconst (v := 1) h dX11_isReading_6 (by decide) ?_
  refine g_iald h dX11_isReading_7 1 1 rfl rfl (by decide) (by decide) ?_
  refine g_iconst (v := 1) h dX11_isReading_8 (by decide) ?_
  refine g_isub h dX11_isReading_9 ?_
  obtain ⟨r10, q10, hf⟩ := gbind hf
  refine g_cSr h (qX11_in q10) mX11_in lkX11_58 dX11_isReading_10 rfl rfl ⟨Nat.zero_le _, Nat.zero_le _⟩ ⟨by decide, by decide⟩ (Nat.le_of_ble_eq_true rfl) [] rfl rfl ?_
  have er := Option.some.inj hf
  subst er
  exact g_ireturn h dX11_isReading_13 rfl (bI_nar _) ⟨Nat.zero_le _, Nat.zero_le _, rfl, rfl, rfl⟩
def lX11_drop_28  (fu : Nat) (v1 : Int32) : Nat → (Int32) → (gS) → Option (Int64 × gS)
  | 0, _, _ => none
  | j + 1, v2, S0 => (if ((iA S0 0) 1) ≤ v2 then ((some (sI S0 13 (1 : Int32))).bind fun S0x86 => (some ((((iA S0x86 0) 1).toInt64), S0x86))) else ((gIx (((32 : Int32) + v2) + (1 : Int32)) 160).bind fun k56 => ((gIx ((32 : Int32) + v2) 160).bind fun k57 => ((some (sAu S0 0 k57 ((iA S0 0) k56))).bind fun S0x57 => ((gIx (((52 : Int32) + v2) + (1 : Int32)) 160).bind fun k76 => ((gIx ((52 : Int32) + v2) 160).bind fun k77 => ((some (sAu S0x57 0 k77 ((iA S0x57 0) k76))).bind fun S0x77 => ((lX11_drop_28  fu v1 j) (v2 + 1) S0x77))))))))
def fX11_drop (fu : Nat) (S0 : gS) (v1 : Int32) : Option (Int64 × gS) := ((fX11_isReading fu S0 v1).bind fun r2 => (if r2 = true then ((some (sAu S0 0 1 (((iA S0 0) 1) - (1 : Int32)))).bind fun S0x25 => (lX11_drop_28  fu v1 fu v1 S0x25)) else ((fX11_tellFinding fu S0 (-9000000000000000001 : Int64)).bind fun r12 => (some (r12.1, r12.2)))))
set_option maxHeartbeats 4000000 in
set_option maxRecDepth 100000 in
theorem qX11_drop {l : Launch} {E : gE} {a0 : Nat → Nat} {fu : Nat} {S0 : gS} {v1 : Int32} {r : Int64 × gS} (hf : fX11_drop fu S0 v1 = some r) : CtrF l yX11_drop cX11_drop 3 (some .long) (gR 2 43) E [.ref (a0 0), .int v1] (wRf E a0 S0) (some (.long r.1)) (wRf E a0 r.2) := by
  refine ctr_of false (plainFor_of_name (by decide)) (Nat.le_of_ble_eq_true rfl) (fun q => by cases q) (fun Γ h => ?_)
  refine g_lv [some _, some _, _] rfl ?_
  rw [fX11_drop] at hf
  have loop28 : ∀ (j28 : Nat) (v2 : Int32) (S0 : gS) , lX11_drop_28  fu v1 j28 v2 S0 = some r → Γ 0 0 28 [some (.ref (a0 0)), some (.int v1), some (.int v2)] [] (wRf E a0 S0) := by
    intro j28
    induction j28 with
    | zero => intro v2 S0 hf; exact gno hf
    | succ j28 ih28 =>
      intro v2 S0 hf
      rw [lX11_drop_28] at hf
      refine g_iload_n h dX11_drop_28 rfl ?_
      refine g_aload_n h dX11_drop_29 rfl ?_
      refine g_get h flX11_9 dX11_drop_30 0 rfl rfl ?_
      refine g_iconst (v := 1) h dX11_drop_33 (by decide) ?_
      refine g_iald h dX11_drop_34 1 1 rfl rfl (by decide) (by decide) ?_
      refine g_ic_ge h dX11_drop_35 rfl (fun c35 => ?_) (fun c35 => ?_)
      · replace hf := ifp_t c35 hf
        refine g_aload_n h dX11_drop_84 rfl ?_
        refine g_iconst (v := 1) h dX11_drop_85 (by decide) ?_
        obtain ⟨S0x86, q86, hf⟩ := gbind hf
        refine g_put (ws' := wRf E a0 S0x86) (ty := .boolean) h flX11_70 gftX11 rfl (by decide +kernel) dX11_drop_86 0 rfl rfl rfl (Nat.le_of_ble_eq_true rfl) (by cases q86; rfl) ?_
        refine g_aload_n h dX11_drop_89 rfl ?_
        refine g_get h flX11_9 dX11_drop_90 0 rfl rfl ?_
        refine g_iconst (v := 1) h dX11_drop_93 (by decide) ?_
        refine g_iald h dX11_drop_94 1 1 rfl rfl (by decide) (by decide) ?_
        refine g_i2l h dX11_drop_95 ?_
        have er := Option.some.inj hf
        subst er
        exact g_lreturn h dX11_drop_96 rfl ⟨Nat.zero_le _, Nat.zero_le _, rfl, rfl, rfl⟩
      · replace hf := ifp_f c35 hf
        refine g_aload_n h dX11_drop_38 rfl ?_
        refine g_get h flX11_9 dX11_drop_39 0 rfl rfl ?_
        refine g_bipush (v := 32) h dX11_drop_42 (by decide) ?_
        refine g_iload_n h dX11_drop_44 rfl ?_
        refine g_iadd h dX11_drop_45 ?_
        refine g_aload_n h dX11_drop_46 rfl ?_
        refine g_get h flX11_9 dX11_drop_47 0 rfl rfl ?_
        refine g_bipush (v := 32) h dX11_drop_50 (by decide) ?_
        refine g_iload_n h dX11_drop_52 rfl ?_
        refine g_iadd h dX11_drop_53 ?_
        refine g_iconst (v := 1) h dX11_drop_54 (by decide) ?_
        refine g_iadd h dX11_drop_55 ?_
        obtain ⟨k56, q56, hf⟩ := gbind hf
        have e56 := (gIx_s q56).1
        have b56 := (gIx_s q56).2
        refine g_iald h dX11_drop_56 1 k56 rfl e56 b56 (by decide) ?_
        obtain ⟨k57, q57, hf⟩ := gbind hf
        have e57 := (gIx_s q57).1
        have b57 := (gIx_s q57).2
        obtain ⟨S0x57, w57, hf⟩ := gbind hf
        refine g_iast (ws' := wRf E a0 S0x57) h dX11_drop_57 1 k57 rfl e57 b57 (by decide) (by cases w57; rfl) ?_
        refine g_aload_n h dX11_drop_58 rfl ?_
        refine g_get h flX11_9 dX11_drop_59 0 rfl rfl ?_
        refine g_bipush (v := 52) h dX11_drop_62 (by decide) ?_
        refine g_iload_n h dX11_drop_64 rfl ?_
        refine g_iadd h dX11_drop_65 ?_
        refine g_aload_n h dX11_drop_66 rfl ?_
        refine g_get h flX11_9 dX11_drop_67 0 rfl rfl ?_
        refine g_bipush (v := 52) h dX11_drop_70 (by decide) ?_
        refine g_iload_n h dX11_drop_72 rfl ?_
        refine g_iadd h dX11_drop_73 ?_
        refine g_iconst (v := 1) h dX11_drop_74 (by decide) ?_
        refine g_iadd h dX11_drop_75 ?_
        obtain ⟨k76, q76, hf⟩ := gbind hf
        have e76 := (gIx_s q76).1
        have b76 := (gIx_s q76).2
        refine g_iald h dX11_drop_76 1 k76 rfl e76 b76 (by decide) ?_
        obtain ⟨k77, q77, hf⟩ := gbind hf
        have e77 := (gIx_s q77).1
        have b77 := (gIx_s q77).2
        obtain ⟨S0x77, w77, hf⟩ := gbind hf
        refine g_iast (ws' := wRf E a0 S0x77) h dX11_drop_77 1 k77 rfl e77 b77 (by decide) (by cases w77; rfl) ?_
        refine g_iinc (v := (v2 + 1)) (lv' := [some _, some _, some _]) h dX11_drop_78 rfl rfl (by decide) rfl ?_
        refine g_goto h dX11_drop_81 rfl ?_
        exact ih28 _ _ hf
  refine g_aload_n h dX11_drop_0 rfl ?_
  refine g_iload_n h dX11_drop_1 rfl ?_
  obtain ⟨r2, q2, hf⟩ := gbind hf
  refine g_cVr h (qX11_isReading (a0 := a0) q2) mX11_isReading lkX11_91 dX11_drop_2 rfl rfl ⟨Nat.zero_le _, Nat.zero_le _⟩ ⟨by decide, by decide⟩ (Nat.le_of_ble_eq_true rfl) [0, 1, 2, 3, 4, 5, 6, 7, 8, 9, 10, 11, 12, 13, 14, 15] rfl rfl 0 rfl rfl ?_
  refine g_ifb_ne h dX11_drop_5 rfl (fun c5 => ?_) (fun c5 => ?_)
  · replace hf := ifb_t c5 hf
    refine g_aload_n h dX11_drop_16 rfl ?_
    refine g_get h flX11_9 dX11_drop_17 0 rfl rfl ?_
    refine g_iconst (v := 1) h dX11_drop_20 (by decide) ?_
    refine g_dup2_11 h dX11_drop_21 rfl rfl ?_
    refine g_iald h dX11_drop_22 1 1 rfl rfl (by decide) (by decide) ?_
    refine g_iconst (v := 1) h dX11_drop_23 (by decide) ?_
    refine g_isub h dX11_drop_24 ?_
    obtain ⟨S0x25, w25, hf⟩ := gbind hf
    refine g_iast (ws' := wRf E a0 S0x25) h dX11_drop_25 1 1 rfl rfl (by decide) (by decide) (by cases w25; rfl) ?_
    refine g_iload_n h dX11_drop_26 rfl ?_
    refine g_istore_n (lv' := [some _, some _, some _]) h dX11_drop_27 (by decide) rfl ?_
    exact loop28 _ _ _  hf
  · replace hf := ifb_f c5 hf
    refine g_aload_n h dX11_drop_8 rfl ?_
    refine g_ldc2 (v := (-9000000000000000001)) h dX11_drop_9 gcX11_62 ?_
    obtain ⟨r12, q12, hf⟩ := gbind hf
    refine g_cVw (ws' := wRf E a0 r12.2) h (qX11_tellFinding (a0 := a0) q12) mX11_tellFinding lkX11_64 dX11_drop_12 rfl rfl ⟨Nat.zero_le _, Nat.zero_le _⟩ ⟨by decide, by decide⟩ (Nat.le_of_ble_eq_true rfl) [0, 1, 2, 3, 4, 5, 6, 7, 8, 9, 10, 11, 12, 13, 14, 15] rfl rfl 0 rfl rfl mgX11_20 ?_
    have er := Option.some.inj hf
    subst er
    exact g_lreturn h dX11_drop_15 rfl ⟨Nat.zero_le _, Nat.zero_le _, rfl, rfl, rfl⟩
def fX11_reading (fu : Nat) (S0 : gS) (v1 : Int32) (v2 : Int32) : Option (Int64 × gS) := ((fX11_isReading fu S0 v1).bind fun r2 => (if r2 = true then ((fX11_in fu v2 (0 : Int32) (1 : Int32)).bind fun r11 => (if r11 = true then (if v2 = 0 then ((gIx ((32 : Int32) + v1) 160).bind fun k37 => (some ((((iA S0 0) k37).toInt64), S0))) else ((gIx ((52 : Int32) + v1) 160).bind fun k50 => (some ((((iA S0 0) k50).toInt64), S0)))) else ((fX11_tellFinding fu S0 (-9000000000000000001 : Int64)).bind fun r21 => (some (r21.1, r21.2))))) else ((fX11_tellFinding fu S0 (-9000000000000000001 : Int64)).bind fun r21 => (some (r21.1, r21.2)))))
set_option maxHeartbeats 4000000 in
set_option maxRecDepth 100000 in
theorem qX11_reading {l : Launch} {E : gE} {a0 : Nat → Nat} {fu : Nat} {S0 : gS} {v1 : Int32} {v2 : Int32} {r : Int64 × gS} (hf : fX11_reading fu S0 v1 v2 = some r) : CtrF l yX11_reading cX11_reading 3 (some .long) (gR 2 43) E [.ref (a0 0), .int v1, .int v2] (wRf E a0 S0) (some (.long r.1)) (wRf E a0 r.2) := by
  refine ctr_of false (plainFor_of_name (by decide)) (Nat.le_of_ble_eq_true rfl) (fun q => by cases q) (fun Γ h => ?_)
  refine g_lv [some _, some _, some _] rfl ?_
  rw [fX11_reading] at hf
  refine g_aload_n h dX11_reading_0 rfl ?_
  refine g_iload_n h dX11_reading_1 rfl ?_
  obtain ⟨r2, q2, hf⟩ := gbind hf
  refine g_cVr h (qX11_isReading (a0 := a0) q2) mX11_isReading lkX11_91 dX11_reading_2 rfl rfl ⟨Nat.zero_le _, Nat.zero_le _⟩ ⟨by decide, by decide⟩ (Nat.le_of_ble_eq_true rfl) [0, 1, 2, 3, 4, 5, 6, 7, 8, 9, 10, 11, 12, 13, 14, 15] rfl rfl 0 rfl rfl ?_
  refine g_ifb_eq h dX11_reading_5 rfl (fun c5 => ?_) (fun c5 => ?_)
  · replace hf := ifb_f c5 hf
    refine g_aload_n h dX11_reading_17 rfl ?_
    refine g_ldc2 (v := (-9000000000000000001)) h dX11_reading_18 gcX11_62 ?_
    obtain ⟨r21, q21, hf⟩ := gbind hf
    refine g_cVw (ws' := wRf E a0 r21.2) h (qX11_tellFinding (a0 := a0) q21) mX11_tellFinding lkX11_64 dX11_reading_21 rfl rfl ⟨Nat.zero_le _, Nat.zero_le _⟩ ⟨by decide, by decide⟩ (Nat.le_of_ble_eq_true rfl) [0, 1, 2, 3, 4, 5, 6, 7, 8, 9, 10, 11, 12, 13, 14, 15] rfl rfl 0 rfl rfl mgX11_20 ?_
    have er := Option.some.inj hf
    subst er
    exact g_lreturn h dX11_reading_24 rfl ⟨Nat.zero_le _, Nat.zero_le _, rfl, rfl, rfl⟩
  · replace hf := ifb_t c5 hf
    refine g_iload_n h dX11_reading_8 rfl ?_
    refine g_iconst (v := 0) h dX11_reading_9 (by decide) ?_
    refine g_iconst (v := 1) h dX11_reading_10 (by decide) ?_
    obtain ⟨r11, q11, hf⟩ := gbind hf
    refine g_cSr h (qX11_in q11) mX11_in lkX11_58 dX11_reading_11 rfl rfl ⟨Nat.zero_le _, Nat.zero_le _⟩ ⟨by decide, by decide⟩ (Nat.le_of_ble_eq_true rfl) [] rfl rfl ?_
    refine g_ifb_ne h dX11_reading_14 rfl (fun c14 => ?_) (fun c14 => ?_)
    · replace hf := ifb_t c14 hf
      refine g_iload_n h dX11_reading_25 rfl ?_
      refine g_if_ne h dX11_reading_26 rfl (fun c26 => ?_) (fun c26 => ?_)
      · replace hf := ifp_f c26 hf
        refine g_aload_n h dX11_reading_42 rfl ?_
        refine g_get h flX11_9 dX11_reading_43 0 rfl rfl ?_
        refine g_bipush (v := 52) h dX11_reading_46 (by decide) ?_
        refine g_iload_n h dX11_reading_48 rfl ?_
        refine g_iadd h dX11_reading_49 ?_
        obtain ⟨k50, q50, hf⟩ := gbind hf
        have e50 := (gIx_s q50).1
        have b50 := (gIx_s q50).2
        refine g_iald h dX11_reading_50 1 k50 rfl e50 b50 (by decide) ?_
        refine g_i2l h dX11_reading_51 ?_
        have er := Option.some.inj hf
        subst er
        exact g_lreturn h dX11_reading_52 rfl ⟨Nat.zero_le _, Nat.zero_le _, rfl, rfl, rfl⟩
      · replace hf := ifp_t c26 hf
        refine g_aload_n h dX11_reading_29 rfl ?_
        refine g_get h flX11_9 dX11_reading_30 0 rfl rfl ?_
        refine g_bipush (v := 32) h dX11_reading_33 (by decide) ?_
        refine g_iload_n h dX11_reading_35 rfl ?_
        refine g_iadd h dX11_reading_36 ?_
        obtain ⟨k37, q37, hf⟩ := gbind hf
        have e37 := (gIx_s q37).1
        have b37 := (gIx_s q37).2
        refine g_iald h dX11_reading_37 1 k37 rfl e37 b37 (by decide) ?_
        refine g_i2l h dX11_reading_38 ?_
        refine g_goto h dX11_reading_39 rfl ?_
        have er := Option.some.inj hf
        subst er
        exact g_lreturn h dX11_reading_52 rfl ⟨Nat.zero_le _, Nat.zero_le _, rfl, rfl, rfl⟩
    · replace hf := ifb_f c14 hf
      refine g_aload_n h dX11_reading_17 rfl ?_
      refine g_ldc2 (v := (-9000000000000000001)) h dX11_reading_18 gcX11_62 ?_
      obtain ⟨r21, q21, hf⟩ := gbind hf
      refine g_cVw (ws' := wRf E a0 r21.2) h (qX11_tellFinding (a0 := a0) q21) mX11_tellFinding lkX11_64 dX11_reading_21 rfl rfl ⟨Nat.zero_le _, Nat.zero_le _⟩ ⟨by decide, by decide⟩ (Nat.le_of_ble_eq_true rfl) [0, 1, 2, 3, 4, 5, 6, 7, 8, 9, 10, 11, 12, 13, 14, 15] rfl rfl 0 rfl rfl mgX11_20 ?_
      have er := Option.some.inj hf
      subst er
      exact g_lreturn h dX11_reading_24 rfl ⟨Nat.zero_le _, Nat.zero_le _, rfl, rfl, rfl⟩
