def fX11_code (fu : Nat)  (v0 : Int32) (v1 : Int32) (v2 : Int32) (v3 : Int32) : Option (Int64) := (some (((((10000 : Int64) * ((v0 + (1 : Int32)).toInt64)) + ((1000 : Int64) * ((v1 + (3 : Int32)).toInt64))) + ((10 : Int64) * ((v2 + (1 : Int32)).toInt64))) + ((v3 + (3 : Int32)).toInt64)))
set_option maxHeartbeats 4000000 in
set_option maxRecDepth 100000 in
theorem qX11_code {l : Launch} {E : gE}  {fu : Nat}  {v0 : Int32} {v1 : Int32} {v2 : Int32} {v3 : Int32} {r : Int64} (hf : fX11_code fu  v0 v1 v2 v3 = some r) : CtrF l yX11_code cX11_code 4 (some .long) (gR 0 0) E [.int v0, .int v1, .int v2, .int v3] ([]) (some (.long r)) ([]) := by
  refine ctr_of false (plainFor_of_name (by decide)) (Nat.le_of_ble_eq_true rfl) (fun q => by cases q) (fun Γ h => ?_)
  refine g_lv [some _, some _, some _, some _] rfl ?_
  rw [fX11_code] at hf
  refine g_ldc2 (v := 10000) h dX11_code_0 gcX11_217 ?_
  refine g_iload_n h dX11_code_3 rfl ?_
  refine g_iconst (v := 1) h dX11_code_4 (by decide) ?_
  refine g_iadd h dX11_code_5 ?_
  refine g_i2l h dX11_code_6 ?_
  refine g_lmul h dX11_code_7 ?_
  refine g_ldc2 (v := 1000) h dX11_code_8 gcX11_219 ?_
  refine g_iload_n h dX11_code_11 rfl ?_
  refine g_iconst (v := 3) h dX11_code_12 (by decide) ?_
  refine g_iadd h dX11_code_13 ?_
  refine g_i2l h dX11_code_14 ?_
  refine g_lmul h dX11_code_15 ?_
  refine g_ladd h dX11_code_16 ?_
  refine g_ldc2 (v := 10) h dX11_code_17 gcX11_221 ?_
  refine g_iload_n h dX11_code_20 rfl ?_
  refine g_iconst (v := 1) h dX11_code_21 (by decide) ?_
  refine g_iadd h dX11_code_22 ?_
  refine g_i2l h dX11_code_23 ?_
  refine g_lmul h dX11_code_24 ?_
  refine g_ladd h dX11_code_25 ?_
  refine g_iload_n h dX11_code_26 rfl ?_
  refine g_iconst (v := 3) h dX11_code_27 (by decide) ?_
  refine g_iadd h dX11_code_28 ?_
  refine g_i2l h dX11_code_29 ?_
  refine g_ladd h dX11_code_30 ?_
  have er := Option.some.inj hf
  subst er
  exact g_lreturn h dX11_code_31 rfl ⟨Nat.zero_le _, Nat.zero_le _, rfl, rfl, rfl⟩
def jX11_best_224 (k134 : (Int64) → (Int64) → (Int32) → (Int32) → (gS) → Option (Int64 × gS)) (k145 : (Int64) → (Int64) → (Int32) → (Int32) → (Int32) → (gS) → Option (Int64 × gS)) (k157 : (Int64) → (Int64) → (Int32) → (Int32) → (Int32) → (Int32) → (gS) → Option (Int64 × gS)) (k173 : (Int64) → (Int64) → (Int32) → (Int32) → (Int32) → (Int32) → (Int32) → (gS) → Option (Int64 × gS)) (fu : Nat)  (v1 : Int64) (v5 : Int32) (v6 : Int32) (v7 : Int32) (v8 : Int32) (v9 : Int32) (v10 : Int64) (s0 : Int64) (S0 : gS) : Option (Int64 × gS) := (if v1 ≤ v10 then (k173 v1 s0 v5 v6 v7 v8 (v9 + 1) S0) else (k173 v10 s0 v5 v6 v7 v8 (v9 + 1) S0))
def jX11_best_200 (k134 : (Int64) → (Int64) → (Int32) → (Int32) → (gS) → Option (Int64 × gS)) (k145 : (Int64) → (Int64) → (Int32) → (Int32) → (Int32) → (gS) → Option (Int64 × gS)) (k157 : (Int64) → (Int64) → (Int32) → (Int32) → (Int32) → (Int32) → (gS) → Option (Int64 × gS)) (k173 : (Int64) → (Int64) → (Int32) → (Int32) → (Int32) → (Int32) → (Int32) → (gS) → Option (Int64 × gS)) (fu : Nat)  (v1 : Int64) (v3 : Int64) (v5 : Int32) (v6 : Int32) (v7 : Int32) (v8 : Int32) (v9 : Int32) (s0 : Int64) (S0 : gS) : Option (Int64 × gS) := (if v1 ≤ s0 then (jX11_best_224 k134 k145 k157 k173 fu  v1 v5 v6 v7 v8 v9 s0 v3 S0) else ((fX11_code fu v6 v7 v8 v9).bind fun r217 => (jX11_best_224 k134 k145 k157 k173 fu  v1 v5 v6 v7 v8 v9 s0 r217 S0)))
def lX11_best_173 (k134 : (Int64) → (Int64) → (Int32) → (Int32) → (gS) → Option (Int64 × gS)) (k145 : (Int64) → (Int64) → (Int32) → (Int32) → (Int32) → (gS) → Option (Int64 × gS)) (k157 : (Int64) → (Int64) → (Int32) → (Int32) → (Int32) → (Int32) → (gS) → Option (Int64 × gS)) (fu : Nat)  : Nat → (Int64) → (Int64) → (Int32) → (Int32) → (Int32) → (Int32) → (Int32) → (gS) → Option (Int64 × gS)
  | 0, _, _, _, _, _, _, _, _ => none
  | j + 1, v1, v3, v5, v6, v7, v8, v9, S0 => (if (3 : Int32) < v9 then (k157 v1 v3 v5 v6 v7 (v8 + 1) S0) else (if v9 = 0 then (jX11_best_200 k134 k145 k157 (lX11_best_173 k134 k145 k157 fu  j) fu  v1 v3 v5 v6 v7 v8 v9 v1 S0) else ((fX11_worstWith fu S0 v6 v7 v8 v9).bind fun r197 => (jX11_best_200 k134 k145 k157 (lX11_best_173 k134 k145 k157 fu  j) fu  v1 v3 v5 v6 v7 v8 v9 r197 S0))))
def lX11_best_157 (k134 : (Int64) → (Int64) → (Int32) → (Int32) → (gS) → Option (Int64 × gS)) (k145 : (Int64) → (Int64) → (Int32) → (Int32) → (Int32) → (gS) → Option (Int64 × gS)) (fu : Nat)  : Nat → (Int64) → (Int64) → (Int32) → (Int32) → (Int32) → (Int32) → (gS) → Option (Int64 × gS)
  | 0, _, _, _, _, _, _, _ => none
  | j + 1, v1, v3, v5, v6, v7, v8, S0 => (if v5 ≤ v8 then (k145 v1 v3 v5 v6 (v7 + 1) S0) else (if v7 = 0 then (k145 v1 v3 v5 v6 (v7 + 1) S0) else (lX11_best_173 k134 k145 (lX11_best_157 k134 k145 fu  j) fu  fu v1 v3 v5 v6 v7 v8 (-3 : Int32) S0)))
def lX11_best_145 (k134 : (Int64) → (Int64) → (Int32) → (Int32) → (gS) → Option (Int64 × gS)) (fu : Nat)  : Nat → (Int64) → (Int64) → (Int32) → (Int32) → (Int32) → (gS) → Option (Int64 × gS)
  | 0, _, _, _, _, _, _ => none
  | j + 1, v1, v3, v5, v6, v7, S0 => (if (3 : Int32) < v7 then (k134 v1 v3 v5 (v6 + 1) S0) else (lX11_best_157 k134 (lX11_best_145 k134 fu  j) fu  fu v1 v3 v5 v6 v7 (v6 + (1 : Int32)) S0))
def lX11_best_134  (fu : Nat)  : Nat → (Int64) → (Int64) → (Int32) → (Int32) → (gS) → Option (Int64 × gS)
  | 0, _, _, _, _, _ => none
  | j + 1, v1, v3, v5, v6, S0 => (if v5 ≤ v6 then (some (v3, S0)) else (lX11_best_145 (lX11_best_134  fu  j) fu  fu v1 v3 v5 v6 (-3 : Int32) S0))
def jX11_best_104 (k46 : (Int64) → (Int64) → (Int32) → (Int32) → (gS) → Option (Int64 × gS)) (k57 : (Int64) → (Int64) → (Int32) → (Int32) → (Int32) → (gS) → Option (Int64 × gS)) (fu : Nat)  (v1 : Int64) (v5 : Int32) (v6 : Int32) (v7 : Int32) (v8 : Int64) (s0 : Int64) (S0 : gS) : Option (Int64 × gS) := (if v1 ≤ v8 then (k57 v1 s0 v5 v6 (v7 + 1) S0) else (k57 v8 s0 v5 v6 (v7 + 1) S0))
def jX11_best_82 (k46 : (Int64) → (Int64) → (Int32) → (Int32) → (gS) → Option (Int64 × gS)) (k57 : (Int64) → (Int64) → (Int32) → (Int32) → (Int32) → (gS) → Option (Int64 × gS)) (fu : Nat)  (v1 : Int64) (v3 : Int64) (v5 : Int32) (v6 : Int32) (v7 : Int32) (s0 : Int64) (S0 : gS) : Option (Int64 × gS) := (if v1 ≤ s0 then (jX11_best_104 k46 k57 fu  v1 v5 v6 v7 s0 v3 S0) else ((fX11_code fu v6 v7 (-1 : Int32) (0 : Int32)).bind fun r97 => (jX11_best_104 k46 k57 fu  v1 v5 v6 v7 s0 r97 S0)))
def lX11_best_57 (k46 : (Int64) → (Int64) → (Int32) → (Int32) → (gS) → Option (Int64 × gS)) (fu : Nat)  : Nat → (Int64) → (Int64) → (Int32) → (Int32) → (Int32) → (gS) → Option (Int64 × gS)
  | 0, _, _, _, _, _, _ => none
  | j + 1, v1, v3, v5, v6, v7, S0 => (if (3 : Int32) < v7 then (k46 v1 v3 v5 (v6 + 1) S0) else (if v7 = 0 then (jX11_best_82 k46 (lX11_best_57 k46 fu  j) fu  v1 v3 v5 v6 v7 v1 S0) else ((fX11_worstWith fu S0 v6 v7 (-1 : Int32) (0 : Int32)).bind fun r79 => (jX11_best_82 k46 (lX11_best_57 k46 fu  j) fu  v1 v3 v5 v6 v7 r79 S0))))
def lX11_best_46  (fu : Nat)  : Nat → (Int64) → (Int64) → (Int32) → (Int32) → (gS) → Option (Int64 × gS)
  | 0, _, _, _, _, _ => none
  | j + 1, v1, v3, v5, v6, S0 => (if v5 ≤ v6 then (lX11_best_134  fu  fu v1 v3 v5 (0 : Int32) S0) else (lX11_best_57 (lX11_best_46  fu  j) fu  fu v1 v3 v5 v6 (-3 : Int32) S0))
def fX11_best (fu : Nat) (S0 : gS)  : Option (Int64 × gS) := ((fX11_noWorst fu S0).bind fun r1 => (if r1 = (0 : Int64) then ((fX11_worstWith fu S0 (-1 : Int32) (0 : Int32) (-1 : Int32) (0 : Int32)).bind fun r23 => ((fX11_code fu (-1 : Int32) (0 : Int32) (-1 : Int32) (0 : Int32)).bind fun r31 => (lX11_best_46  fu  fu r23 r31 ((iA S0 0) 2) (0 : Int32) S0))) else ((fX11_noWorst fu S0).bind fun r11 => ((fX11_tellFinding fu S0 r11).bind fun r14 => (some (r14.1, r14.2))))))
set_option maxHeartbeats 4000000 in
set_option maxRecDepth 100000 in
theorem qX11_best {l : Launch} {E : gE} {a0 : Nat → Nat} {fu : Nat} {S0 : gS}  {r : Int64 × gS} (hf : fX11_best fu S0  = some r) : CtrF l yX11_best cX11_best 12 (some .long) (gR 3 81) E [.ref (a0 0)] (wRf E a0 S0) (some (.long r.1)) (wRf E a0 r.2) := by
  refine ctr_of false (plainFor_of_name (by decide)) (Nat.le_of_ble_eq_true rfl) (fun q => by cases q) (fun Γ h => ?_)
  refine g_lv [some _, _, _, _, _, _, _, _, _, _, _, _] rfl ?_
  rw [fX11_best] at hf
  have loop134 : ∀ (j134 : Nat) (v1 : Int64) (v3 : Int64) (v5 : Int32) (v6 : Int32) (S0 : gS) (o7 : Option Value) (o8 : Option Value) (o9 : Option Value) (o10 : Option Value) (o11 : Option Value), lX11_best_134  fu  j134 v1 v3 v5 v6 S0 = some r → Γ 0 0 134 [some (.ref (a0 0)), some (.long v1), none, some (.long v3), none, some (.int v5), some (.int v6), o7, o8, o9, o10, o11] [] (wRf E a0 S0) := by
    intro j134
    induction j134 with
    | zero => intro v1 v3 v5 v6 S0 o7 o8 o9 o10 o11 hf; exact gno hf
    | succ j134 ih134 =>
      intro v1 v3 v5 v6 S0 o7 o8 o9 o10 o11 hf
      rw [lX11_best_134] at hf
      have loop145 : ∀ (j145 : Nat) (v1 : Int64) (v3 : Int64) (v5 : Int32) (v6 : Int32) (v7 : Int32) (S0 : gS) (o8 : Option Value) (o9 : Option Value) (o10 : Option Value) (o11 : Option Value), lX11_best_145 (lX11_best_134  fu  j134) fu  j145 v1 v3 v5 v6 v7 S0 = some r → Γ 0 0 145 [some (.ref (a0 0)), some (.long v1), none, some (.long v3), none, some (.int v5), some (.int v6), some (.int v7), o8, o9, o10, o11] [] (wRf E a0 S0) := by
        intro j145
        induction j145 with
        | zero => intro v1 v3 v5 v6 v7 S0 o8 o9 o10 o11 hf; exact gno hf
        | succ j145 ih145 =>
          intro v1 v3 v5 v6 v7 S0 o8 o9 o10 o11 hf
          rw [lX11_best_145] at hf
          have loop157 : ∀ (j157 : Nat) (v1 : Int64) (v3 : Int64) (v5 : Int32) (v6 : Int32) (v7 : Int32) (v8 : Int32) (S0 : gS) (o9 : Option Value) (o10 : Option Value) (o11 : Option Value), lX11_best_157 (lX11_best_134  fu  j134) (lX11_best_145 (lX11_best_134  fu  j134) fu  j145) fu  j157 v1 v3 v5 v6 v7 v8 S0 = some r → Γ 0 0 157 [some (.ref (a0 0)), some (.long v1), none, some (.long v3), none, some (.int v5), some (.int v6), some (.int v7), some (.int v8), o9, o10, o11] [] (wRf E a0 S0) := by
            intro j157
            induction j157 with
            | zero => intro v1 v3 v5 v6 v7 v8 S0 o9 o10 o11 hf; exact gno hf
            | succ j157 ih157 =>
              intro v1 v3 v5 v6 v7 v8 S0 o9 o10 o11 hf
              rw [lX11_best_157] at hf
              have loop173 : ∀ (j173 : Nat) (v1 : Int64) (v3 : Int64) (v5 : Int32) (v6 : Int32) (v7 : Int32) (v8 : Int32) (v9 : Int32) (S0 : gS) (o10 : Option Value) (o11 : Option Value), lX11_best_173 (lX11_best_134  fu  j134) (lX11_best_145 (lX11_best_134  fu  j134) fu  j145) (lX11_best_157 (lX11_best_134  fu  j134) (lX11_best_145 (lX11_best_134  fu  j134) fu  j145) fu  j157) fu  j173 v1 v3 v5 v6 v7 v8 v9 S0 = some r → Γ 0 0 173 [some (.ref (a0 0)), some (.long v1), none, some (.long v3), none, some (.int v5), some (.int v6), some (.int v7), some (.int v8), some (.int v9), o10, o11] [] (wRf E a0 S0) := by
                intro j173
                induction j173 with
                | zero => intro v1 v3 v5 v6 v7 v8 v9 S0 o10 o11 hf; exact gno hf
                | succ j173 ih173 =>
                  intro v1 v3 v5 v6 v7 v8 v9 S0 o10 o11 hf
                  rw [lX11_best_173] at hf
                  have jn224 : ∀ (v1 : Int64) (v5 : Int32) (v6 : Int32) (v7 : Int32) (v8 : Int32) (v9 : Int32) (v10 : Int64) (s0 : Int64) (S0 : gS) (o3 : Option Value) (o4 : Option Value), jX11_best_224 (lX11_best_134  fu  j134) (lX11_best_145 (lX11_best_134  fu  j134) fu  j145) (lX11_best_157 (lX11_best_134  fu  j134) (lX11_best_145 (lX11_best_134  fu  j134) fu  j145) fu  j157) (lX11_best_173 (lX11_best_134  fu  j134) (lX11_best_145 (lX11_best_134  fu  j134) fu  j145) (lX11_best_157 (lX11_best_134  fu  j134) (lX11_best_145 (lX11_best_134  fu  j134) fu  j145) fu  j157) fu  j173) fu  v1 v5 v6 v7 v8 v9 v10 s0 S0 = some r → Γ 0 0 224 [some (.ref (a0 0)), some (.long v1), none, o3, o4, some (.int v5), some (.int v6), some (.int v7), some (.int v8), some (.int v9), some (.long v10), none] [.long s0] (wRf E a0 S0) := by
                    intro v1 v5 v6 v7 v8 v9 v10 s0 S0 o3 o4 hf
                    rw [jX11_best_224] at hf
                    refine g_lstore_n (lv' := [some _, some _, none, some _, none, some _, some _, some _, some _, some _, some _, none]) h dX11_best_224 (by decide) rfl ?_
                    refine g_lload h dX11_best_225 rfl ?_
                    refine g_lload_n h dX11_best_227 rfl ?_
                    refine g_lcmp h dX11_best_228 ?_
                    refine g_lif_ge h dX11_best_229 rfl (fun c229 => ?_) (fun c229 => ?_)
                    · replace hf := ifp_t c229 hf
                      refine g_lload_n h dX11_best_237 rfl ?_
                      refine g_lstore_n (lv' := [some _, some _, none, some _, none, some _, some _, some _, some _, some _, some _, none]) h dX11_best_238 (by decide) rfl ?_
                      refine g_iinc (v := (v9 + 1)) (lv' := [some _, some _, none, some _, none, some _, some _, some _, some _, some _, some _, none]) h dX11_best_239 rfl rfl (by decide) rfl ?_
                      refine g_goto h dX11_best_242 rfl ?_
                      exact ih173 _ _ _ _ _ _ _ _ _ _ hf
                    · replace hf := ifp_f c229 hf
                      refine g_lload h dX11_best_232 rfl ?_
                      refine g_goto h dX11_best_234 rfl ?_
                      refine g_lstore_n (lv' := [some _, some _, none, some _, none, some _, some _, some _, some _, some _, some _, none]) h dX11_best_238 (by decide) rfl ?_
                      refine g_iinc (v := (v9 + 1)) (lv' := [some _, some _, none, some _, none, some _, some _, some _, some _, some _, some _, none]) h dX11_best_239 rfl rfl (by decide) rfl ?_
                      refine g_goto h dX11_best_242 rfl ?_
                      exact ih173 _ _ _ _ _ _ _ _ _ _ hf
                  have jn200 : ∀ (v1 : Int64) (v3 : Int64) (v5 : Int32) (v6 : Int32) (v7 : Int32) (v8 : Int32) (v9 : Int32) (s0 : Int64) (S0 : gS) (o10 : Option Value) (o11 : Option Value), jX11_best_200 (lX11_best_134  fu  j134) (lX11_best_145 (lX11_best_134  fu  j134) fu  j145) (lX11_best_157 (lX11_best_134  fu  j134) (lX11_best_145 (lX11_best_134  fu  j134) fu  j145) fu  j157) (lX11_best_173 (lX11_best_134  fu  j134) (lX11_best_145 (lX11_best_134  fu  j134) fu  j145) (lX11_best_157 (lX11_best_134  fu  j134) (lX11_best_145 (lX11_best_134  fu  j134) fu  j145) fu  j157) fu  j173) fu  v1 v3 v5 v6 v7 v8 v9 s0 S0 = some r → Γ 0 0 200 [some (.ref (a0 0)), some (.long v1), none, some (.long v3), none, some (.int v5), some (.int v6), some (.int v7), some (.int v8), some (.int v9), o10, o11] [.long s0] (wRf E a0 S0) := by
                    intro v1 v3 v5 v6 v7 v8 v9 s0 S0 o10 o11 hf
                    rw [jX11_best_200] at hf
                    refine g_lstore (lv' := [some _, some _, none, some _, none, some _, some _, some _, some _, some _, some _, none]) h dX11_best_200 (by decide) rfl ?_
                    refine g_lload h dX11_best_202 rfl ?_
                    refine g_lload_n h dX11_best_204 rfl ?_
                    refine g_lcmp h dX11_best_205 ?_
                    refine g_lif_ge h dX11_best_206 rfl (fun c206 => ?_) (fun c206 => ?_)
                    · replace hf := ifp_t c206 hf
                      refine g_lload_n h dX11_best_223 rfl ?_
                      exact jn224 _ _ _ _ _ _ _ _ _ _ _ hf
                    · replace hf := ifp_f c206 hf
                      refine g_iload h dX11_best_209 rfl ?_
                      refine g_iload h dX11_best_211 rfl ?_
                      refine g_iload h dX11_best_213 rfl ?_
                      refine g_iload h dX11_best_215 rfl ?_
                      obtain ⟨r217, q217, hf⟩ := gbind hf
                      refine g_cSr h (qX11_code q217) mX11_code lkX11_223 dX11_best_217 rfl rfl ⟨Nat.zero_le _, Nat.zero_le _⟩ ⟨by decide, by decide⟩ (Nat.le_of_ble_eq_true rfl) [] rfl rfl ?_
                      refine g_goto h dX11_best_220 rfl ?_
                      exact jn224 _ _ _ _ _ _ _ _ _ _ _ hf
                  refine g_iload h dX11_best_173 rfl ?_
                  refine g_iconst (v := 3) h dX11_best_175 (by decide) ?_
                  refine g_ic_gt h dX11_best_176 rfl (fun c176 => ?_) (fun c176 => ?_)
                  · replace hf := ifp_t c176 hf
                    refine g_iinc (v := (v8 + 1)) (lv' := [some _, some _, none, some _, none, some _, some _, some _, some _, some _, _, _]) h dX11_best_245 rfl rfl (by decide) rfl ?_
                    refine g_goto h dX11_best_248 rfl ?_
                    exact ih157 _ _ _ _ _ _ _ _ _ _ hf
                  · replace hf := ifp_f c176 hf
                    refine g_iload h dX11_best_179 rfl ?_
                    refine g_if_ne h dX11_best_181 rfl (fun c181 => ?_) (fun c181 => ?_)
                    · replace hf := ifp_f c181 hf
                      refine g_aload_n h dX11_best_188 rfl ?_
                      refine g_iload h dX11_best_189 rfl ?_
                      refine g_iload h dX11_best_191 rfl ?_
                      refine g_iload h dX11_best_193 rfl ?_
                      refine g_iload h dX11_best_195 rfl ?_
                      obtain ⟨r197, q197, hf⟩ := gbind hf
                      refine g_cVr h (qX11_worstWith (a0 := a0) q197) mX11_worstWith lkX11_213 dX11_best_197 rfl rfl ⟨Nat.zero_le _, Nat.zero_le _⟩ ⟨by decide, by decide⟩ (Nat.le_of_ble_eq_true rfl) [0, 1, 2, 3, 4, 5, 6, 7, 8, 9, 10, 11, 12, 13, 14, 15] rfl rfl 0 rfl rfl ?_
                      exact jn200 _ _ _ _ _ _ _ _ _ _ _ hf
                    · replace hf := ifp_t c181 hf
                      refine g_lload_n h dX11_best_184 rfl ?_
                      refine g_goto h dX11_best_185 rfl ?_
                      exact jn200 _ _ _ _ _ _ _ _ _ _ _ hf
              refine g_iload h dX11_best_157 rfl ?_
              refine g_iload h dX11_best_159 rfl ?_
              refine g_ic_ge h dX11_best_161 rfl (fun c161 => ?_) (fun c161 => ?_)
              · replace hf := ifp_t c161 hf
                refine g_iinc (v := (v7 + 1)) (lv' := [some _, some _, none, some _, none, some _, some _, some _, some _, _, _, _]) h dX11_best_251 rfl rfl (by decide) rfl ?_
                refine g_goto h dX11_best_254 rfl ?_
                exact ih145 _ _ _ _ _ _ _ _ _ _ hf
              · replace hf := ifp_f c161 hf
                refine g_iload h dX11_best_164 rfl ?_
                refine g_if_eq h dX11_best_166 rfl (fun c166 => ?_) (fun c166 => ?_)
                · replace hf := ifp_t c166 hf
                  refine g_iinc (v := (v7 + 1)) (lv' := [some _, some _, none, some _, none, some _, some _, some _, some _, _, _, _]) h dX11_best_251 rfl rfl (by decide) rfl ?_
                  refine g_goto h dX11_best_254 rfl ?_
                  exact ih145 _ _ _ _ _ _ _ _ _ _ hf
                · replace hf := ifp_f c166 hf
                  refine g_bipush (v := (-3)) h dX11_best_169 (by decide) ?_
                  refine g_istore (lv' := [some _, some _, none, some _, none, some _, some _, some _, some _, some _, _, _]) h dX11_best_171 (by decide) rfl ?_
                  exact loop173 _ _ _ _ _ _ _ _ _ _ _ hf
          refine g_iload h dX11_best_145 rfl ?_
          refine g_iconst (v := 3) h dX11_best_147 (by decide) ?_
          refine g_ic_gt h dX11_best_148 rfl (fun c148 => ?_) (fun c148 => ?_)
          · replace hf := ifp_t c148 hf
            refine g_iinc (v := (v6 + 1)) (lv' := [some _, some _, none, some _, none, some _, some _, some _, _, _, _, _]) h dX11_best_257 rfl rfl (by decide) rfl ?_
            refine g_goto h dX11_best_260 rfl ?_
            exact ih134 _ _ _ _ _ _ _ _ _ _ hf
          · replace hf := ifp_f c148 hf
            refine g_iload h dX11_best_151 rfl ?_
            refine g_iconst (v := 1) h dX11_best_153 (by decide) ?_
            refine g_iadd h dX11_best_154 ?_
            refine g_istore (lv' := [some _, some _, none, some _, none, some _, some _, some _, some _, _, _, _]) h dX11_best_155 (by decide) rfl ?_
            exact loop157 _ _ _ _ _ _ _ _ _ _ _ hf
      refine g_iload h dX11_best_134 rfl ?_
      refine g_iload h dX11_best_136 rfl ?_
      refine g_ic_ge h dX11_best_138 rfl (fun c138 => ?_) (fun c138 => ?_)
      · replace hf := ifp_t c138 hf
        refine g_lload_n h dX11_best_263 rfl ?_
        have er := Option.some.inj hf
        subst er
        exact g_lreturn h dX11_best_264 rfl ⟨Nat.zero_le _, Nat.zero_le _, rfl, rfl, rfl⟩
      · replace hf := ifp_f c138 hf
        refine g_bipush (v := (-3)) h dX11_best_141 (by decide) ?_
        refine g_istore (lv' := [some _, some _, none, some _, none, some _, some _, some _, _, _, _, _]) h dX11_best_143 (by decide) rfl ?_
        exact loop145 _ _ _ _ _ _ _ _ _ _ _ hf
  have loop46 : ∀ (j46 : Nat) (v1 : Int64) (v3 : Int64) (v5 : Int32) (v6 : Int32) (S0 : gS) (o7 : Option Value) (o8 : Option Value) (o9 : Option Value) (o10 : Option Value) (o11 : Option Value), lX11_best_46  fu  j46 v1 v3 v5 v6 S0 = some r → Γ 0 0 46 [some (.ref (a0 0)), some (.long v1), none, some (.long v3), none, some (.int v5), some (.int v6), o7, o8, o9, o10, o11] [] (wRf E a0 S0) := by
    intro j46
    induction j46 with
    | zero => intro v1 v3 v5 v6 S0 o7 o8 o9 o10 o11 hf; exact gno hf
    | succ j46 ih46 =>
      intro v1 v3 v5 v6 S0 o7 o8 o9 o10 o11 hf
      rw [lX11_best_46] at hf
      have loop57 : ∀ (j57 : Nat) (v1 : Int64) (v3 : Int64) (v5 : Int32) (v6 : Int32) (v7 : Int32) (S0 : gS) (o8 : Option Value) (o9 : Option Value) (o10 : Option Value) (o11 : Option Value), lX11_best_57 (lX11_best_46  fu  j46) fu  j57 v1 v3 v5 v6 v7 S0 = some r → Γ 0 0 57 [some (.ref (a0 0)), some (.long v1), none, some (.long v3), none, some (.int v5), some (.int v6), some (.int v7), o8, o9, o10, o11] [] (wRf E a0 S0) := by
        intro j57
        induction j57 with
        | zero => intro v1 v3 v5 v6 v7 S0 o8 o9 o10 o11 hf; exact gno hf
        | succ j57 ih57 =>
          intro v1 v3 v5 v6 v7 S0 o8 o9 o10 o11 hf
          rw [lX11_best_57] at hf
          have jn104 : ∀ (v1 : Int64) (v5 : Int32) (v6 : Int32) (v7 : Int32) (v8 : Int64) (s0 : Int64) (S0 : gS) (o3 : Option Value) (o4 : Option Value) (o10 : Option Value) (o11 : Option Value), jX11_best_104 (lX11_best_46  fu  j46) (lX11_best_57 (lX11_best_46  fu  j46) fu  j57) fu  v1 v5 v6 v7 v8 s0 S0 = some r → Γ 0 0 104 [some (.ref (a0 0)), some (.long v1), none, o3, o4, some (.int v5), some (.int v6), some (.int v7), some (.long v8), none, o10, o11] [.long s0] (wRf E a0 S0) := by
            intro v1 v5 v6 v7 v8 s0 S0 o3 o4 o10 o11 hf
            rw [jX11_best_104] at hf
            refine g_lstore_n (lv' := [some _, some _, none, some _, none, some _, some _, some _, some _, none, _, _]) h dX11_best_104 (by decide) rfl ?_
            refine g_lload h dX11_best_105 rfl ?_
            refine g_lload_n h dX11_best_107 rfl ?_
            refine g_lcmp h dX11_best_108 ?_
            refine g_lif_ge h dX11_best_109 rfl (fun c109 => ?_) (fun c109 => ?_)
            · replace hf := ifp_t c109 hf
              refine g_lload_n h dX11_best_117 rfl ?_
              refine g_lstore_n (lv' := [some _, some _, none, some _, none, some _, some _, some _, some _, none, _, _]) h dX11_best_118 (by decide) rfl ?_
              refine g_iinc (v := (v7 + 1)) (lv' := [some _, some _, none, some _, none, some _, some _, some _, some _, none, _, _]) h dX11_best_119 rfl rfl (by decide) rfl ?_
              refine g_goto h dX11_best_122 rfl ?_
              exact ih57 _ _ _ _ _ _ _ _ _ _ hf
            · replace hf := ifp_f c109 hf
              refine g_lload h dX11_best_112 rfl ?_
              refine g_goto h dX11_best_114 rfl ?_
              refine g_lstore_n (lv' := [some _, some _, none, some _, none, some _, some _, some _, some _, none, _, _]) h dX11_best_118 (by decide) rfl ?_
              refine g_iinc (v := (v7 + 1)) (lv' := [some _, some _, none, some _, none, some _, some _, some _, some _, none, _, _]) h dX11_best_119 rfl rfl (by decide) rfl ?_
              refine g_goto h dX11_best_122 rfl ?_
              exact ih57 _ _ _ _ _ _ _ _ _ _ hf
          have jn82 : ∀ (v1 : Int64) (v3 : Int64) (v5 : Int32) (v6 : Int32) (v7 : Int32) (s0 : Int64) (S0 : gS) (o8 : Option Value) (o9 : Option Value) (o10 : Option Value) (o11 : Option Value), jX11_best_82 (lX11_best_46  fu  j46) (lX11_best_57 (lX11_best_46  fu  j46) fu  j57) fu  v1 v3 v5 v6 v7 s0 S0 = some r → Γ 0 0 82 [some (.ref (a0 0)), some (.long v1), none, some (.long v3), none, some (.int v5), some (.int v6), some (.int v7), o8, o9, o10, o11] [.long s0] (wRf E a0 S0) := by
            intro v1 v3 v5 v6 v7 s0 S0 o8 o9 o10 o11 hf
            rw [jX11_best_82] at hf
            refine g_lstore (lv' := [some _, some _, none, some _, none, some _, some _, some _, some _, none, _, _]) h dX11_best_82 (by decide) rfl ?_
            refine g_lload h dX11_best_84 rfl ?_
            refine g_lload_n h dX11_best_86 rfl ?_
            refine g_lcmp h dX11_best_87 ?_
            refine g_lif_ge h dX11_best_88 rfl (fun c88 => ?_) (fun c88 => ?_)
            · replace hf := ifp_t c88 hf
              refine g_lload_n h dX11_best_103 rfl ?_
              exact jn104 _ _ _ _ _ _ _ _ _ _ _ hf
            · replace hf := ifp_f c88 hf
              refine g_iload h dX11_best_91 rfl ?_
              refine g_iload h dX11_best_93 rfl ?_
              refine g_iconst (v := (-1)) h dX11_best_95 (by decide) ?_
              refine g_iconst (v := 0) h dX11_best_96 (by decide) ?_
              obtain ⟨r97, q97, hf⟩ := gbind hf
              refine g_cSr h (qX11_code q97) mX11_code lkX11_223 dX11_best_97 rfl rfl ⟨Nat.zero_le _, Nat.zero_le _⟩ ⟨by decide, by decide⟩ (Nat.le_of_ble_eq_true rfl) [] rfl rfl ?_
              refine g_goto h dX11_best_100 rfl ?_
              exact jn104 _ _ _ _ _ _ _ _ _ _ _ hf
          refine g_iload h dX11_best_57 rfl ?_
          refine g_iconst (v := 3) h dX11_best_59 (by decide) ?_
          refine g_ic_gt h dX11_best_60 rfl (fun c60 => ?_) (fun c60 => ?_)
          · replace hf := ifp_t c60 hf
            refine g_iinc (v := (v6 + 1)) (lv' := [some _, some _, none, some _, none, some _, some _, some _, _, _, _, _]) h dX11_best_125 rfl rfl (by decide) rfl ?_
            refine g_goto h dX11_best_128 rfl ?_
            exact ih46 _ _ _ _ _ _ _ _ _ _ hf
          · replace hf := ifp_f c60 hf
            refine g_iload h dX11_best_63 rfl ?_
            refine g_if_ne h dX11_best_65 rfl (fun c65 => ?_) (fun c65 => ?_)
            · replace hf := ifp_f c65 hf
              refine g_aload_n h dX11_best_72 rfl ?_
              refine g_iload h dX11_best_73 rfl ?_
              refine g_iload h dX11_best_75 rfl ?_
              refine g_iconst (v := (-1)) h dX11_best_77 (by decide) ?_
              refine g_iconst (v := 0) h dX11_best_78 (by decide) ?_
              obtain ⟨r79, q79, hf⟩ := gbind hf
              refine g_cVr h (qX11_worstWith (a0 := a0) q79) mX11_worstWith lkX11_213 dX11_best_79 rfl rfl ⟨Nat.zero_le _, Nat.zero_le _⟩ ⟨by decide, by decide⟩ (Nat.le_of_ble_eq_true rfl) [0, 1, 2, 3, 4, 5, 6, 7, 8, 9, 10, 11, 12, 13, 14, 15] rfl rfl 0 rfl rfl ?_
              exact jn82 _ _ _ _ _ _ _ _ _ _ _ hf
            · replace hf := ifp_t c65 hf
              refine g_lload_n h dX11_best_68 rfl ?_
              refine g_goto h dX11_best_69 rfl ?_
              exact jn82 _ _ _ _ _ _ _ _ _ _ _ hf
      refine g_iload h dX11_best_46 rfl ?_
      refine g_iload h dX11_best_48 rfl ?_
      refine g_ic_ge h dX11_best_50 rfl (fun c50 => ?_) (fun c50 => ?_)
      · replace hf := ifp_t c50 hf
        refine g_iconst (v := 0) h dX11_best_131 (by decide) ?_
        refine g_istore (lv' := [some _, some _, none, some _, none, some _, some _, _, _, _, _, _]) h dX11_best_132 (by decide) rfl ?_
        exact loop134 _ _ _ _ _ _ _ _ _ _ _ hf
      · replace hf := ifp_f c50 hf
        refine g_bipush (v := (-3)) h dX11_best_53 (by decide) ?_
        refine g_istore (lv' := [some _, some _, none, some _, none, some _, some _, some _, _, _, _, _]) h dX11_best_55 (by decide) rfl ?_
        exact loop57 _ _ _ _ _ _ _ _ _ _ _ hf
  refine g_aload_n h dX11_best_0 rfl ?_
  obtain ⟨r1, q1, hf⟩ := gbind hf
  refine g_cVr h (qX11_noWorst (a0 := a0) q1) mX11_noWorst lkX11_210 dX11_best_1 rfl rfl ⟨Nat.zero_le _, Nat.zero_le _⟩ ⟨by decide, by decide⟩ (Nat.le_of_ble_eq_true rfl) [0, 1, 2, 3, 4, 5, 6, 7, 8, 9, 10, 11, 12, 13, 14, 15] rfl rfl 0 rfl rfl ?_
  refine g_lconst (v := 0) h dX11_best_4 (by decide) ?_
  refine g_lcmp h dX11_best_5 ?_
  refine g_lif_eq h dX11_best_6 rfl (fun c6 => ?_) (fun c6 => ?_)
  · replace hf := ifp_t c6 hf
    refine g_aload_n h dX11_best_18 rfl ?_
    refine g_iconst (v := (-1)) h dX11_best_19 (by decide) ?_
    refine g_iconst (v := 0) h dX11_best_20 (by decide) ?_
    refine g_iconst (v := (-1)) h dX11_best_21 (by decide) ?_
    refine g_iconst (v := 0) h dX11_best_22 (by decide) ?_
    obtain ⟨r23, q23, hf⟩ := gbind hf
    refine g_cVr h (qX11_worstWith (a0 := a0) q23) mX11_worstWith lkX11_213 dX11_best_23 rfl rfl ⟨Nat.zero_le _, Nat.zero_le _⟩ ⟨by decide, by decide⟩ (Nat.le_of_ble_eq_true rfl) [0, 1, 2, 3, 4, 5, 6, 7, 8, 9, 10, 11, 12, 13, 14, 15] rfl rfl 0 rfl rfl ?_
    refine g_lstore_n (lv' := [some _, some _, none, _, _, _, _, _, _, _, _, _]) h dX11_best_26 (by decide) rfl ?_
    refine g_iconst (v := (-1)) h dX11_best_27 (by decide) ?_
    refine g_iconst (v := 0) h dX11_best_28 (by decide) ?_
    refine g_iconst (v := (-1)) h dX11_best_29 (by decide) ?_
    refine g_iconst (v := 0) h dX11_best_30 (by decide) ?_
    obtain ⟨r31, q31, hf⟩ := gbind hf
    refine g_cSr h (qX11_code q31) mX11_code lkX11_223 dX11_best_31 rfl rfl ⟨Nat.zero_le _, Nat.zero_le _⟩ ⟨by decide, by decide⟩ (Nat.le_of_ble_eq_true rfl) [] rfl rfl ?_
    refine g_lstore_n (lv' := [some _, some _, none, some _, none, _, _, _, _, _, _, _]) h dX11_best_34 (by decide) rfl ?_
    refine g_aload_n h dX11_best_35 rfl ?_
    refine g_get h flX11_9 dX11_best_36 0 rfl rfl ?_
    refine g_iconst (v := 2) h dX11_best_39 (by decide) ?_
    refine g_iald h dX11_best_40 1 2 rfl rfl (by decide) (by decide) ?_
    refine g_istore (lv' := [some _, some _, none, some _, none, some _, _, _, _, _, _, _]) h dX11_best_41 (by decide) rfl ?_
    refine g_iconst (v := 0) h dX11_best_43 (by decide) ?_
    refine g_istore (lv' := [some _, some _, none, some _, none, some _, some _, _, _, _, _, _]) h dX11_best_44 (by decide) rfl ?_
    exact loop46 _ _ _ _ _ _ _ _ _ _ _ hf
  · replace hf := ifp_f c6 hf
    refine g_aload_n h dX11_best_9 rfl ?_
    refine g_aload_n h dX11_best_10 rfl ?_
    obtain ⟨r11, q11, hf⟩ := gbind hf
    refine g_cVr h (qX11_noWorst (a0 := a0) q11) mX11_noWorst lkX11_210 dX11_best_11 rfl rfl ⟨Nat.zero_le _, Nat.zero_le _⟩ ⟨by decide, by decide⟩ (Nat.le_of_ble_eq_true rfl) [0, 1, 2, 3, 4, 5, 6, 7, 8, 9, 10, 11, 12, 13, 14, 15] rfl rfl 0 rfl rfl ?_
    obtain ⟨r14, q14, hf⟩ := gbind hf
    refine g_cVw (ws' := wRf E a0 r14.2) h (qX11_tellFinding (a0 := a0) q14) mX11_tellFinding lkX11_64 dX11_best_14 rfl rfl ⟨Nat.zero_le _, Nat.zero_le _⟩ ⟨by decide, by decide⟩ (Nat.le_of_ble_eq_true rfl) [0, 1, 2, 3, 4, 5, 6, 7, 8, 9, 10, 11, 12, 13, 14, 15] rfl rfl 0 rfl rfl mgX11_20 ?_
    have er := Option.some.inj hf
    subst er
    exact g_lreturn h dX11_best_17 rfl ⟨Nat.zero_le _, Nat.zero_le _, rfl, rfl, rfl⟩
def lX11_paper_20  (fu : Nat)  : Nat → (Int32) → (gS) → Option (Int64 × gS)
  | 0, _, _ => none
  | j + 1, v1, S0 => (if (36 : Int32) ≤ v1 then (some ((1 : Int64), S0)) else ((fX11_hasSpan fu S0 v1).bind fun r28 => (if r28 = true then ((fX11_foretoldAt fu S0 v1).bind fun r39 => ((gIx ((88 : Int32) + v1) 160).bind fun k52 => (if r39 < ((((iA S0 0) k52).toInt64) * (lF S0 18)) then (some (((v1.toInt64) - (1000 : Int64)), S0)) else ((gIx ((124 : Int32) + v1) 160).bind fun k72 => (if r39 ≤ ((((iA S0 0) k72).toInt64) * (lF S0 18)) then ((lX11_paper_20  fu  j) (v1 + 1) S0) else (some (((v1.toInt64) - (1000 : Int64)), S0))))))) else ((lX11_paper_20  fu  j) (v1 + 1) S0))))
def fX11_paper (fu : Nat) (S0 : gS)  : Option (Int64 × gS) := ((fX11_noWorst fu S0).bind fun r1 => (if r1 = (0 : Int64) then (lX11_paper_20  fu  fu (0 : Int32) S0) else ((fX11_noWorst fu S0).bind fun r11 => ((fX11_tellFinding fu S0 r11).bind fun r14 => (some (r14.1, r14.2))))))
set_option maxHeartbeats 4000000 in
set_option maxRecDepth 100000 in
theorem qX11_paper {l : Launch} {E : gE} {a0 : Nat → Nat} {fu : Nat} {S0 : gS}  {r : Int64 × gS} (hf : fX11_paper fu S0  = some r) : CtrF l yX11_paper cX11_paper 4 (some .long) (gR 3 63) E [.ref (a0 0)] (wRf E a0 S0) (some (.long r.1)) (wRf E a0 r.2) := by
  refine ctr_of false (plainFor_of_name (by decide)) (Nat.le_of_ble_eq_true rfl) (fun q => by cases q) (fun Γ h => ?_)
  refine g_lv [some _, _, _, _] rfl ?_
  rw [fX11_paper] at hf
  have loop20 : ∀ (j20 : Nat) (v1 : Int32) (S0 : gS) (o2 : Option Value) (o3 : Option Value), lX11_paper_20  fu  j20 v1 S0 = some r → Γ 0 0 20 [some (.ref (a0 0)), some (.int v1), o2, o3] [] (wRf E a0 S0) := by
    intro j20
    induction j20 with
    | zero => intro v1 S0 o2 o3 hf; exact gno hf
    | succ j20 ih20 =>
      intro v1 S0 o2 o3 hf
      rw [lX11_paper_20] at hf
      refine g_iload_n h dX11_paper_20 rfl ?_
      refine g_bipush (v := 36) h dX11_paper_21 (by decide) ?_
      refine g_ic_ge h dX11_paper_23 rfl (fun c23 => ?_) (fun c23 => ?_)
      · replace hf := ifp_t c23 hf
        refine g_lconst (v := 1) h dX11_paper_96 (by decide) ?_
        have er := Option.some.inj hf
        subst er
        exact g_lreturn h dX11_paper_97 rfl ⟨Nat.zero_le _, Nat.zero_le _, rfl, rfl, rfl⟩
      · replace hf := ifp_f c23 hf
        refine g_aload_n h dX11_paper_26 rfl ?_
        refine g_iload_n h dX11_paper_27 rfl ?_
        obtain ⟨r28, q28, hf⟩ := gbind hf
        refine g_cVr h (qX11_hasSpan (a0 := a0) q28) mX11_hasSpan lkX11_197 dX11_paper_28 rfl rfl ⟨Nat.zero_le _, Nat.zero_le _⟩ ⟨by decide, by decide⟩ (Nat.le_of_ble_eq_true rfl) [0, 1, 2, 3, 4, 5, 6, 7, 8, 9, 10, 11, 12, 13, 14, 15] rfl rfl 0 rfl rfl ?_
        refine g_ifb_ne h dX11_paper_31 rfl (fun c31 => ?_) (fun c31 => ?_)
        · replace hf := ifb_t c31 hf
          refine g_aload_n h dX11_paper_37 rfl ?_
          refine g_iload_n h dX11_paper_38 rfl ?_
          obtain ⟨r39, q39, hf⟩ := gbind hf
          refine g_cVr h (qX11_foretoldAt (a0 := a0) q39) mX11_foretoldAt lkX11_190 dX11_paper_39 rfl rfl ⟨Nat.zero_le _, Nat.zero_le _⟩ ⟨by decide, by decide⟩ (Nat.le_of_ble_eq_true rfl) [0, 1, 2, 3, 4, 5, 6, 7, 8, 9, 10, 11, 12, 13, 14, 15] rfl rfl 0 rfl rfl ?_
          refine g_lstore_n (lv' := [some _, some _, some _, none]) h dX11_paper_42 (by decide) rfl ?_
          refine g_lload_n h dX11_paper_43 rfl ?_
          refine g_aload_n h dX11_paper_44 rfl ?_
          refine g_get h flX11_9 dX11_paper_45 0 rfl rfl ?_
          refine g_bipush (v := 88) h dX11_paper_48 (by decide) ?_
          refine g_iload_n h dX11_paper_50 rfl ?_
          refine g_iadd h dX11_paper_51 ?_
          obtain ⟨k52, q52, hf⟩ := gbind hf
          have e52 := (gIx_s q52).1
          have b52 := (gIx_s q52).2
          refine g_iald h dX11_paper_52 1 k52 rfl e52 b52 (by decide) ?_
          refine g_i2l h dX11_paper_53 ?_
          refine g_aload_n h dX11_paper_54 rfl ?_
          refine g_get h flX11_146 dX11_paper_55 0 rfl rfl ?_
          refine g_lmul h dX11_paper_58 ?_
          refine g_lcmp h dX11_paper_59 ?_
          refine g_lif_lt h dX11_paper_60 rfl (fun c60 => ?_) (fun c60 => ?_)
          · replace hf := ifp_t c60 hf
            refine g_iload_n h dX11_paper_83 rfl ?_
            refine g_i2l h dX11_paper_84 ?_
            refine g_ldc2 (v := 1000) h dX11_paper_85 gcX11_219 ?_
            refine g_lsub h dX11_paper_88 ?_
            have er := Option.some.inj hf
            subst er
            exact g_lreturn h dX11_paper_89 rfl ⟨Nat.zero_le _, Nat.zero_le _, rfl, rfl, rfl⟩
          · replace hf := ifp_f c60 hf
            refine g_lload_n h dX11_paper_63 rfl ?_
            refine g_aload_n h dX11_paper_64 rfl ?_
            refine g_get h flX11_9 dX11_paper_65 0 rfl rfl ?_
            refine g_bipush (v := 124) h dX11_paper_68 (by decide) ?_
            refine g_iload_n h dX11_paper_70 rfl ?_
            refine g_iadd h dX11_paper_71 ?_
            obtain ⟨k72, q72, hf⟩ := gbind hf
            have e72 := (gIx_s q72).1
            have b72 := (gIx_s q72).2
            refine g_iald h dX11_paper_72 1 k72 rfl e72 b72 (by decide) ?_
            refine g_i2l h dX11_paper_73 ?_
            refine g_aload_n h dX11_paper_74 rfl ?_
            refine g_get h flX11_146 dX11_paper_75 0 rfl rfl ?_
            refine g_lmul h dX11_paper_78 ?_
            refine g_lcmp h dX11_paper_79 ?_
            refine g_lif_le h dX11_paper_80 rfl (fun c80 => ?_) (fun c80 => ?_)
            · replace hf := ifp_t c80 hf
              refine g_iinc (v := (v1 + 1)) (lv' := [some _, some _, some _, none]) h dX11_paper_90 rfl rfl (by decide) rfl ?_
              refine g_goto h dX11_paper_93 rfl ?_
              exact ih20 _ _ _ _ hf
            · replace hf := ifp_f c80 hf
              refine g_iload_n h dX11_paper_83 rfl ?_
              refine g_i2l h dX11_paper_84 ?_
              refine g_ldc2 (v := 1000) h dX11_paper_85 gcX11_219 ?_
              refine g_lsub h dX11_paper_88 ?_
              have er := Option.some.inj hf
              subst er
              exact g_lreturn h dX11_paper_89 rfl ⟨Nat.zero_le _, Nat.zero_le _, rfl, rfl, rfl⟩
        · replace hf := ifb_f c31 hf
          refine g_goto h dX11_paper_34 rfl ?_
          refine g_iinc (v := (v1 + 1)) (lv' := [some _, some _, _, _]) h dX11_paper_90 rfl rfl (by decide) rfl ?_
          refine g_goto h dX11_paper_93 rfl ?_
          exact ih20 _ _ _ _ hf
  refine g_aload_n h dX11_paper_0 rfl ?_
  obtain ⟨r1, q1, hf⟩ := gbind hf
  refine g_cVr h (qX11_noWorst (a0 := a0) q1) mX11_noWorst lkX11_210 dX11_paper_1 rfl rfl ⟨Nat.zero_le _, Nat.zero_le _⟩ ⟨by decide, by decide⟩ (Nat.le_of_ble_eq_true rfl) [0, 1, 2, 3, 4, 5, 6, 7, 8, 9, 10, 11, 12, 13, 14, 15] rfl rfl 0 rfl rfl ?_
  refine g_lconst (v := 0) h dX11_paper_4 (by decide) ?_
  refine g_lcmp h dX11_paper_5 ?_
  refine g_lif_eq h dX11_paper_6 rfl (fun c6 => ?_) (fun c6 => ?_)
  · replace hf := ifp_t c6 hf
    refine g_iconst (v := 0) h dX11_paper_18 (by decide) ?_
    refine g_istore_n (lv' := [some _, some _, _, _]) h dX11_paper_19 (by decide) rfl ?_
    exact loop20 _ _ _ _ _ hf
  · replace hf := ifp_f c6 hf
    refine g_aload_n h dX11_paper_9 rfl ?_
    refine g_aload_n h dX11_paper_10 rfl ?_
    obtain ⟨r11, q11, hf⟩ := gbind hf
    refine g_cVr h (qX11_noWorst (a0 := a0) q11) mX11_noWorst lkX11_210 dX11_paper_11 rfl rfl ⟨Nat.zero_le _, Nat.zero_le _⟩ ⟨by decide, by decide⟩ (Nat.le_of_ble_eq_true rfl) [0, 1, 2, 3, 4, 5, 6, 7, 8, 9, 10, 11, 12, 13, 14, 15] rfl rfl 0 rfl rfl ?_
    obtain ⟨r14, q14, hf⟩ := gbind hf
    refine g_cVw (ws' := wRf E a0 r14.2) h (qX11_tellFinding (a0 := a0) q14) mX11_tellFinding lkX11_64 dX11_paper_14 rfl rfl ⟨Nat.zero_le _, Nat.zero_le _⟩ ⟨by decide, by decide⟩ (Nat.le_of_ble_eq_true rfl) [0, 1, 2, 3, 4, 5, 6, 7, 8, 9, 10, 11, 12, 13, 14, 15] rfl rfl 0 rfl rfl mgX11_20 ?_
    have er := Option.some.inj hf
    subst er
    exact g_lreturn h dX11_paper_17 rfl ⟨Nat.zero_le _, Nat.zero_le _, rfl, rfl, rfl⟩
def fX11_day (fu : Nat) (S0 : gS) (v1 : Int32) (v2 : Int32) : Option (Int64 × gS) := ((fX11_isState fu v1).bind fun r1 => (if r1 = true then ((fX11_in fu v2 (-1000 : Int32) (1000 : Int32)).bind fun r14 => (if r14 = true then (if (iF S0 5) = (60 : Int32) then ((fX11_tellFinding fu S0 (-9000000000000000005 : Int64)).bind fun r41 => (some (r41.1, r41.2))) else ((gIx (iF S0 5) 60).bind fun k54 => ((some (sAu S0 6 k54 v1)).bind fun S0x54 => ((gIx (iF S0x54 5) 60).bind fun k64 => ((some (sAu S0x54 7 k64 v2)).bind fun S0x64 => ((some (sI S0x64 5 ((iF S0x64 5) + (1 : Int32)))).bind fun S0x72 => (some (((iF S0x72 5).toInt64), S0x72)))))))) else ((fX11_tellFinding fu S0 (-9000000000000000001 : Int64)).bind fun r24 => (some (r24.1, r24.2))))) else ((fX11_tellFinding fu S0 (-9000000000000000001 : Int64)).bind fun r24 => (some (r24.1, r24.2)))))
set_option maxHeartbeats 4000000 in
set_option maxRecDepth 100000 in
theorem qX11_day {l : Launch} {E : gE} {a0 : Nat → Nat} {fu : Nat} {S0 : gS} {v1 : Int32} {v2 : Int32} {r : Int64 × gS} (hf : fX11_day fu S0 v1 v2 = some r) : CtrF l yX11_day cX11_day 3 (some .long) (gR 2 42) E [.ref (a0 0), .int v1, .int v2] (wRf E a0 S0) (some (.long r.1)) (wRf E a0 r.2) := by
  refine ctr_of false (plainFor_of_name (by decide)) (Nat.le_of_ble_eq_true rfl) (fun q => by cases q) (fun Γ h => ?_)
  refine g_lv [some _, some _, some _] rfl ?_
  rw [fX11_day] at hf
  refine g_iload_n h dX11_day_0 rfl ?_
  obtain ⟨r1, q1, hf⟩ := gbind hf
  refine g_cSr h (qX11_isState q1) mX11_isState lkX11_78 dX11_day_1 rfl rfl ⟨Nat.zero_le _, Nat.zero_le _⟩ ⟨by decide, by decide⟩ (Nat.le_of_ble_eq_true rfl) [] rfl rfl ?_
  refine g_ifb_eq h dX11_day_4 rfl (fun c4 => ?_) (fun c4 => ?_)
  · replace hf := ifb_f c4 hf
    refine g_aload_n h dX11_day_20 rfl ?_
    refine g_ldc2 (v := (-9000000000000000001)) h dX11_day_21 gcX11_62 ?_
    obtain ⟨r24, q24, hf⟩ := gbind hf
    refine g_cVw (ws' := wRf E a0 r24.2) h (qX11_tellFinding (a0 := a0) q24) mX11_tellFinding lkX11_64 dX11_day_24 rfl rfl ⟨Nat.zero_le _, Nat.zero_le _⟩ ⟨by decide, by decide⟩ (Nat.le_of_ble_eq_true rfl) [0, 1, 2, 3, 4, 5, 6, 7, 8, 9, 10, 11, 12, 13, 14, 15] rfl rfl 0 rfl rfl mgX11_20 ?_
    have er := Option.some.inj hf
    subst er
    exact g_lreturn h dX11_day_27 rfl ⟨Nat.zero_le _, Nat.zero_le _, rfl, rfl, rfl⟩
  · replace hf := ifb_t c4 hf
    refine g_iload_n h dX11_day_7 rfl ?_
    refine g_sipush (v := (-1000)) h dX11_day_8 (by decide) ?_
    refine g_sipush (v := 1000) h dX11_day_11 (by decide) ?_
    obtain ⟨r14, q14, hf⟩ := gbind hf
    refine g_cSr h (qX11_in q14) mX11_in lkX11_58 dX11_day_14 rfl rfl ⟨Nat.zero_le _, Nat.zero_le _⟩ ⟨by decide, by decide⟩ (Nat.le_of_ble_eq_true rfl) [] rfl rfl ?_
    refine g_ifb_ne h dX11_day_17 rfl (fun c17 => ?_) (fun c17 => ?_)
    · replace hf := ifb_t c17 hf
      refine g_aload_n h dX11_day_28 rfl ?_
      refine g_get h flX11_226 dX11_day_29 0 rfl rfl ?_
      refine g_bipush (v := 60) h dX11_day_32 (by decide) ?_
      refine g_ic_ne h dX11_day_34 rfl (fun c34 => ?_) (fun c34 => ?_)
      · replace hf := ifp_f c34 hf
        refine g_aload_n h dX11_day_45 rfl ?_
        refine g_get h flX11_22 dX11_day_46 0 rfl rfl ?_
        refine g_aload_n h dX11_day_49 rfl ?_
        refine g_get h flX11_226 dX11_day_50 0 rfl rfl ?_
        refine g_iload_n h dX11_day_53 rfl ?_
        obtain ⟨k54, q54, hf⟩ := gbind hf
        have e54 := (gIx_s q54).1
        have b54 := (gIx_s q54).2
        obtain ⟨S0x54, w54, hf⟩ := gbind hf
        refine g_iast (ws' := wRf E a0 S0x54) h dX11_day_54 5 k54 rfl e54 b54 (by decide) (by cases w54; rfl) ?_
        refine g_aload_n h dX11_day_55 rfl ?_
        refine g_get h flX11_25 dX11_day_56 0 rfl rfl ?_
        refine g_aload_n h dX11_day_59 rfl ?_
        refine g_get h flX11_226 dX11_day_60 0 rfl rfl ?_
        refine g_iload_n h dX11_day_63 rfl ?_
        obtain ⟨k64, q64, hf⟩ := gbind hf
        have e64 := (gIx_s q64).1
        have b64 := (gIx_s q64).2
        obtain ⟨S0x64, w64, hf⟩ := gbind hf
        refine g_iast (ws' := wRf E a0 S0x64) h dX11_day_64 6 k64 rfl e64 b64 (by decide) (by cases w64; rfl) ?_
        refine g_aload_n h dX11_day_65 rfl ?_
        refine g_dup h dX11_day_66 rfl ?_
        refine g_get h flX11_226 dX11_day_67 0 rfl rfl ?_
        refine g_iconst (v := 1) h dX11_day_70 (by decide) ?_
        refine g_iadd h dX11_day_71 ?_
        obtain ⟨S0x72, q72, hf⟩ := gbind hf
        refine g_put (ws' := wRf E a0 S0x72) (ty := .int) h flX11_226 gftX11 rfl (by decide +kernel) dX11_day_72 0 rfl rfl rfl (Nat.le_of_ble_eq_true rfl) (by cases q72; rfl) ?_
        refine g_aload_n h dX11_day_75 rfl ?_
        refine g_get h flX11_226 dX11_day_76 0 rfl rfl ?_
        refine g_i2l h dX11_day_79 ?_
        have er := Option.some.inj hf
        subst er
        exact g_lreturn h dX11_day_80 rfl ⟨Nat.zero_le _, Nat.zero_le _, rfl, rfl, rfl⟩
      · replace hf := ifp_t c34 hf
        refine g_aload_n h dX11_day_37 rfl ?_
        refine g_ldc2 (v := (-9000000000000000005)) h dX11_day_38 gcX11_68 ?_
        obtain ⟨r41, q41, hf⟩ := gbind hf
        refine g_cVw (ws' := wRf E a0 r41.2) h (qX11_tellFinding (a0 := a0) q41) mX11_tellFinding lkX11_64 dX11_day_41 rfl rfl ⟨Nat.zero_le _, Nat.zero_le _⟩ ⟨by decide, by decide⟩ (Nat.le_of_ble_eq_true rfl) [0, 1, 2, 3, 4, 5, 6, 7, 8, 9, 10, 11, 12, 13, 14, 15] rfl rfl 0 rfl rfl mgX11_20 ?_
        have er := Option.some.inj hf
        subst er
        exact g_lreturn h dX11_day_44 rfl ⟨Nat.zero_le _, Nat.zero_le _, rfl, rfl, rfl⟩
    · replace hf := ifb_f c17 hf
      refine g_aload_n h dX11_day_20 rfl ?_
      refine g_ldc2 (v := (-9000000000000000001)) h dX11_day_21 gcX11_62 ?_
      obtain ⟨r24, q24, hf⟩ := gbind hf
      refine g_cVw (ws' := wRf E a0 r24.2) h (qX11_tellFinding (a0 := a0) q24) mX11_tellFinding lkX11_64 dX11_day_24 rfl rfl ⟨Nat.zero_le _, Nat.zero_le _⟩ ⟨by decide, by decide⟩ (Nat.le_of_ble_eq_true rfl) [0, 1, 2, 3, 4, 5, 6, 7, 8, 9, 10, 11, 12, 13, 14, 15] rfl rfl 0 rfl rfl mgX11_20 ?_
      have er := Option.some.inj hf
      subst er
      exact g_lreturn h dX11_day_27 rfl ⟨Nat.zero_le _, Nat.zero_le _, rfl, rfl, rfl⟩
def fX11_anew (fu : Nat) (S0 : gS)  : Option (Int64 × gS) := ((some (sI S0 5 (0 : Int32))).bind fun S0x7 => (some (((iF S0 5).toInt64), S0x7)))
set_option maxHeartbeats 4000000 in
set_option maxRecDepth 100000 in
theorem qX11_anew {l : Launch} {E : gE} {a0 : Nat → Nat} {fu : Nat} {S0 : gS}  {r : Int64 × gS} (hf : fX11_anew fu S0  = some r) : CtrF l yX11_anew cX11_anew 2 (some .long) (gR 0 0) E [.ref (a0 0)] (wRf E a0 S0) (some (.long r.1)) (wRf E a0 r.2) := by
  refine ctr_of false (plainFor_of_name (by decide)) (Nat.le_of_ble_eq_true rfl) (fun q => by cases q) (fun Γ h => ?_)
  refine g_lv [some _, _] rfl ?_
  rw [fX11_anew] at hf
  refine g_aload_n h dX11_anew_0 rfl ?_
  refine g_get h flX11_226 dX11_anew_1 0 rfl rfl ?_
  refine g_istore_n (lv' := [some _, some _]) h dX11_anew_4 (by decide) rfl ?_
  refine g_aload_n h dX11_anew_5 rfl ?_
  refine g_iconst (v := 0) h dX11_anew_6 (by decide) ?_
  obtain ⟨S0x7, q7, hf⟩ := gbind hf
  refine g_put (ws' := wRf E a0 S0x7) (ty := .int) h flX11_226 gftX11 rfl (by decide +kernel) dX11_anew_7 0 rfl rfl rfl (Nat.le_of_ble_eq_true rfl) (by cases q7; rfl) ?_
  refine g_iload_n h dX11_anew_10 rfl ?_
  refine g_i2l h dX11_anew_11 ?_
  have er := Option.some.inj hf
  subst er
  exact g_lreturn h dX11_anew_12 rfl ⟨Nat.zero_le _, Nat.zero_le _, rfl, rfl, rfl⟩
def fX11_isAt (fu : Nat) (S0 : gS) (v1 : Int32) (v2 : Int32) : Option (Bool) := (if v2 < 0 then (some true) else ((gIx v1 60).bind fun k9 => (if (((iA S0 6) k9) / (6 : Int32)) = v2 then (some true) else (some false))))
set_option maxHeartbeats 4000000 in
set_option maxRecDepth 100000 in
theorem qX11_isAt {l : Launch} {E : gE} {a0 : Nat → Nat} {fu : Nat} {S0 : gS} {v1 : Int32} {v2 : Int32} {r : Bool} (hf : fX11_isAt fu S0 v1 v2 = some r) : CtrF l yX11_isAt cX11_isAt 3 (some .boolean) (gR 0 0) E [.ref (a0 0), .int v1, .int v2] (wRf E a0 S0) (some (.int (bI r))) (wRf E a0 S0) := by
  refine ctr_of false (plainFor_of_name (by decide)) (Nat.le_of_ble_eq_true rfl) (fun q => by cases q) (fun Γ h => ?_)
  refine g_lv [some _, some _, some _] rfl ?_
  rw [fX11_isAt] at hf
  refine g_iload_n h dX11_isAt_0 rfl ?_
  refine g_if_lt h dX11_isAt_1 rfl (fun c1 => ?_) (fun c1 => ?_)
  · replace hf := ifp_t c1 hf
    refine g_iconst (v := 1) h dX11_isAt_17 (by decide) ?_
    refine g_goto h dX11_isAt_18 rfl ?_
    have er := Option.some.inj hf
    subst er
    exact g_ireturn h dX11_isAt_22 rfl rfl ⟨Nat.zero_le _, Nat.zero_le _, rfl, rfl, rfl⟩
  · replace hf := ifp_f c1 hf
    refine g_aload_n h dX11_isAt_4 rfl ?_
    refine g_get h flX11_22 dX11_isAt_5 0 rfl rfl ?_
    refine g_iload_n h dX11_isAt_8 rfl ?_
    obtain ⟨k9, q9, hf⟩ := gbind hf
    have e9 := (gIx_s q9).1
    have b9 := (gIx_s q9).2
    refine g_iald h dX11_isAt_9 5 k9 rfl e9 b9 (by decide) ?_
    refine g_bipush (v := 6) h dX11_isAt_10 (by decide) ?_
    refine g_idiv h dX11_isAt_12 (by decide) ?_
    refine g_iload_n h dX11_isAt_13 rfl ?_
    refine g_ic_ne h dX11_isAt_14 rfl (fun c14 => ?_) (fun c14 => ?_)
    · replace hf := ifp_f c14 hf
      refine g_iconst (v := 0) h dX11_isAt_21 (by decide) ?_
      have er := Option.some.inj hf
      subst er
      exact g_ireturn h dX11_isAt_22 rfl rfl ⟨Nat.zero_le _, Nat.zero_le _, rfl, rfl, rfl⟩
    · replace hf := ifp_t c14 hf
      refine g_iconst (v := 1) h dX11_isAt_17 (by decide) ?_
      refine g_goto h dX11_isAt_18 rfl ?_
      have er := Option.some.inj hf
      subst er
      exact g_ireturn h dX11_isAt_22 rfl rfl ⟨Nat.zero_le _, Nat.zero_le _, rfl, rfl, rfl⟩
def jX11_mean_57 (k25 : (Int64) → (Int64) → (Int32) → (gS) → Option (Int64 × gS)) (fu : Nat) (v1 : Int32) (v2 : Bool) (v5 : Int64) (v7 : Int32) (s0 : Int64) (s1 : Int64) (S0 : gS) : Option (Int64 × gS) := ((fX11_isAt fu S0 v7 v1).bind fun r65 => (if r65 = true then (k25 (s1 + s0) (v5 + (1 : Int64)) (v7 + 1) S0) else (k25 (s1 + s0) (v5 + (0 : Int64)) (v7 + 1) S0)))
def lX11_mean_25  (fu : Nat) (v1 : Int32) (v2 : Bool) : Nat → (Int64) → (Int64) → (Int32) → (gS) → Option (Int64 × gS)
  | 0, _, _, _, _ => none
  | j + 1, v3, v5, v7, S0 => (if (iF S0 5) ≤ v7 then (if v5 = (0 : Int64) then ((fX11_tellFinding fu S0 (-9000000000000000006 : Int64)).bind fun r96 => (some (r96.1, r96.2))) else ((fX11_part fu v3 v5 v2).bind fun r106 => (some (r106, S0)))) else ((fX11_isAt fu S0 v7 v1).bind fun r39 => (if r39 = true then ((gIx v7 60).bind fun k51 => (jX11_mean_57 (lX11_mean_25  fu v1 v2 j) fu v1 v2 v5 v7 (((iA S0 7) k51).toInt64) v3 S0)) else (jX11_mean_57 (lX11_mean_25  fu v1 v2 j) fu v1 v2 v5 v7 (0 : Int64) v3 S0))))
def fX11_mean (fu : Nat) (S0 : gS) (v1 : Int32) (v2 : Bool) : Option (Int64 × gS) := ((fX11_in fu v1 (-1 : Int32) (5 : Int32)).bind fun r3 => (if r3 = true then (lX11_mean_25  fu v1 v2 fu (0 : Int64) (0 : Int64) (0 : Int32) S0) else ((fX11_tellFinding fu S0 (-9000000000000000001 : Int64)).bind fun r13 => (some (r13.1, r13.2)))))
set_option maxHeartbeats 4000000 in
set_option maxRecDepth 100000 in
theorem qX11_mean {l : Launch} {E : gE} {a0 : Nat → Nat} {fu : Nat} {S0 : gS} {v1 : Int32} {v2 : Bool} {r : Int64 × gS} (hf : fX11_mean fu S0 v1 v2 = some r) : CtrF l yX11_mean cX11_mean 8 (some .long) (gR 2 55) E [.ref (a0 0), .int v1, .int (bI v2)] (wRf E a0 S0) (some (.long r.1)) (wRf E a0 r.2) := by
  refine ctr_of false (plainFor_of_name (by decide)) (Nat.le_of_ble_eq_true rfl) (fun q => by cases q) (fun Γ h => ?_)
  refine g_lv [some _, some _, some _, _, _, _, _, _] rfl ?_
  rw [fX11_mean] at hf
  have loop25 : ∀ (j25 : Nat) (v3 : Int64) (v5 : Int64) (v7 : Int32) (S0 : gS) , lX11_mean_25  fu v1 v2 j25 v3 v5 v7 S0 = some r → Γ 0 0 25 [some (.ref (a0 0)), some (.int v1), some (.int (bI v2)), some (.long v3), none, some (.long v5), none, some (.int v7)] [] (wRf E a0 S0) := by
    intro j25
    induction j25 with
    | zero => intro v3 v5 v7 S0 hf; exact gno hf
    | succ j25 ih25 =>
      intro v3 v5 v7 S0 hf
      rw [lX11_mean_25] at hf
      have jn57 : ∀ (v5 : Int64) (v7 : Int32) (s0 : Int64) (s1 : Int64) (S0 : gS) (o3 : Option Value) (o4 : Option Value), jX11_mean_57 (lX11_mean_25  fu v1 v2 j25) fu v1 v2 v5 v7 s0 s1 S0 = some r → Γ 0 0 57 [some (.ref (a0 0)), some (.int v1), some (.int (bI v2)), o3, o4, some (.long v5), none, some (.int v7)] [.long s0, .long s1] (wRf E a0 S0) := by
        intro v5 v7 s0 s1 S0 o3 o4 hf
        rw [jX11_mean_57] at hf
        refine g_ladd h dX11_mean_57 ?_
        refine g_lstore_n (lv' := [some _, some _, some _, some _, none, some _, none, some _]) h dX11_mean_58 (by decide) rfl ?_
        refine g_lload h dX11_mean_59 rfl ?_
        refine g_aload_n h dX11_mean_61 rfl ?_
        refine g_iload h dX11_mean_62 rfl ?_
        refine g_iload_n h dX11_mean_64 rfl ?_
        obtain ⟨r65, q65, hf⟩ := gbind hf
        refine g_cVr h (qX11_isAt (a0 := a0) q65) mX11_isAt lkX11_229 dX11_mean_65 rfl rfl ⟨Nat.zero_le _, Nat.zero_le _⟩ ⟨by decide, by decide⟩ (Nat.le_of_ble_eq_true rfl) [0, 1, 2, 3, 4, 5, 6, 7, 8, 9, 10, 11, 12, 13, 14, 15] rfl rfl 0 rfl rfl ?_
        refine g_ifb_eq h dX11_mean_68 rfl (fun c68 => ?_) (fun c68 => ?_)
        · replace hf := ifb_f c68 hf
          refine g_lconst (v := 0) h dX11_mean_75 (by decide) ?_
          refine g_ladd h dX11_mean_76 ?_
          refine g_lstore (lv' := [some _, some _, some _, some _, none, some _, none, some _]) h dX11_mean_77 (by decide) rfl ?_
          refine g_iinc (v := (v7 + 1)) (lv' := [some _, some _, some _, some _, none, some _, none, some _]) h dX11_mean_79 rfl rfl (by decide) rfl ?_
          refine g_goto h dX11_mean_82 rfl ?_
          exact ih25 _ _ _ _ hf
        · replace hf := ifb_t c68 hf
          refine g_lconst (v := 1) h dX11_mean_71 (by decide) ?_
          refine g_goto h dX11_mean_72 rfl ?_
          refine g_ladd h dX11_mean_76 ?_
          refine g_lstore (lv' := [some _, some _, some _, some _, none, some _, none, some _]) h dX11_mean_77 (by decide) rfl ?_
          refine g_iinc (v := (v7 + 1)) (lv' := [some _, some _, some _, some _, none, some _, none, some _]) h dX11_mean_79 rfl rfl (by decide) rfl ?_
          refine g_goto h dX11_mean_82 rfl ?_
          exact ih25 _ _ _ _ hf
      refine g_iload h dX11_mean_25 rfl ?_
      refine g_aload_n h dX11_mean_27 rfl ?_
      refine g_get h flX11_226 dX11_mean_28 0 rfl rfl ?_
      refine g_ic_ge h dX11_mean_31 rfl (fun c31 => ?_) (fun c31 => ?_)
      · replace hf := ifp_t c31 hf
        refine g_lload h dX11_mean_85 rfl ?_
        refine g_lconst (v := 0) h dX11_mean_87 (by decide) ?_
        refine g_lcmp h dX11_mean_88 ?_
        refine g_lif_ne h dX11_mean_89 rfl (fun c89 => ?_) (fun c89 => ?_)
        · replace hf := ifp_f c89 hf
          refine g_lload_n h dX11_mean_102 rfl ?_
          refine g_lload h dX11_mean_103 rfl ?_
          refine g_iload_n h dX11_mean_105 rfl ?_
          obtain ⟨r106, q106, hf⟩ := gbind hf
          refine g_cSr h (qX11_part q106) mX11_part lkX11_186 dX11_mean_106 rfl rfl ⟨Nat.zero_le _, Nat.zero_le _⟩ ⟨by decide, by decide⟩ (Nat.le_of_ble_eq_true rfl) [] rfl rfl ?_
          have er := Option.some.inj hf
          subst er
          exact g_lreturn h dX11_mean_109 rfl ⟨Nat.zero_le _, Nat.zero_le _, rfl, rfl, rfl⟩
        · replace hf := ifp_t c89 hf
          refine g_aload_n h dX11_mean_92 rfl ?_
          refine g_ldc2 (v := (-9000000000000000006)) h dX11_mean_93 gcX11_176 ?_
          obtain ⟨r96, q96, hf⟩ := gbind hf
          refine g_cVw (ws' := wRf E a0 r96.2) h (qX11_tellFinding (a0 := a0) q96) mX11_tellFinding lkX11_64 dX11_mean_96 rfl rfl ⟨Nat.zero_le _, Nat.zero_le _⟩ ⟨by decide, by decide⟩ (Nat.le_of_ble_eq_true rfl) [0, 1, 2, 3, 4, 5, 6, 7, 8, 9, 10, 11, 12, 13, 14, 15] rfl rfl 0 rfl rfl mgX11_20 ?_
          refine g_goto h dX11_mean_99 rfl ?_
          have er := Option.some.inj hf
          subst er
          exact g_lreturn h dX11_mean_109 rfl ⟨Nat.zero_le _, Nat.zero_le _, rfl, rfl, rfl⟩
      · replace hf := ifp_f c31 hf
        refine g_lload_n h dX11_mean_34 rfl ?_
        refine g_aload_n h dX11_mean_35 rfl ?_
        refine g_iload h dX11_mean_36 rfl ?_
        refine g_iload_n h dX11_mean_38 rfl ?_
        obtain ⟨r39, q39, hf⟩ := gbind hf
        refine g_cVr h (qX11_isAt (a0 := a0) q39) mX11_isAt lkX11_229 dX11_mean_39 rfl rfl ⟨Nat.zero_le _, Nat.zero_le _⟩ ⟨by decide, by decide⟩ (Nat.le_of_ble_eq_true rfl) [0, 1, 2, 3, 4, 5, 6, 7, 8, 9, 10, 11, 12, 13, 14, 15] rfl rfl 0 rfl rfl ?_
        refine g_ifb_eq h dX11_mean_42 rfl (fun c42 => ?_) (fun c42 => ?_)
        · replace hf := ifb_f c42 hf
          refine g_lconst (v := 0) h dX11_mean_56 (by decide) ?_
          exact jn57 _ _ _ _ _ _ _ hf
        · replace hf := ifb_t c42 hf
          refine g_aload_n h dX11_mean_45 rfl ?_
          refine g_get h flX11_25 dX11_mean_46 0 rfl rfl ?_
          refine g_iload h dX11_mean_49 rfl ?_
          obtain ⟨k51, q51, hf⟩ := gbind hf
          have e51 := (gIx_s q51).1
          have b51 := (gIx_s q51).2
          refine g_iald h dX11_mean_51 6 k51 rfl e51 b51 (by decide) ?_
          refine g_i2l h dX11_mean_52 ?_
          refine g_goto h dX11_mean_53 rfl ?_
          exact jn57 _ _ _ _ _ _ _ hf
  refine g_iload_n h dX11_mean_0 rfl ?_
  refine g_iconst (v := (-1)) h dX11_mean_1 (by decide) ?_
  refine g_iconst (v := 5) h dX11_mean_2 (by decide) ?_
  obtain ⟨r3, q3, hf⟩ := gbind hf
  refine g_cSr h (qX11_in q3) mX11_in lkX11_58 dX11_mean_3 rfl rfl ⟨Nat.zero_le _, Nat.zero_le _⟩ ⟨by decide, by decide⟩ (Nat.le_of_ble_eq_true rfl) [] rfl rfl ?_
  refine g_ifb_ne h dX11_mean_6 rfl (fun c6 => ?_) (fun c6 => ?_)
  · replace hf := ifb_t c6 hf
    refine g_lconst (v := 0) h dX11_mean_17 (by decide) ?_
    refine g_lstore_n (lv' := [some _, some _, some _, some _, none, _, _, _]) h dX11_mean_18 (by decide) rfl ?_
    refine g_lconst (v := 0) h dX11_mean_19 (by decide) ?_
    refine g_lstore (lv' := [some _, some _, some _, some _, none, some _, none, _]) h dX11_mean_20 (by decide) rfl ?_
    refine g_iconst (v := 0) h dX11_mean_22 (by decide) ?_
    refine g_istore (lv' := [some _, some _, some _, some _, none, some _, none, some _]) h dX11_mean_23 (by decide) rfl ?_
    exact loop25 _ _ _ _ _  hf
  · replace hf := ifb_f c6 hf
    refine g_aload_n h dX11_mean_9 rfl ?_
    refine g_ldc2 (v := (-9000000000000000001)) h dX11_mean_10 gcX11_62 ?_
    obtain ⟨r13, q13, hf⟩ := gbind hf
    refine g_cVw (ws' := wRf E a0 r13.2) h (qX11_tellFinding (a0 := a0) q13) mX11_tellFinding lkX11_64 dX11_mean_13 rfl rfl ⟨Nat.zero_le _, Nat.zero_le _⟩ ⟨by decide, by decide⟩ (Nat.le_of_ble_eq_true rfl) [0, 1, 2, 3, 4, 5, 6, 7, 8, 9, 10, 11, 12, 13, 14, 15] rfl rfl 0 rfl rfl mgX11_20 ?_
    have er := Option.some.inj hf
    subst er
    exact g_lreturn h dX11_mean_16 rfl ⟨Nat.zero_le _, Nat.zero_le _, rfl, rfl, rfl⟩
def jX11_change_79 (k24 : (Int32) → (Int32) → (Int32) → (gS) → Option (Int64 × gS)) (fu : Nat) (v1 : Int32) (v3 : Int32) (v4 : Int32) (s0 : Int32) (S0 : gS) : Option (Int64 × gS) := (if s0 ≤ v3 then (k24 v4 v3 (v4 + 1) S0) else (k24 v4 s0 (v4 + 1) S0))
def lX11_change_24  (fu : Nat) (v1 : Int32) : Nat → (Int32) → (Int32) → (Int32) → (gS) → Option (Int64 × gS)
  | 0, _, _, _, _ => none
  | j + 1, v2, v3, v4, S0 => (if (iF S0 5) ≤ v4 then (if 0 ≤ v3 then (some ((v3.toInt64), S0)) else ((fX11_tellFinding fu S0 (-9000000000000000006 : Int64)).bind fun r111 => (some (r111.1, r111.2)))) else ((fX11_isAt fu S0 v4 v1).bind fun r37 => (if r37 = true then (if v2 < 0 then ((lX11_change_24  fu v1 j) v4 v3 (v4 + 1) S0) else ((gIx v4 60).bind fun k56 => ((gIx v2 60).bind fun k62 => (if 0 ≤ (((iA S0 7) k56) - ((iA S0 7) k62)) then (jX11_change_79 (lX11_change_24  fu v1 j) fu v1 v3 v4 (((iA S0 7) k56) - ((iA S0 7) k62)) S0) else (jX11_change_79 (lX11_change_24  fu v1 j) fu v1 v3 v4 (-(((iA S0 7) k56) - ((iA S0 7) k62))) S0))))) else ((lX11_change_24  fu v1 j) v2 v3 (v4 + 1) S0))))
def fX11_change (fu : Nat) (S0 : gS) (v1 : Int32) : Option (Int64 × gS) := ((fX11_in fu v1 (-1 : Int32) (5 : Int32)).bind fun r3 => (if r3 = true then (lX11_change_24  fu v1 fu (-1 : Int32) (-1 : Int32) (0 : Int32) S0) else ((fX11_tellFinding fu S0 (-9000000000000000001 : Int64)).bind fun r13 => (some (r13.1, r13.2)))))
set_option maxHeartbeats 4000000 in
set_option maxRecDepth 100000 in
theorem qX11_change {l : Launch} {E : gE} {a0 : Nat → Nat} {fu : Nat} {S0 : gS} {v1 : Int32} {r : Int64 × gS} (hf : fX11_change fu S0 v1 = some r) : CtrF l yX11_change cX11_change 6 (some .long) (gR 1 22) E [.ref (a0 0), .int v1] (wRf E a0 S0) (some (.long r.1)) (wRf E a0 r.2) := by
  refine ctr_of false (plainFor_of_name (by decide)) (Nat.le_of_ble_eq_true rfl) (fun q => by cases q) (fun Γ h => ?_)
  refine g_lv [some _, some _, _, _, _, _] rfl ?_
  rw [fX11_change] at hf
  have loop24 : ∀ (j24 : Nat) (v2 : Int32) (v3 : Int32) (v4 : Int32) (S0 : gS) (o5 : Option Value), lX11_change_24  fu v1 j24 v2 v3 v4 S0 = some r → Γ 0 0 24 [some (.ref (a0 0)), some (.int v1), some (.int v2), some (.int v3), some (.int v4), o5] [] (wRf E a0 S0) := by
    intro j24
    induction j24 with
    | zero => intro v2 v3 v4 S0 o5 hf; exact gno hf
    | succ j24 ih24 =>
      intro v2 v3 v4 S0 o5 hf
      rw [lX11_change_24] at hf
      have jn79 : ∀ (v3 : Int32) (v4 : Int32) (s0 : Int32) (S0 : gS) (o2 : Option Value) (o5 : Option Value), jX11_change_79 (lX11_change_24  fu v1 j24) fu v1 v3 v4 s0 S0 = some r → Γ 0 0 79 [some (.ref (a0 0)), some (.int v1), o2, some (.int v3), some (.int v4), o5] [.int s0] (wRf E a0 S0) := by
        intro v3 v4 s0 S0 o2 o5 hf
        rw [jX11_change_79] at hf
        refine g_istore (lv' := [some _, some _, _, some _, some _, some _]) h dX11_change_79 (by decide) rfl ?_
        refine g_iload h dX11_change_81 rfl ?_
        refine g_iload_n h dX11_change_83 rfl ?_
        refine g_ic_le h dX11_change_84 rfl (fun c84 => ?_) (fun c84 => ?_)
        · replace hf := ifp_t c84 hf
          refine g_iload_n h dX11_change_92 rfl ?_
          refine g_istore_n (lv' := [some _, some _, _, some _, some _, some _]) h dX11_change_93 (by decide) rfl ?_
          refine g_iload h dX11_change_94 rfl ?_
          refine g_istore_n (lv' := [some _, some _, some _, some _, some _, some _]) h dX11_change_96 (by decide) rfl ?_
          refine g_iinc (v := (v4 + 1)) (lv' := [some _, some _, some _, some _, some _, some _]) h dX11_change_97 rfl rfl (by decide) rfl ?_
          refine g_goto h dX11_change_100 rfl ?_
          exact ih24 _ _ _ _ _ hf
        · replace hf := ifp_f c84 hf
          refine g_iload h dX11_change_87 rfl ?_
          refine g_goto h dX11_change_89 rfl ?_
          refine g_istore_n (lv' := [some _, some _, _, some _, some _, some _]) h dX11_change_93 (by decide) rfl ?_
          refine g_iload h dX11_change_94 rfl ?_
          refine g_istore_n (lv' := [some _, some _, some _, some _, some _, some _]) h dX11_change_96 (by decide) rfl ?_
          refine g_iinc (v := (v4 + 1)) (lv' := [some _, some _, some _, some _, some _, some _]) h dX11_change_97 rfl rfl (by decide) rfl ?_
          refine g_goto h dX11_change_100 rfl ?_
          exact ih24 _ _ _ _ _ hf
      refine g_iload h dX11_change_24 rfl ?_
      refine g_aload_n h dX11_change_26 rfl ?_
      refine g_get h flX11_226 dX11_change_27 0 rfl rfl ?_
      refine g_ic_ge h dX11_change_30 rfl (fun c30 => ?_) (fun c30 => ?_)
      · replace hf := ifp_t c30 hf
        refine g_iload_n h dX11_change_103 rfl ?_
        refine g_if_ge h dX11_change_104 rfl (fun c104 => ?_) (fun c104 => ?_)
        · replace hf := ifp_t c104 hf
          refine g_iload_n h dX11_change_117 rfl ?_
          refine g_i2l h dX11_change_118 ?_
          have er := Option.some.inj hf
          subst er
          exact g_lreturn h dX11_change_119 rfl ⟨Nat.zero_le _, Nat.zero_le _, rfl, rfl, rfl⟩
        · replace hf := ifp_f c104 hf
          refine g_aload_n h dX11_change_107 rfl ?_
          refine g_ldc2 (v := (-9000000000000000006)) h dX11_change_108 gcX11_176 ?_
          obtain ⟨r111, q111, hf⟩ := gbind hf
          refine g_cVw (ws' := wRf E a0 r111.2) h (qX11_tellFinding (a0 := a0) q111) mX11_tellFinding lkX11_64 dX11_change_111 rfl rfl ⟨Nat.zero_le _, Nat.zero_le _⟩ ⟨by decide, by decide⟩ (Nat.le_of_ble_eq_true rfl) [0, 1, 2, 3, 4, 5, 6, 7, 8, 9, 10, 11, 12, 13, 14, 15] rfl rfl 0 rfl rfl mgX11_20 ?_
          refine g_goto h dX11_change_114 rfl ?_
          have er := Option.some.inj hf
          subst er
          exact g_lreturn h dX11_change_119 rfl ⟨Nat.zero_le _, Nat.zero_le _, rfl, rfl, rfl⟩
      · replace hf := ifp_f c30 hf
        refine g_aload_n h dX11_change_33 rfl ?_
        refine g_iload h dX11_change_34 rfl ?_
        refine g_iload_n h dX11_change_36 rfl ?_
        obtain ⟨r37, q37, hf⟩ := gbind hf
        refine g_cVr h (qX11_isAt (a0 := a0) q37) mX11_isAt lkX11_229 dX11_change_37 rfl rfl ⟨Nat.zero_le _, Nat.zero_le _⟩ ⟨by decide, by decide⟩ (Nat.le_of_ble_eq_true rfl) [0, 1, 2, 3, 4, 5, 6, 7, 8, 9, 10, 11, 12, 13, 14, 15] rfl rfl 0 rfl rfl ?_
        refine g_ifb_ne h dX11_change_40 rfl (fun c40 => ?_) (fun c40 => ?_)
        · replace hf := ifb_t c40 hf
          refine g_iload_n h dX11_change_46 rfl ?_
          refine g_if_lt h dX11_change_47 rfl (fun c47 => ?_) (fun c47 => ?_)
          · replace hf := ifp_t c47 hf
            refine g_iload h dX11_change_94 rfl ?_
            refine g_istore_n (lv' := [some _, some _, some _, some _, some _, _]) h dX11_change_96 (by decide) rfl ?_
            refine g_iinc (v := (v4 + 1)) (lv' := [some _, some _, some _, some _, some _, _]) h dX11_change_97 rfl rfl (by decide) rfl ?_
            refine g_goto h dX11_change_100 rfl ?_
            exact ih24 _ _ _ _ _ hf
          · replace hf := ifp_f c47 hf
            refine g_aload_n h dX11_change_50 rfl ?_
            refine g_get h flX11_25 dX11_change_51 0 rfl rfl ?_
            refine g_iload h dX11_change_54 rfl ?_
            obtain ⟨k56, q56, hf⟩ := gbind hf
            have e56 := (gIx_s q56).1
            have b56 := (gIx_s q56).2
            refine g_iald h dX11_change_56 6 k56 rfl e56 b56 (by decide) ?_
            refine g_aload_n h dX11_change_57 rfl ?_
            refine g_get h flX11_25 dX11_change_58 0 rfl rfl ?_
            refine g_iload_n h dX11_change_61 rfl ?_
            obtain ⟨k62, q62, hf⟩ := gbind hf
            have e62 := (gIx_s q62).1
            have b62 := (gIx_s q62).2
            refine g_iald h dX11_change_62 6 k62 rfl e62 b62 (by decide) ?_
            refine g_isub h dX11_change_63 ?_
            refine g_istore (lv' := [some _, some _, some _, some _, some _, some _]) h dX11_change_64 (by decide) rfl ?_
            refine g_iload h dX11_change_66 rfl ?_
            refine g_if_ge h dX11_change_68 rfl (fun c68 => ?_) (fun c68 => ?_)
            · replace hf := ifp_t c68 hf
              refine g_iload h dX11_change_77 rfl ?_
              exact jn79 _ _ _ _ _ _ hf
            · replace hf := ifp_f c68 hf
              refine g_iload h dX11_change_71 rfl ?_
              refine g_ineg h dX11_change_73 ?_
              refine g_goto h dX11_change_74 rfl ?_
              exact jn79 _ _ _ _ _ _ hf
        · replace hf := ifb_f c40 hf
          refine g_goto h dX11_change_43 rfl ?_
          refine g_iinc (v := (v4 + 1)) (lv' := [some _, some _, some _, some _, some _, _]) h dX11_change_97 rfl rfl (by decide) rfl ?_
          refine g_goto h dX11_change_100 rfl ?_
          exact ih24 _ _ _ _ _ hf
  refine g_iload_n h dX11_change_0 rfl ?_
  refine g_iconst (v := (-1)) h dX11_change_1 (by decide) ?_
  refine g_iconst (v := 5) h dX11_change_2 (by decide) ?_
  obtain ⟨r3, q3, hf⟩ := gbind hf
  refine g_cSr h (qX11_in q3) mX11_in lkX11_58 dX11_change_3 rfl rfl ⟨Nat.zero_le _, Nat.zero_le _⟩ ⟨by decide, by decide⟩ (Nat.le_of_ble_eq_true rfl) [] rfl rfl ?_
  refine g_ifb_ne h dX11_change_6 rfl (fun c6 => ?_) (fun c6 => ?_)
  · replace hf := ifb_t c6 hf
    refine g_iconst (v := (-1)) h dX11_change_17 (by decide) ?_
    refine g_istore_n (lv' := [some _, some _, some _, _, _, _]) h dX11_change_18 (by decide) rfl ?_
    refine g_iconst (v := (-1)) h dX11_change_19 (by decide) ?_
    refine g_istore_n (lv' := [some _, some _, some _, some _, _, _]) h dX11_change_20 (by decide) rfl ?_
    refine g_iconst (v := 0) h dX11_change_21 (by decide) ?_
    refine g_istore (lv' := [some _, some _, some _, some _, some _, _]) h dX11_change_22 (by decide) rfl ?_
    exact loop24 _ _ _ _ _ _ hf
  · replace hf := ifb_f c6 hf
    refine g_aload_n h dX11_change_9 rfl ?_
    refine g_ldc2 (v := (-9000000000000000001)) h dX11_change_10 gcX11_62 ?_
    obtain ⟨r13, q13, hf⟩ := gbind hf
    refine g_cVw (ws' := wRf E a0 r13.2) h (qX11_tellFinding (a0 := a0) q13) mX11_tellFinding lkX11_64 dX11_change_13 rfl rfl ⟨Nat.zero_le _, Nat.zero_le _⟩ ⟨by decide, by decide⟩ (Nat.le_of_ble_eq_true rfl) [0, 1, 2, 3, 4, 5, 6, 7, 8, 9, 10, 11, 12, 13, 14, 15] rfl rfl 0 rfl rfl mgX11_20 ?_
    have er := Option.some.inj hf
    subst er
    exact g_lreturn h dX11_change_16 rfl ⟨Nat.zero_le _, Nat.zero_le _, rfl, rfl, rfl⟩
def fX11_tell (fu : Nat) (S0 : gS) (v1 : Int32) : Option (Int64 × gS) := (if (iF S0 8) = (16 : Int32) then ((fX11_tellFinding fu S0 (-9000000000000000005 : Int64)).bind fun r13 => (some (r13.1, r13.2))) else ((gIx (iF S0 8) 16).bind fun k26 => ((some (sAu S0 9 k26 v1)).bind fun S0x26 => ((some (sI S0x26 8 ((iF S0x26 8) + (1 : Int32)))).bind fun S0x34 => (some (((iF S0x34 8).toInt64), S0x34))))))
set_option maxHeartbeats 4000000 in
set_option maxRecDepth 100000 in
theorem qX11_tell {l : Launch} {E : gE} {a0 : Nat → Nat} {fu : Nat} {S0 : gS} {v1 : Int32} {r : Int64 × gS} (hf : fX11_tell fu S0 v1 = some r) : CtrF l yX11_tell cX11_tell 2 (some .long) (gR 1 22) E [.ref (a0 0), .int v1] (wRf E a0 S0) (some (.long r.1)) (wRf E a0 r.2) := by
  refine ctr_of false (plainFor_of_name (by decide)) (Nat.le_of_ble_eq_true rfl) (fun q => by cases q) (fun Γ h => ?_)
  refine g_lv [some _, some _] rfl ?_
  rw [fX11_tell] at hf
  refine g_aload_n h dX11_tell_0 rfl ?_
  refine g_get h flX11_233 dX11_tell_1 0 rfl rfl ?_
  refine g_bipush (v := 16) h dX11_tell_4 (by decide) ?_
  refine g_ic_ne h dX11_tell_6 rfl (fun c6 => ?_) (fun c6 => ?_)
  · replace hf := ifp_f c6 hf
    refine g_aload_n h dX11_tell_17 rfl ?_
    refine g_get h flX11_28 dX11_tell_18 0 rfl rfl ?_
    refine g_aload_n h dX11_tell_21 rfl ?_
    refine g_get h flX11_233 dX11_tell_22 0 rfl rfl ?_
    refine g_iload_n h dX11_tell_25 rfl ?_
    obtain ⟨k26, q26, hf⟩ := gbind hf
    have e26 := (gIx_s q26).1
    have b26 := (gIx_s q26).2
    obtain ⟨S0x26, w26, hf⟩ := gbind hf
    refine g_iast (ws' := wRf E a0 S0x26) h dX11_tell_26 7 k26 rfl e26 b26 (by decide) (by cases w26; rfl) ?_
    refine g_aload_n h dX11_tell_27 rfl ?_
    refine g_dup h dX11_tell_28 rfl ?_
    refine g_get h flX11_233 dX11_tell_29 0 rfl rfl ?_
    refine g_iconst (v := 1) h dX11_tell_32 (by decide) ?_
    refine g_iadd h dX11_tell_33 ?_
    obtain ⟨S0x34, q34, hf⟩ := gbind hf
    refine g_put (ws' := wRf E a0 S0x34) (ty := .int) h flX11_233 gftX11 rfl (by decide +kernel) dX11_tell_34 0 rfl rfl rfl (Nat.le_of_ble_eq_true rfl) (by cases q34; rfl) ?_
    refine g_aload_n h dX11_tell_37 rfl ?_
    refine g_get h flX11_233 dX11_tell_38 0 rfl rfl ?_
    refine g_i2l h dX11_tell_41 ?_
    have er := Option.some.inj hf
    subst er
    exact g_lreturn h dX11_tell_42 rfl ⟨Nat.zero_le _, Nat.zero_le _, rfl, rfl, rfl⟩
  · replace hf := ifp_t c6 hf
    refine g_aload_n h dX11_tell_9 rfl ?_
    refine g_ldc2 (v := (-9000000000000000005)) h dX11_tell_10 gcX11_68 ?_
    obtain ⟨r13, q13, hf⟩ := gbind hf
    refine g_cVw (ws' := wRf E a0 r13.2) h (qX11_tellFinding (a0 := a0) q13) mX11_tellFinding lkX11_64 dX11_tell_13 rfl rfl ⟨Nat.zero_le _, Nat.zero_le _⟩ ⟨by decide, by decide⟩ (Nat.le_of_ble_eq_true rfl) [0, 1, 2, 3, 4, 5, 6, 7, 8, 9, 10, 11, 12, 13, 14, 15] rfl rfl 0 rfl rfl mgX11_20 ?_
    have er := Option.some.inj hf
    subst er
    exact g_lreturn h dX11_tell_16 rfl ⟨Nat.zero_le _, Nat.zero_le _, rfl, rfl, rfl⟩
def fX11_isFraction (fu : Nat)  (v0 : Int32) (v1 : Int32) (v2 : Int64) (v4 : Int64) : Option (Bool) := (if v1 = 0 then (some false) else (if v4 = 0 then none else (if ((v1.toInt64) - (v1.toInt64) / v4 * v4) = (0 : Int64) then (if v4 = 0 then none else (if (2147483648 : Int64) < v2 then (some false) else (if v2 < (-2147483648 : Int64) then (some false) else (if (v2 * ((v1.toInt64) / v4)) = (v0.toInt64) then (some true) else (some false))))) else (some false))))
set_option maxHeartbeats 4000000 in
set_option maxRecDepth 100000 in
theorem qX11_isFraction {l : Launch} {E : gE}  {fu : Nat}  {v0 : Int32} {v1 : Int32} {v2 : Int64} {v4 : Int64} {r : Bool} (hf : fX11_isFraction fu  v0 v1 v2 v4 = some r) : CtrF l yX11_isFraction cX11_isFraction 8 (some .boolean) (gR 0 0) E [.int v0, .int v1, .long v2, .long v4] ([]) (some (.int (bI r))) ([]) := by
  refine ctr_of false (plainFor_of_name (by decide)) (Nat.le_of_ble_eq_true rfl) (fun q => by cases q) (fun Γ h => ?_)
  refine g_lv [some _, some _, some _, none, some _, none, _, _] rfl ?_
  rw [fX11_isFraction] at hf
  refine g_iload_n h dX11_isFraction_0 rfl ?_
  refine g_if_eq h dX11_isFraction_1 rfl (fun c1 => ?_) (fun c1 => ?_)
  · replace hf := ifp_t c1 hf
    refine g_iconst (v := 0) h dX11_isFraction_14 (by decide) ?_
    have er := Option.some.inj hf
    subst er
    exact g_ireturn h dX11_isFraction_15 rfl rfl ⟨Nat.zero_le _, Nat.zero_le _, rfl, rfl, rfl⟩
  · replace hf := ifp_f c1 hf
    refine g_iload_n h dX11_isFraction_4 rfl ?_
    refine g_i2l h dX11_isFraction_5 ?_
    refine g_lload h dX11_isFraction_6 rfl ?_
    have n8 := gnz hf
    replace hf := gnz2 hf
    refine g_lrem h dX11_isFraction_8 n8 ?_
    refine g_lconst (v := 0) h dX11_isFraction_9 (by decide) ?_
    refine g_lcmp h dX11_isFraction_10 ?_
    refine g_lif_eq h dX11_isFraction_11 rfl (fun c11 => ?_) (fun c11 => ?_)
    · replace hf := ifp_t c11 hf
      refine g_iload_n h dX11_isFraction_16 rfl ?_
      refine g_i2l h dX11_isFraction_17 ?_
      refine g_lload h dX11_isFraction_18 rfl ?_
      have n20 := gnz hf
      replace hf := gnz2 hf
      refine g_ldiv h dX11_isFraction_20 n20 ?_
      refine g_lstore (lv' := [some _, some _, some _, none, some _, none, some _, none]) h dX11_isFraction_21 (by decide) rfl ?_
      refine g_lload_n h dX11_isFraction_23 rfl ?_
      refine g_ldc2 (v := 2147483648) h dX11_isFraction_24 gcX11_236 ?_
      refine g_lcmp h dX11_isFraction_27 ?_
      refine g_lif_gt h dX11_isFraction_28 rfl (fun c28 => ?_) (fun c28 => ?_)
      · replace hf := ifp_t c28 hf
        refine g_iconst (v := 0) h dX11_isFraction_53 (by decide) ?_
        have er := Option.some.inj hf
        subst er
        exact g_ireturn h dX11_isFraction_54 rfl rfl ⟨Nat.zero_le _, Nat.zero_le _, rfl, rfl, rfl⟩
      · replace hf := ifp_f c28 hf
        refine g_lload_n h dX11_isFraction_31 rfl ?_
        refine g_ldc2 (v := (-2147483648)) h dX11_isFraction_32 gcX11_238 ?_
        refine g_lcmp h dX11_isFraction_35 ?_
        refine g_lif_lt h dX11_isFraction_36 rfl (fun c36 => ?_) (fun c36 => ?_)
        · replace hf := ifp_t c36 hf
          refine g_iconst (v := 0) h dX11_isFraction_53 (by decide) ?_
          have er := Option.some.inj hf
          subst er
          exact g_ireturn h dX11_isFraction_54 rfl rfl ⟨Nat.zero_le _, Nat.zero_le _, rfl, rfl, rfl⟩
        · replace hf := ifp_f c36 hf
          refine g_lload_n h dX11_isFraction_39 rfl ?_
          refine g_lload h dX11_isFraction_40 rfl ?_
          refine g_lmul h dX11_isFraction_42 ?_
          refine g_iload_n h dX11_isFraction_43 rfl ?_
          refine g_i2l h dX11_isFraction_44 ?_
          refine g_lcmp h dX11_isFraction_45 ?_
          refine g_lif_ne h dX11_isFraction_46 rfl (fun c46 => ?_) (fun c46 => ?_)
          · replace hf := ifp_f c46 hf
            refine g_iconst (v := 0) h dX11_isFraction_53 (by decide) ?_
            have er := Option.some.inj hf
            subst er
            exact g_ireturn h dX11_isFraction_54 rfl rfl ⟨Nat.zero_le _, Nat.zero_le _, rfl, rfl, rfl⟩
          · replace hf := ifp_t c46 hf
            refine g_iconst (v := 1) h dX11_isFraction_49 (by decide) ?_
            refine g_goto h dX11_isFraction_50 rfl ?_
            have er := Option.some.inj hf
            subst er
            exact g_ireturn h dX11_isFraction_54 rfl rfl ⟨Nat.zero_le _, Nat.zero_le _, rfl, rfl, rfl⟩
    · replace hf := ifp_f c11 hf
      refine g_iconst (v := 0) h dX11_isFraction_14 (by decide) ?_
      have er := Option.some.inj hf
      subst er
      exact g_ireturn h dX11_isFraction_15 rfl rfl ⟨Nat.zero_le _, Nat.zero_le _, rfl, rfl, rfl⟩
def lX11_check_30  (fu : Nat)  : Nat → (Int32) → (Int32) → (gS) → Option (Int64 × gS)
  | 0, _, _, _ => none
  | j + 1, v1, v2, S0 => (if (iF S0 15) ≤ v2 then (if v1 ≤ ((2 : Int32) * (iF S0 15)) then (some ((0 : Int64), S0)) else (some ((100 : Int64), S0))) else ((gIx v2 4).bind fun k43 => ((fX11_part fu ((lA S0 17) k43) (lF S0 18) false).bind fun r49 => ((fX11_part fu ((lA S0 17) k43) (lF S0 18) true).bind fun r64 => (if v1 ≤ (((2 : Int32) * v2) + (1 : Int32)) then (some ((((1 : Int32) + v2).toInt64), S0)) else ((gIx ((2 : Int32) * v2) 16).bind fun k85 => ((gIx (((2 : Int32) * v2) + (1 : Int32)) 16).bind fun k95 => ((fX11_isFraction fu ((iA S0 9) k85) ((iA S0 9) k95) r49 r64).bind fun r99 => (if r99 = true then ((lX11_check_30  fu  j) v1 (v2 + 1) S0) else (some ((((1 : Int32) + v2).toInt64), S0)))))))))))
def fX11_check (fu : Nat) (S0 : gS)  : Option (Int64 × gS) := ((some (sI S0 8 (0 : Int32))).bind fun S0x7 => ((fX11_notFound fu S0x7).bind fun r11 => (if r11 = (0 : Int64) then (lX11_check_30  fu  fu (iF S0 8) (0 : Int32) S0x7) else ((fX11_notFound fu S0x7).bind fun r21 => ((fX11_tellFinding fu S0x7 r21).bind fun r24 => (some (r24.1, r24.2)))))))
set_option maxHeartbeats 4000000 in
set_option maxRecDepth 100000 in
theorem qX11_check {l : Launch} {E : gE} {a0 : Nat → Nat} {fu : Nat} {S0 : gS}  {r : Int64 × gS} (hf : fX11_check fu S0  = some r) : CtrF l yX11_check cX11_check 7 (some .long) (gR 2 55) E [.ref (a0 0)] (wRf E a0 S0) (some (.long r.1)) (wRf E a0 r.2) := by
  refine ctr_of false (plainFor_of_name (by decide)) (Nat.le_of_ble_eq_true rfl) (fun q => by cases q) (fun Γ h => ?_)
  refine g_lv [some _, _, _, _, _, _, _] rfl ?_
  rw [fX11_check] at hf
  have loop30 : ∀ (j30 : Nat) (v1 : Int32) (v2 : Int32) (S0 : gS) (o3 : Option Value) (o4 : Option Value) (o5 : Option Value) (o6 : Option Value), lX11_check_30  fu  j30 v1 v2 S0 = some r → Γ 0 0 30 [some (.ref (a0 0)), some (.int v1), some (.int v2), o3, o4, o5, o6] [] (wRf E a0 S0) := by
    intro j30
    induction j30 with
    | zero => intro v1 v2 S0 o3 o4 o5 o6 hf; exact gno hf
    | succ j30 ih30 =>
      intro v1 v2 S0 o3 o4 o5 o6 hf
      rw [lX11_check_30] at hf
      refine g_iload_n h dX11_check_30 rfl ?_
      refine g_aload_n h dX11_check_31 rfl ?_
      refine g_get h flX11_143 dX11_check_32 0 rfl rfl ?_
      refine g_ic_ge h dX11_check_35 rfl (fun c35 => ?_) (fun c35 => ?_)
      · replace hf := ifp_t c35 hf
        refine g_iload_n h dX11_check_116 rfl ?_
        refine g_iconst (v := 2) h dX11_check_117 (by decide) ?_
        refine g_aload_n h dX11_check_118 rfl ?_
        refine g_get h flX11_143 dX11_check_119 0 rfl rfl ?_
        refine g_imul h dX11_check_122 ?_
        refine g_ic_le h dX11_check_123 rfl (fun c123 => ?_) (fun c123 => ?_)
        · replace hf := ifp_t c123 hf
          refine g_lconst (v := 0) h dX11_check_132 (by decide) ?_
          have er := Option.some.inj hf
          subst er
          exact g_lreturn h dX11_check_133 rfl ⟨Nat.zero_le _, Nat.zero_le _, rfl, rfl, rfl⟩
        · replace hf := ifp_f c123 hf
          refine g_ldc2 (v := 100) h dX11_check_126 gcX11_244 ?_
          refine g_goto h dX11_check_129 rfl ?_
          have er := Option.some.inj hf
          subst er
          exact g_lreturn h dX11_check_133 rfl ⟨Nat.zero_le _, Nat.zero_le _, rfl, rfl, rfl⟩
      · replace hf := ifp_f c35 hf
        refine g_aload_n h dX11_check_38 rfl ?_
        refine g_get h flX11_38 dX11_check_39 0 rfl rfl ?_
        refine g_iload_n h dX11_check_42 rfl ?_
        obtain ⟨k43, q43, hf⟩ := gbind hf
        have e43 := (gIx_s q43).1
        have b43 := (gIx_s q43).2
        refine g_lald h dX11_check_43 10 k43 rfl e43 b43 (by decide) ?_
        refine g_aload_n h dX11_check_44 rfl ?_
        refine g_get h flX11_146 dX11_check_45 0 rfl rfl ?_
        refine g_iconst (v := 0) h dX11_check_48 (by decide) ?_
        obtain ⟨r49, q49, hf⟩ := gbind hf
        refine g_cSr h (qX11_part q49) mX11_part lkX11_186 dX11_check_49 rfl rfl ⟨Nat.zero_le _, Nat.zero_le _⟩ ⟨by decide, by decide⟩ (Nat.le_of_ble_eq_true rfl) [] rfl rfl ?_
        refine g_lstore_n (lv' := [some _, some _, some _, some _, none, _, _]) h dX11_check_52 (by decide) rfl ?_
        refine g_aload_n h dX11_check_53 rfl ?_
        refine g_get h flX11_38 dX11_check_54 0 rfl rfl ?_
        refine g_iload_n h dX11_check_57 rfl ?_
        refine g_lald h dX11_check_58 10 k43 rfl e43 b43 (by decide) ?_
        refine g_aload_n h dX11_check_59 rfl ?_
        refine g_get h flX11_146 dX11_check_60 0 rfl rfl ?_
        refine g_iconst (v := 1) h dX11_check_63 (by decide) ?_
        obtain ⟨r64, q64, hf⟩ := gbind hf
        refine g_cSr h (qX11_part q64) mX11_part lkX11_186 dX11_check_64 rfl rfl ⟨Nat.zero_le _, Nat.zero_le _⟩ ⟨by decide, by decide⟩ (Nat.le_of_ble_eq_true rfl) [] rfl rfl ?_
        refine g_lstore (lv' := [some _, some _, some _, some _, none, some _, none]) h dX11_check_67 (by decide) rfl ?_
        refine g_iconst (v := 2) h dX11_check_69 (by decide) ?_
        refine g_iload_n h dX11_check_70 rfl ?_
        refine g_imul h dX11_check_71 ?_
        refine g_iconst (v := 1) h dX11_check_72 (by decide) ?_
        refine g_iadd h dX11_check_73 ?_
        refine g_iload_n h dX11_check_74 rfl ?_
        refine g_ic_ge h dX11_check_75 rfl (fun c75 => ?_) (fun c75 => ?_)
        · replace hf := ifp_t c75 hf
          refine g_iconst (v := 1) h dX11_check_105 (by decide) ?_
          refine g_iload_n h dX11_check_106 rfl ?_
          refine g_iadd h dX11_check_107 ?_
          refine g_i2l h dX11_check_108 ?_
          have er := Option.some.inj hf
          subst er
          exact g_lreturn h dX11_check_109 rfl ⟨Nat.zero_le _, Nat.zero_le _, rfl, rfl, rfl⟩
        · replace hf := ifp_f c75 hf
          refine g_aload_n h dX11_check_78 rfl ?_
          refine g_get h flX11_28 dX11_check_79 0 rfl rfl ?_
          refine g_iconst (v := 2) h dX11_check_82 (by decide) ?_
          refine g_iload_n h dX11_check_83 rfl ?_
          refine g_imul h dX11_check_84 ?_
          obtain ⟨k85, q85, hf⟩ := gbind hf
          have e85 := (gIx_s q85).1
          have b85 := (gIx_s q85).2
          refine g_iald h dX11_check_85 7 k85 rfl e85 b85 (by decide) ?_
          refine g_aload_n h dX11_check_86 rfl ?_
          refine g_get h flX11_28 dX11_check_87 0 rfl rfl ?_
          refine g_iconst (v := 2) h dX11_check_90 (by decide) ?_
          refine g_iload_n h dX11_check_91 rfl ?_
          refine g_imul h dX11_check_92 ?_
          refine g_iconst (v := 1) h dX11_check_93 (by decide) ?_
          refine g_iadd h dX11_check_94 ?_
          obtain ⟨k95, q95, hf⟩ := gbind hf
          have e95 := (gIx_s q95).1
          have b95 := (gIx_s q95).2
          refine g_iald h dX11_check_95 7 k95 rfl e95 b95 (by decide) ?_
          refine g_lload_n h dX11_check_96 rfl ?_
          refine g_lload h dX11_check_97 rfl ?_
          obtain ⟨r99, q99, hf⟩ := gbind hf
          refine g_cSr h (qX11_isFraction q99) mX11_isFraction lkX11_240 dX11_check_99 rfl rfl ⟨Nat.zero_le _, Nat.zero_le _⟩ ⟨by decide, by decide⟩ (Nat.le_of_ble_eq_true rfl) [] rfl rfl ?_
          refine g_ifb_ne h dX11_check_102 rfl (fun c102 => ?_) (fun c102 => ?_)
          · replace hf := ifb_t c102 hf
            refine g_iinc (v := (v2 + 1)) (lv' := [some _, some _, some _, some _, none, some _, none]) h dX11_check_110 rfl rfl (by decide) rfl ?_
            refine g_goto h dX11_check_113 rfl ?_
            exact ih30 _ _ _ _ _ _ _ hf
          · replace hf := ifb_f c102 hf
            refine g_iconst (v := 1) h dX11_check_105 (by decide) ?_
            refine g_iload_n h dX11_check_106 rfl ?_
            refine g_iadd h dX11_check_107 ?_
            refine g_i2l h dX11_check_108 ?_
            have er := Option.some.inj hf
            subst er
            exact g_lreturn h dX11_check_109 rfl ⟨Nat.zero_le _, Nat.zero_le _, rfl, rfl, rfl⟩
  refine g_aload_n h dX11_check_0 rfl ?_
  refine g_get h flX11_233 dX11_check_1 0 rfl rfl ?_
  refine g_istore_n (lv' := [some _, some _, _, _, _, _, _]) h dX11_check_4 (by decide) rfl ?_
  refine g_aload_n h dX11_check_5 rfl ?_
  refine g_iconst (v := 0) h dX11_check_6 (by decide) ?_
  obtain ⟨S0x7, q7, hf⟩ := gbind hf
  refine g_put (ws' := wRf E a0 S0x7) (ty := .int) h flX11_233 gftX11 rfl (by decide +kernel) dX11_check_7 0 rfl rfl rfl (Nat.le_of_ble_eq_true rfl) (by cases q7; rfl) ?_
  refine g_aload_n h dX11_check_10 rfl ?_
  obtain ⟨r11, q11, hf⟩ := gbind hf
  refine g_cVr h (qX11_notFound (a0 := a0) q11) mX11_notFound lkX11_180 dX11_check_11 rfl rfl ⟨Nat.zero_le _, Nat.zero_le _⟩ ⟨by decide, by decide⟩ (Nat.le_of_ble_eq_true rfl) [0, 1, 2, 3, 4, 5, 6, 7, 8, 9, 10, 11, 12, 13, 14, 15] rfl rfl 0 rfl rfl ?_
  refine g_lconst (v := 0) h dX11_check_14 (by decide) ?_
  refine g_lcmp h dX11_check_15 ?_
  refine g_lif_eq h dX11_check_16 rfl (fun c16 => ?_) (fun c16 => ?_)
  · replace hf := ifp_t c16 hf
    refine g_iconst (v := 0) h dX11_check_28 (by decide) ?_
    refine g_istore_n (lv' := [some _, some _, some _, _, _, _, _]) h dX11_check_29 (by decide) rfl ?_
    exact loop30 _ _ _ _ _ _ _ _ hf
  · replace hf := ifp_f c16 hf
    refine g_aload_n h dX11_check_19 rfl ?_
    refine g_aload_n h dX11_check_20 rfl ?_
    obtain ⟨r21, q21, hf⟩ := gbind hf
    refine g_cVr h (qX11_notFound (a0 := a0) q21) mX11_notFound lkX11_180 dX11_check_21 rfl rfl ⟨Nat.zero_le _, Nat.zero_le _⟩ ⟨by decide, by decide⟩ (Nat.le_of_ble_eq_true rfl) [0, 1, 2, 3, 4, 5, 6, 7, 8, 9, 10, 11, 12, 13, 14, 15] rfl rfl 0 rfl rfl ?_
    obtain ⟨r24, q24, hf⟩ := gbind hf
    refine g_cVw (ws' := wRf E a0 r24.2) h (qX11_tellFinding (a0 := a0) q24) mX11_tellFinding lkX11_64 dX11_check_24 rfl rfl ⟨Nat.zero_le _, Nat.zero_le _⟩ ⟨by decide, by decide⟩ (Nat.le_of_ble_eq_true rfl) [0, 1, 2, 3, 4, 5, 6, 7, 8, 9, 10, 11, 12, 13, 14, 15] rfl rfl 0 rfl rfl mgX11_20 ?_
    have er := Option.some.inj hf
    subst er
    exact g_lreturn h dX11_check_27 rfl ⟨Nat.zero_le _, Nat.zero_le _, rfl, rfl, rfl⟩
def lX11_keep_2  (fu : Nat)  : Nat → (Int32) → (gS) → Option (Int64 × gS)
  | 0, _, _ => none
  | j + 1, v1, S0 => (if (160 : Int32) ≤ v1 then ((some (sI S0 2 (1 : Int32))).bind fun S0x29 => (some ((1 : Int64), S0x29))) else ((gIx v1 160).bind fun k19 => ((some (sAu S0 1 k19 ((iA S0 0) k19))).bind fun S0x20 => ((lX11_keep_2  fu  j) (v1 + 1) S0x20))))
def fX11_keep (fu : Nat) (S0 : gS)  : Option (Int64 × gS) := (lX11_keep_2  fu  fu (0 : Int32) S0)
set_option maxHeartbeats 4000000 in
set_option maxRecDepth 100000 in
theorem qX11_keep {l : Launch} {E : gE} {a0 : Nat → Nat} {fu : Nat} {S0 : gS}  {r : Int64 × gS} (hf : fX11_keep fu S0  = some r) : CtrF l yX11_keep cX11_keep 2 (some .long) (gR 0 0) E [.ref (a0 0)] (wRf E a0 S0) (some (.long r.1)) (wRf E a0 r.2) := by
  refine ctr_of false (plainFor_of_name (by decide)) (Nat.le_of_ble_eq_true rfl) (fun q => by cases q) (fun Γ h => ?_)
  refine g_lv [some _, _] rfl ?_
  rw [fX11_keep] at hf
  have loop2 : ∀ (j2 : Nat) (v1 : Int32) (S0 : gS) , lX11_keep_2  fu  j2 v1 S0 = some r → Γ 0 0 2 [some (.ref (a0 0)), some (.int v1)] [] (wRf E a0 S0) := by
    intro j2
    induction j2 with
    | zero => intro v1 S0 hf; exact gno hf
    | succ j2 ih2 =>
      intro v1 S0 hf
      rw [lX11_keep_2] at hf
      refine g_iload_n h dX11_keep_2 rfl ?_
      refine g_sipush (v := 160) h dX11_keep_3 (by decide) ?_
      refine g_ic_ge h dX11_keep_6 rfl (fun c6 => ?_) (fun c6 => ?_)
      · replace hf := ifp_t c6 hf
        refine g_aload_n h dX11_keep_27 rfl ?_
        refine g_iconst (v := 1) h dX11_keep_28 (by decide) ?_
        obtain ⟨S0x29, q29, hf⟩ := gbind hf
        refine g_put (ws' := wRf E a0 S0x29) (ty := .boolean) h flX11_246 gftX11 rfl (by decide +kernel) dX11_keep_29 0 rfl rfl rfl (Nat.le_of_ble_eq_true rfl) (by cases q29; rfl) ?_
        refine g_lconst (v := 1) h dX11_keep_32 (by decide) ?_
        have er := Option.some.inj hf
        subst er
        exact g_lreturn h dX11_keep_33 rfl ⟨Nat.zero_le _, Nat.zero_le _, rfl, rfl, rfl⟩
      · replace hf := ifp_f c6 hf
        refine g_aload_n h dX11_keep_9 rfl ?_
        refine g_get h flX11_13 dX11_keep_10 0 rfl rfl ?_
        refine g_iload_n h dX11_keep_13 rfl ?_
        refine g_aload_n h dX11_keep_14 rfl ?_
        refine g_get h flX11_9 dX11_keep_15 0 rfl rfl ?_
        refine g_iload_n h dX11_keep_18 rfl ?_
        obtain ⟨k19, q19, hf⟩ := gbind hf
        have e19 := (gIx_s q19).1
        have b19 := (gIx_s q19).2
        refine g_iald h dX11_keep_19 1 k19 rfl e19 b19 (by decide) ?_
        obtain ⟨S0x20, w20, hf⟩ := gbind hf
        refine g_iast (ws' := wRf E a0 S0x20) h dX11_keep_20 2 k19 rfl e19 b19 (by decide) (by cases w20; rfl) ?_
        refine g_iinc (v := (v1 + 1)) (lv' := [some _, some _]) h dX11_keep_21 rfl rfl (by decide) rfl ?_
        refine g_goto h dX11_keep_24 rfl ?_
        exact ih2 _ _ hf
  refine g_iconst (v := 0) h dX11_keep_0 (by decide) ?_
  refine g_istore_n (lv' := [some _, some _]) h dX11_keep_1 (by decide) rfl ?_
  exact loop2 _ _ _  hf
def lX11_back_17  (fu : Nat)  : Nat → (Int32) → (gS) → Option (Int64 × gS)
  | 0, _, _ => none
  | j + 1, v1, S0 => (if (160 : Int32) ≤ v1 then ((some (sI S0 12 (0 : Int32))).bind fun S0x44 => (some ((1 : Int64), S0x44))) else ((gIx v1 160).bind fun k34 => ((some (sAu S0 0 k34 ((iA S0 1) k34))).bind fun S0x35 => ((lX11_back_17  fu  j) (v1 + 1) S0x35))))
def fX11_back (fu : Nat) (S0 : gS)  : Option (Int64 × gS) := (if (iF S0 2) = 0 then ((fX11_tellFinding fu S0 (-9000000000000000002 : Int64)).bind fun r11 => (some (r11.1, r11.2))) else (lX11_back_17  fu  fu (0 : Int32) S0))
set_option maxHeartbeats 4000000 in
set_option maxRecDepth 100000 in
theorem qX11_back {l : Launch} {E : gE} {a0 : Nat → Nat} {fu : Nat} {S0 : gS}  {r : Int64 × gS} (hf : fX11_back fu S0  = some r) : CtrF l yX11_back cX11_back 2 (some .long) (gR 1 22) E [.ref (a0 0)] (wRf E a0 S0) (some (.long r.1)) (wRf E a0 r.2) := by
  refine ctr_of false (plainFor_of_name (by decide)) (Nat.le_of_ble_eq_true rfl) (fun q => by cases q) (fun Γ h => ?_)
  refine g_lv [some _, _] rfl ?_
  rw [fX11_back] at hf
  have loop17 : ∀ (j17 : Nat) (v1 : Int32) (S0 : gS) , lX11_back_17  fu  j17 v1 S0 = some r → Γ 0 0 17 [some (.ref (a0 0)), some (.int v1)] [] (wRf E a0 S0) := by
    intro j17
    induction j17 with
    | zero => intro v1 S0 hf; exact gno hf
    | succ j17 ih17 =>
      intro v1 S0 hf
      rw [lX11_back_17] at hf
      refine g_iload_n h dX11_back_17 rfl ?_
      refine g_sipush (v := 160) h dX11_back_18 (by decide) ?_
      refine g_ic_ge h dX11_back_21 rfl (fun c21 => ?_) (fun c21 => ?_)
      · replace hf := ifp_t c21 hf
        refine g_aload_n h dX11_back_42 rfl ?_
        refine g_iconst (v := 0) h dX11_back_43 (by decide) ?_
        obtain ⟨S0x44, q44, hf⟩ := gbind hf
        refine g_put (ws' := wRf E a0 S0x44) (ty := .boolean) h flX11_137 gftX11 rfl (by decide +kernel) dX11_back_44 0 rfl rfl rfl (Nat.le_of_ble_eq_true rfl) (by cases q44; rfl) ?_
        refine g_lconst (v := 1) h dX11_back_47 (by decide) ?_
        have er := Option.some.inj hf
        subst er
        exact g_lreturn h dX11_back_48 rfl ⟨Nat.zero_le _, Nat.zero_le _, rfl, rfl, rfl⟩
      · replace hf := ifp_f c21 hf
        refine g_aload_n h dX11_back_24 rfl ?_
        refine g_get h flX11_9 dX11_back_25 0 rfl rfl ?_
        refine g_iload_n h dX11_back_28 rfl ?_
        refine g_aload_n h dX11_back_29 rfl ?_
        refine g_get h flX11_13 dX11_back_30 0 rfl rfl ?_
        refine g_iload_n h dX11_back_33 rfl ?_
        obtain ⟨k34, q34, hf⟩ := gbind hf
        have e34 := (gIx_s q34).1
        have b34 := (gIx_s q34).2
        refine g_iald h dX11_back_34 2 k34 rfl e34 b34 (by decide) ?_
        obtain ⟨S0x35, w35, hf⟩ := gbind hf
        refine g_iast (ws' := wRf E a0 S0x35) h dX11_back_35 1 k34 rfl e34 b34 (by decide) (by cases w35; rfl) ?_
        refine g_iinc (v := (v1 + 1)) (lv' := [some _, some _]) h dX11_back_36 rfl rfl (by decide) rfl ?_
        refine g_goto h dX11_back_39 rfl ?_
        exact ih17 _ _ hf
  refine g_aload_n h dX11_back_0 rfl ?_
  refine g_get h flX11_246 dX11_back_1 0 rfl rfl ?_
  refine g_if_ne h dX11_back_4 rfl (fun c4 => ?_) (fun c4 => ?_)
  · replace hf := ifp_f c4 hf
    refine g_iconst (v := 0) h dX11_back_15 (by decide) ?_
    refine g_istore_n (lv' := [some _, some _]) h dX11_back_16 (by decide) rfl ?_
    exact loop17 _ _ _  hf
  · replace hf := ifp_t c4 hf
    refine g_aload_n h dX11_back_7 rfl ?_
    refine g_ldc2 (v := (-9000000000000000002)) h dX11_back_8 gcX11_96 ?_
    obtain ⟨r11, q11, hf⟩ := gbind hf
    refine g_cVw (ws' := wRf E a0 r11.2) h (qX11_tellFinding (a0 := a0) q11) mX11_tellFinding lkX11_64 dX11_back_11 rfl rfl ⟨Nat.zero_le _, Nat.zero_le _⟩ ⟨by decide, by decide⟩ (Nat.le_of_ble_eq_true rfl) [0, 1, 2, 3, 4, 5, 6, 7, 8, 9, 10, 11, 12, 13, 14, 15] rfl rfl 0 rfl rfl mgX11_20 ?_
    have er := Option.some.inj hf
    subst er
    exact g_lreturn h dX11_back_14 rfl ⟨Nat.zero_le _, Nat.zero_le _, rfl, rfl, rfl⟩
def fX11_count (fu : Nat) (S0 : gS) (v1 : Int32) : Option (Int64 × gS) := (if v1 = 0 then (some ((((iA S0 0) 0).toInt64), S0)) else (if v1 = 1 then (some ((((iA S0 0) 1).toInt64), S0)) else (if v1 = 2 then (some ((((iA S0 0) 2).toInt64), S0)) else (if v1 = 3 then ((fX11_spans fu S0).bind fun r65 => (some ((r65.toInt64), S0))) else (if v1 = 4 then (some (((iF S0 5).toInt64), S0)) else (if v1 = 5 then (some (((iF S0 8).toInt64), S0)) else ((fX11_tellFinding fu S0 (-9000000000000000001 : Int64)).bind fun r86 => (some (r86.1, r86.2)))))))))
set_option maxHeartbeats 4000000 in
set_option maxRecDepth 100000 in
theorem qX11_count {l : Launch} {E : gE} {a0 : Nat → Nat} {fu : Nat} {S0 : gS} {v1 : Int32} {r : Int64 × gS} (hf : fX11_count fu S0 v1 = some r) : CtrF l yX11_count cX11_count 2 (some .long) (gR 2 43) E [.ref (a0 0), .int v1] (wRf E a0 S0) (some (.long r.1)) (wRf E a0 r.2) := by
  refine ctr_of false (plainFor_of_name (by decide)) (Nat.le_of_ble_eq_true rfl) (fun q => by cases q) (fun Γ h => ?_)
  refine g_lv [some _, some _] rfl ?_
  rw [fX11_count] at hf
  refine g_iload_n h dX11_count_0 rfl ?_
  refine g_ts6_0 h dX11_count_1 rfl rfl rfl rfl rfl rfl rfl (fun c1 => ?_) (fun c1 => ?_) (fun c1 => ?_) (fun c1 => ?_) (fun c1 => ?_) (fun c1 => ?_) (fun c1 => ?_)
  · replace hf := ifp_t (ts_eq (k := 0) c1 (by decide)) hf
    refine g_aload_n h dX11_count_40 rfl ?_
    refine g_get h flX11_9 dX11_count_41 0 rfl rfl ?_
    refine g_iconst (v := 0) h dX11_count_44 (by decide) ?_
    refine g_iald h dX11_count_45 1 0 rfl rfl (by decide) (by decide) ?_
    refine g_i2l h dX11_count_46 ?_
    have er := Option.some.inj hf
    subst er
    exact g_lreturn h dX11_count_47 rfl ⟨Nat.zero_le _, Nat.zero_le _, rfl, rfl, rfl⟩
  · replace hf := ifp_f (ts_ne (k := 0) c1 (by decide)) hf
    replace hf := ifp_t (ts_eq (k := 1) c1 (by decide)) hf
    refine g_aload_n h dX11_count_48 rfl ?_
    refine g_get h flX11_9 dX11_count_49 0 rfl rfl ?_
    refine g_iconst (v := 1) h dX11_count_52 (by decide) ?_
    refine g_iald h dX11_count_53 1 1 rfl rfl (by decide) (by decide) ?_
    refine g_i2l h dX11_count_54 ?_
    have er := Option.some.inj hf
    subst er
    exact g_lreturn h dX11_count_55 rfl ⟨Nat.zero_le _, Nat.zero_le _, rfl, rfl, rfl⟩
  · replace hf := ifp_f (ts_ne (k := 0) c1 (by decide)) hf
    replace hf := ifp_f (ts_ne (k := 1) c1 (by decide)) hf
    replace hf := ifp_t (ts_eq (k := 2) c1 (by decide)) hf
    refine g_aload_n h dX11_count_56 rfl ?_
    refine g_get h flX11_9 dX11_count_57 0 rfl rfl ?_
    refine g_iconst (v := 2) h dX11_count_60 (by decide) ?_
    refine g_iald h dX11_count_61 1 2 rfl rfl (by decide) (by decide) ?_
    refine g_i2l h dX11_count_62 ?_
    have er := Option.some.inj hf
    subst er
    exact g_lreturn h dX11_count_63 rfl ⟨Nat.zero_le _, Nat.zero_le _, rfl, rfl, rfl⟩
  · replace hf := ifp_f (ts_ne (k := 0) c1 (by decide)) hf
    replace hf := ifp_f (ts_ne (k := 1) c1 (by decide)) hf
    replace hf := ifp_f (ts_ne (k := 2) c1 (by decide)) hf
    replace hf := ifp_t (ts_eq (k := 3) c1 (by decide)) hf
    refine g_aload_n h dX11_count_64 rfl ?_
    obtain ⟨r65, q65, hf⟩ := gbind hf
    refine g_cVr h (qX11_spans (a0 := a0) q65) mX11_spans lkX11_206 dX11_count_65 rfl rfl ⟨Nat.zero_le _, Nat.zero_le _⟩ ⟨by decide, by decide⟩ (Nat.le_of_ble_eq_true rfl) [0, 1, 2, 3, 4, 5, 6, 7, 8, 9, 10, 11, 12, 13, 14, 15] rfl rfl 0 rfl rfl ?_
    refine g_i2l h dX11_count_68 ?_
    have er := Option.some.inj hf
    subst er
    exact g_lreturn h dX11_count_69 rfl ⟨Nat.zero_le _, Nat.zero_le _, rfl, rfl, rfl⟩
  · replace hf := ifp_f (ts_ne (k := 0) c1 (by decide)) hf
    replace hf := ifp_f (ts_ne (k := 1) c1 (by decide)) hf
    replace hf := ifp_f (ts_ne (k := 2) c1 (by decide)) hf
    replace hf := ifp_f (ts_ne (k := 3) c1 (by decide)) hf
    replace hf := ifp_t (ts_eq (k := 4) c1 (by decide)) hf
    refine g_aload_n h dX11_count_70 rfl ?_
    refine g_get h flX11_226 dX11_count_71 0 rfl rfl ?_
    refine g_i2l h dX11_count_74 ?_
    have er := Option.some.inj hf
    subst er
    exact g_lreturn h dX11_count_75 rfl ⟨Nat.zero_le _, Nat.zero_le _, rfl, rfl, rfl⟩
  · replace hf := ifp_f (ts_ne (k := 0) c1 (by decide)) hf
    replace hf := ifp_f (ts_ne (k := 1) c1 (by decide)) hf
    replace hf := ifp_f (ts_ne (k := 2) c1 (by decide)) hf
    replace hf := ifp_f (ts_ne (k := 3) c1 (by decide)) hf
    replace hf := ifp_f (ts_ne (k := 4) c1 (by decide)) hf
    replace hf := ifp_t (ts_eq (k := 5) c1 (by decide)) hf
    refine g_aload_n h dX11_count_76 rfl ?_
    refine g_get h flX11_233 dX11_count_77 0 rfl rfl ?_
    refine g_i2l h dX11_count_80 ?_
    have er := Option.some.inj hf
    subst er
    exact g_lreturn h dX11_count_81 rfl ⟨Nat.zero_le _, Nat.zero_le _, rfl, rfl, rfl⟩
  · replace hf := ifp_f (ts_out (k := 0) c1 (by decide)) hf
    replace hf := ifp_f (ts_out (k := 1) c1 (by decide)) hf
    replace hf := ifp_f (ts_out (k := 2) c1 (by decide)) hf
    replace hf := ifp_f (ts_out (k := 3) c1 (by decide)) hf
    replace hf := ifp_f (ts_out (k := 4) c1 (by decide)) hf
    replace hf := ifp_f (ts_out (k := 5) c1 (by decide)) hf
    refine g_aload_n h dX11_count_82 rfl ?_
    refine g_ldc2 (v := (-9000000000000000001)) h dX11_count_83 gcX11_62 ?_
    obtain ⟨r86, q86, hf⟩ := gbind hf
    refine g_cVw (ws' := wRf E a0 r86.2) h (qX11_tellFinding (a0 := a0) q86) mX11_tellFinding lkX11_64 dX11_count_86 rfl rfl ⟨Nat.zero_le _, Nat.zero_le _⟩ ⟨by decide, by decide⟩ (Nat.le_of_ble_eq_true rfl) [0, 1, 2, 3, 4, 5, 6, 7, 8, 9, 10, 11, 12, 13, 14, 15] rfl rfl 0 rfl rfl mgX11_20 ?_
    have er := Option.some.inj hf
    subst er
    exact g_lreturn h dX11_count_89 rfl ⟨Nat.zero_le _, Nat.zero_le _, rfl, rfl, rfl⟩
def fX11_found (fu : Nat) (S0 : gS) (v1 : Int32) : Option (Int64 × gS) := ((fX11_in fu v1 (1 : Int32) (7 : Int32)).bind fun r4 => (if r4 = true then ((gIx v1 8).bind fun k15 => (some (((lA S0 10) k15), S0))) else ((fX11_tellFinding fu S0 (-9000000000000000001 : Int64)).bind fun r23 => (some (r23.1, r23.2)))))
set_option maxHeartbeats 4000000 in
set_option maxRecDepth 100000 in
theorem qX11_found {l : Launch} {E : gE} {a0 : Nat → Nat} {fu : Nat} {S0 : gS} {v1 : Int32} {r : Int64 × gS} (hf : fX11_found fu S0 v1 = some r) : CtrF l yX11_found cX11_found 2 (some .long) (gR 1 22) E [.ref (a0 0), .int v1] (wRf E a0 S0) (some (.long r.1)) (wRf E a0 r.2) := by
  refine ctr_of false (plainFor_of_name (by decide)) (Nat.le_of_ble_eq_true rfl) (fun q => by cases q) (fun Γ h => ?_)
  refine g_lv [some _, some _] rfl ?_
  rw [fX11_found] at hf
  refine g_iload_n h dX11_found_0 rfl ?_
  refine g_iconst (v := 1) h dX11_found_1 (by decide) ?_
  refine g_bipush (v := 7) h dX11_found_2 (by decide) ?_
  obtain ⟨r4, q4, hf⟩ := gbind hf
  refine g_cSr h (qX11_in q4) mX11_in lkX11_58 dX11_found_4 rfl rfl ⟨Nat.zero_le _, Nat.zero_le _⟩ ⟨by decide, by decide⟩ (Nat.le_of_ble_eq_true rfl) [] rfl rfl ?_
  refine g_ifb_eq h dX11_found_7 rfl (fun c7 => ?_) (fun c7 => ?_)
  · replace hf := ifb_f c7 hf
    refine g_aload_n h dX11_found_19 rfl ?_
    refine g_ldc2 (v := (-9000000000000000001)) h dX11_found_20 gcX11_62 ?_
    obtain ⟨r23, q23, hf⟩ := gbind hf
    refine g_cVw (ws' := wRf E a0 r23.2) h (qX11_tellFinding (a0 := a0) q23) mX11_tellFinding lkX11_64 dX11_found_23 rfl rfl ⟨Nat.zero_le _, Nat.zero_le _⟩ ⟨by decide, by decide⟩ (Nat.le_of_ble_eq_true rfl) [0, 1, 2, 3, 4, 5, 6, 7, 8, 9, 10, 11, 12, 13, 14, 15] rfl rfl 0 rfl rfl mgX11_20 ?_
    have er := Option.some.inj hf
    subst er
    exact g_lreturn h dX11_found_26 rfl ⟨Nat.zero_le _, Nat.zero_le _, rfl, rfl, rfl⟩
  · replace hf := ifb_t c7 hf
    refine g_aload_n h dX11_found_10 rfl ?_
    refine g_get h flX11_31 dX11_found_11 0 rfl rfl ?_
    refine g_iload_n h dX11_found_14 rfl ?_
    obtain ⟨k15, q15, hf⟩ := gbind hf
    have e15 := (gIx_s q15).1
    have b15 := (gIx_s q15).2
    refine g_lald h dX11_found_15 8 k15 rfl e15 b15 (by decide) ?_
    refine g_goto h dX11_found_16 rfl ?_
    have er := Option.some.inj hf
    subst er
    exact g_lreturn h dX11_found_26 rfl ⟨Nat.zero_le _, Nat.zero_le _, rfl, rfl, rfl⟩
