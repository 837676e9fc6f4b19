def st_X4_0 (s : sPd) (x : Nat → Int64) : sPd := (x, s.2.1, s.2.2.1, s.2.2.2.1, s.2.2.2.2)
def st_X4_1 (s : sPd) (x : Nat → Int64) : sPd := (s.1, x, s.2.2.1, s.2.2.2.1, s.2.2.2.2)
def st_X6_0 (s : sSz) (x : Bool) : sSz := (x, s.2.1, s.2.2.1, s.2.2.2.1, s.2.2.2.2.1, s.2.2.2.2.2)
def st_X6_1 (s : sSz) (x : Bool) : sSz := (s.1, x, s.2.2.1, s.2.2.2.1, s.2.2.2.2.1, s.2.2.2.2.2)
def st_X6_2 (s : sSz) (x : Nat) : sSz := (s.1, s.2.1, x, s.2.2.2.1, s.2.2.2.2.1, s.2.2.2.2.2)
def st_X6_4 (s : sSz) (x : Int64) : sSz := (s.1, s.2.1, s.2.2.1, s.2.2.2.1, x, s.2.2.2.2.2)
def st_X6_5 (s : sSz) (x : Int64) : sSz := (s.1, s.2.1, s.2.2.1, s.2.2.2.1, s.2.2.2.2.1, x)
def st_X6_3 (s : sSz) (x : Nat → Int64) : sSz := (s.1, s.2.1, s.2.2.1, x, s.2.2.2.2.1, s.2.2.2.2.2)
def st_X1_4 (s : sMs) (x : Int64) : sMs := (s.1, s.2.1, s.2.2.1, s.2.2.2.1, x, s.2.2.2.2.2)
def st_X1_5 (s : sMs) (x : Int64) : sMs := (s.1, s.2.1, s.2.2.1, s.2.2.2.1, s.2.2.2.2.1, x)
def st_X1_2 (s : sMs) (x : Int32) : sMs := (s.1, s.2.1, x, s.2.2.2.1, s.2.2.2.2.1, s.2.2.2.2.2)
def st_X1_3 (s : sMs) (x : Int32) : sMs := (s.1, s.2.1, s.2.2.1, x, s.2.2.2.2.1, s.2.2.2.2.2)
def st_X1_0 (s : sMs) (x : Nat → Int64) : sMs := (x, s.2.1, s.2.2.1, s.2.2.2.1, s.2.2.2.2.1, s.2.2.2.2.2)
def st_X1_1 (s : sMs) (x : Nat → Int64) : sMs := (s.1, x, s.2.2.1, s.2.2.2.1, s.2.2.2.2.1, s.2.2.2.2.2)
def st_X10_11 (s : sWB) (x : Nat → Int32) : sWB := (s.1, s.2.1, s.2.2.1, s.2.2.2.1, s.2.2.2.2.1, s.2.2.2.2.2.1, s.2.2.2.2.2.2.1, s.2.2.2.2.2.2.2.1, s.2.2.2.2.2.2.2.2.1, s.2.2.2.2.2.2.2.2.2.1, s.2.2.2.2.2.2.2.2.2.2.1, x)
def st_X10_5 (s : sWB) (x : sSz) : sWB := (s.1, s.2.1, s.2.2.1, s.2.2.2.1, s.2.2.2.2.1, x, s.2.2.2.2.2.2.1, s.2.2.2.2.2.2.2.1, s.2.2.2.2.2.2.2.2.1, s.2.2.2.2.2.2.2.2.2.1, s.2.2.2.2.2.2.2.2.2.2.1, s.2.2.2.2.2.2.2.2.2.2.2)
def st_X8_0 (s : sSt) (x : sCa) : sSt := (x, s.2.1, s.2.2.1, s.2.2.2)
def st_X10_0_0 (s : sWB) (x : sCa) : sWB := ((st_X8_0 (s.1) x), s.2.1, s.2.2.1, s.2.2.2.1, s.2.2.2.2.1, s.2.2.2.2.2.1, s.2.2.2.2.2.2.1, s.2.2.2.2.2.2.2.1, s.2.2.2.2.2.2.2.2.1, s.2.2.2.2.2.2.2.2.2.1, s.2.2.2.2.2.2.2.2.2.2.1, s.2.2.2.2.2.2.2.2.2.2.2)
def st_X8_1 (s : sSt) (x : sPr) : sSt := (s.1, x, s.2.2.1, s.2.2.2)
def st_X10_0_1 (s : sWB) (x : sPr) : sWB := ((st_X8_1 (s.1) x), s.2.1, s.2.2.1, s.2.2.2.1, s.2.2.2.2.1, s.2.2.2.2.2.1, s.2.2.2.2.2.2.1, s.2.2.2.2.2.2.2.1, s.2.2.2.2.2.2.2.2.1, s.2.2.2.2.2.2.2.2.2.1, s.2.2.2.2.2.2.2.2.2.2.1, s.2.2.2.2.2.2.2.2.2.2.2)
def st_X10_3 (s : sWB) (x : sSh) : sWB := (s.1, s.2.1, s.2.2.1, x, s.2.2.2.2.1, s.2.2.2.2.2.1, s.2.2.2.2.2.2.1, s.2.2.2.2.2.2.2.1, s.2.2.2.2.2.2.2.2.1, s.2.2.2.2.2.2.2.2.2.1, s.2.2.2.2.2.2.2.2.2.2.1, s.2.2.2.2.2.2.2.2.2.2.2)
def st_X10_4 (s : sWB) (x : sPd) : sWB := (s.1, s.2.1, s.2.2.1, s.2.2.2.1, x, s.2.2.2.2.2.1, s.2.2.2.2.2.2.1, s.2.2.2.2.2.2.2.1, s.2.2.2.2.2.2.2.2.1, s.2.2.2.2.2.2.2.2.2.1, s.2.2.2.2.2.2.2.2.2.2.1, s.2.2.2.2.2.2.2.2.2.2.2)
def st_X10_6 (s : sWB) (x : Int32) : sWB := (s.1, s.2.1, s.2.2.1, s.2.2.2.1, s.2.2.2.2.1, s.2.2.2.2.2.1, x, s.2.2.2.2.2.2.2.1, s.2.2.2.2.2.2.2.2.1, s.2.2.2.2.2.2.2.2.2.1, s.2.2.2.2.2.2.2.2.2.2.1, s.2.2.2.2.2.2.2.2.2.2.2)
def st_X8_2 (s : sSt) (x : sPr) : sSt := (s.1, s.2.1, x, s.2.2.2)
def st_X10_0_2 (s : sWB) (x : sPr) : sWB := ((st_X8_2 (s.1) x), s.2.1, s.2.2.1, s.2.2.2.1, s.2.2.2.2.1, s.2.2.2.2.2.1, s.2.2.2.2.2.2.1, s.2.2.2.2.2.2.2.1, s.2.2.2.2.2.2.2.2.1, s.2.2.2.2.2.2.2.2.2.1, s.2.2.2.2.2.2.2.2.2.2.1, s.2.2.2.2.2.2.2.2.2.2.2)
def st_X8_3 (s : sSt) (x : sSp) : sSt := (s.1, s.2.1, s.2.2.1, x)
def st_X10_0_3 (s : sWB) (x : sSp) : sWB := ((st_X8_3 (s.1) x), s.2.1, s.2.2.1, s.2.2.2.1, s.2.2.2.2.1, s.2.2.2.2.2.1, s.2.2.2.2.2.2.1, s.2.2.2.2.2.2.2.1, s.2.2.2.2.2.2.2.2.1, s.2.2.2.2.2.2.2.2.2.1, s.2.2.2.2.2.2.2.2.2.2.1, s.2.2.2.2.2.2.2.2.2.2.2)
def st_X10_7 (s : sWB) (x : sMs) : sWB := (s.1, s.2.1, s.2.2.1, s.2.2.2.1, s.2.2.2.2.1, s.2.2.2.2.2.1, s.2.2.2.2.2.2.1, x, s.2.2.2.2.2.2.2.2.1, s.2.2.2.2.2.2.2.2.2.1, s.2.2.2.2.2.2.2.2.2.2.1, s.2.2.2.2.2.2.2.2.2.2.2)
def st_X9_0 (s : sTr) (x : sPr) : sTr := x
def st_X10_8_0 (s : sWB) (x : sPr) : sWB := (s.1, s.2.1, s.2.2.1, s.2.2.2.1, s.2.2.2.2.1, s.2.2.2.2.2.1, s.2.2.2.2.2.2.1, s.2.2.2.2.2.2.2.1, (st_X9_0 (s.2.2.2.2.2.2.2.2.1) x), s.2.2.2.2.2.2.2.2.2.1, s.2.2.2.2.2.2.2.2.2.2.1, s.2.2.2.2.2.2.2.2.2.2.2)
def st_X10_9 (s : sWB) (x : Nat → Int32) : sWB := (s.1, s.2.1, s.2.2.1, s.2.2.2.1, s.2.2.2.2.1, s.2.2.2.2.2.1, s.2.2.2.2.2.2.1, s.2.2.2.2.2.2.2.1, s.2.2.2.2.2.2.2.2.1, x, s.2.2.2.2.2.2.2.2.2.2.1, s.2.2.2.2.2.2.2.2.2.2.2)
def st_X10_10 (s : sWB) (x : Int32) : sWB := (s.1, s.2.1, s.2.2.1, s.2.2.2.1, s.2.2.2.2.1, s.2.2.2.2.2.1, s.2.2.2.2.2.2.1, s.2.2.2.2.2.2.2.1, s.2.2.2.2.2.2.2.2.1, s.2.2.2.2.2.2.2.2.2.1, x, s.2.2.2.2.2.2.2.2.2.2.2)
def st_X10_1 (s : sWB) (x : sSt) : sWB := (s.1, x, s.2.2.1, s.2.2.2.1, s.2.2.2.2.1, s.2.2.2.2.2.1, s.2.2.2.2.2.2.1, s.2.2.2.2.2.2.2.1, s.2.2.2.2.2.2.2.2.1, s.2.2.2.2.2.2.2.2.2.1, s.2.2.2.2.2.2.2.2.2.2.1, s.2.2.2.2.2.2.2.2.2.2.2)
def st_X10_2 (s : sWB) (x : Bool) : sWB := (s.1, s.2.1, x, s.2.2.2.1, s.2.2.2.2.1, s.2.2.2.2.2.1, s.2.2.2.2.2.2.1, s.2.2.2.2.2.2.2.1, s.2.2.2.2.2.2.2.2.1, s.2.2.2.2.2.2.2.2.2.1, s.2.2.2.2.2.2.2.2.2.2.1, s.2.2.2.2.2.2.2.2.2.2.2)
def st_X10_0 (s : sWB) (x : sSt) : sWB := (x, s.2.1, s.2.2.1, s.2.2.2.1, s.2.2.2.2.1, s.2.2.2.2.2.1, s.2.2.2.2.2.2.1, s.2.2.2.2.2.2.2.1, s.2.2.2.2.2.2.2.2.1, s.2.2.2.2.2.2.2.2.2.1, s.2.2.2.2.2.2.2.2.2.2.1, s.2.2.2.2.2.2.2.2.2.2.2)
def lX0_isOf_20  (fu : Nat) (S0 : sCa) (v1 : Int32) (v2 : Int32) : Nat → (Int32) → (Int32) → Option (Bool)
  | 0, _, _ => none
  | j + 1, v3, v4 => (if (6 : Int32) ≤ v4 then (if v3 = v2 then (some true) else (some false)) else (if v3 = v2 then (if v3 = v2 then (some true) else (some false)) else ((fX0_isKind v3).bind fun r35 => (if r35 = true then ((gIx v3 6).bind fun k45 => ((lX0_isOf_20  fu S0 v1 v2 j) (gOfI k45) (v4 + 1))) else (if v3 = v2 then (some true) else (some false))))))
def fX0_isOf (fu : Nat) (S0 : sCa) (v1 : Int32) (v2 : Int32) : Option (Bool) := ((fX0_has S0 v1).bind fun r2 => (if r2 = true then ((gIx v1 8).bind fun k15 => (lX0_isOf_20  fu S0 v1 v2 fu (S0.1 k15) (0 : Int32))) else (some false)))
set_option maxHeartbeats 4000000 in
set_option maxRecDepth 100000 in
theorem qX0_isOf {l : Launch} {E : gE} {a0 : Nat → Nat} {fu : Nat} {S0 : sCa} {v1 : Int32} {v2 : Int32} {r : Bool} (hf : fX0_isOf fu S0 v1 v2 = some r) : CtrF l yX0_isOf cX0_isOf 5 (some .boolean) (gR 2 42) E [.ref (a0 0), .int v1, .int v2] (wCa E (a0 0) (a0 1) (a0 2) (a0 3) (a0 4) S0.1 S0.2.1 S0.2.2.1 S0.2.2.2) (some (.int (bI r))) (wCa E (a0 0) (a0 1) (a0 2) (a0 3) (a0 4) S0.1 S0.2.1 S0.2.2.1 S0.2.2.2) := by
  refine ctr_of false (plainFor_of_name (by decide)) (Nat.le_of_ble_eq_true rfl) (fun q => by cases q) (fun Γ h => ?_)
  refine g_lv [some _, some _, some _, _, _] rfl ?_
  rw [fX0_isOf] at hf
  have loop20 : ∀ (j20 : Nat) (v3 : Int32) (v4 : Int32) , lX0_isOf_20  fu S0 v1 v2 j20 v3 v4 = some r → Γ 0 0 20 [some (.ref (a0 0)), some (.int v1), some (.int v2), some (.int v3), some (.int v4)] [] (wCa E (a0 0) (a0 1) (a0 2) (a0 3) (a0 4) S0.1 S0.2.1 S0.2.2.1 S0.2.2.2) := by
    intro j20
    induction j20 with
    | zero => intro v3 v4 hf; exact gno hf
    | succ j20 ih20 =>
      intro v3 v4 hf
      rw [lX0_isOf_20] at hf
      refine g_iload h dX0_isOf_20 rfl ?_
      refine g_over h dX0_isOf_22 fsX0_52 (fun t22 ia22 al22 => ?_)
      refine al22 _ _ _ _ _ _ dX0_isOf_25 ?_
      refine g_ic_ge h dX0_isOf_26 rfl (fun c26 => ?_) (fun c26 => ?_)
      · replace hf := ifp_t c26 hf
        refine g_iload_n h dX0_isOf_53 rfl ?_
        refine g_iload_n h dX0_isOf_54 rfl ?_
        refine g_ic_ne h dX0_isOf_55 rfl (fun c55 => ?_) (fun c55 => ?_)
        · replace hf := ifp_f c55 hf
          refine g_iconst (v := 0) h dX0_isOf_62 (by decide) ?_
          have er := Option.some.inj hf
          subst er
          exact g_ireturn h dX0_isOf_63 rfl rfl ⟨Nat.zero_le _, Nat.zero_le _, rfl, rfl, rfl⟩
        · replace hf := ifp_t c55 hf
          refine g_iconst (v := 1) h dX0_isOf_58 (by decide) ?_
          refine g_goto h dX0_isOf_59 rfl ?_
          have er := Option.some.inj hf
          subst er
          exact g_ireturn h dX0_isOf_63 rfl rfl ⟨Nat.zero_le _, Nat.zero_le _, rfl, rfl, rfl⟩
      · replace hf := ifp_f c26 hf
        refine g_iload_n h dX0_isOf_29 rfl ?_
        refine g_iload_n h dX0_isOf_30 rfl ?_
        refine g_ic_eq h dX0_isOf_31 rfl (fun c31 => ?_) (fun c31 => ?_)
        · replace hf := ifp_t c31 hf
          refine g_iload_n h dX0_isOf_53 rfl ?_
          refine g_iload_n h dX0_isOf_54 rfl ?_
          refine g_ic_ne h dX0_isOf_55 rfl (fun c55 => ?_) (fun c55 => ?_)
          · replace hf := ifp_f c55 hf
            refine g_iconst (v := 0) h dX0_isOf_62 (by decide) ?_
            have er := Option.some.inj hf
            subst er
            exact g_ireturn h dX0_isOf_63 rfl rfl ⟨Nat.zero_le _, Nat.zero_le _, rfl, rfl, rfl⟩
          · replace hf := ifp_t c55 hf
            refine g_iconst (v := 1) h dX0_isOf_58 (by decide) ?_
            refine g_goto h dX0_isOf_59 rfl ?_
            have er := Option.some.inj hf
            subst er
            exact g_ireturn h dX0_isOf_63 rfl rfl ⟨Nat.zero_le _, Nat.zero_le _, rfl, rfl, rfl⟩
        · replace hf := ifp_f c31 hf
          refine g_iload_n h dX0_isOf_34 rfl ?_
          obtain ⟨r35, q35, hf⟩ := gbind hf
          refine g_cSr h (qX0_isKind q35) mX0_isKind lkX0_43 dX0_isOf_35 rfl rfl ⟨Nat.zero_le _, Nat.zero_le _⟩ ⟨by decide, by decide⟩ (Nat.le_of_ble_eq_true rfl) [] rfl rfl ?_
          refine g_ifb_eq h dX0_isOf_38 rfl (fun c38 => ?_) (fun c38 => ?_)
          · replace hf := ifb_f c38 hf
            refine g_iload_n h dX0_isOf_53 rfl ?_
            refine g_iload_n h dX0_isOf_54 rfl ?_
            refine g_ic_ne h dX0_isOf_55 rfl (fun c55 => ?_) (fun c55 => ?_)
            · replace hf := ifp_f c55 hf
              refine g_iconst (v := 0) h dX0_isOf_62 (by decide) ?_
              have er := Option.some.inj hf
              subst er
              exact g_ireturn h dX0_isOf_63 rfl rfl ⟨Nat.zero_le _, Nat.zero_le _, rfl, rfl, rfl⟩
            · replace hf := ifp_t c55 hf
              refine g_iconst (v := 1) h dX0_isOf_58 (by decide) ?_
              refine g_goto h dX0_isOf_59 rfl ?_
              have er := Option.some.inj hf
              subst er
              exact g_ireturn h dX0_isOf_63 rfl rfl ⟨Nat.zero_le _, Nat.zero_le _, rfl, rfl, rfl⟩
          · replace hf := ifb_t c38 hf
            refine g_over h dX0_isOf_41 fsX0_52 (fun t41 ia41 al41 => ?_)
            refine g_iload_n h dX0_isOf_44 rfl ?_
            obtain ⟨k45, q45, hf⟩ := gbind hf
            refine ia41 _ _ k45 _ _ _ _ _ dX0_isOf_45 (gIx_s q45).1 (gIx_s q45).2 ?_
            refine g_istore_n (lv' := [some _, some _, some _, some _, some _]) h dX0_isOf_46 (by decide) rfl ?_
            refine g_iinc (v := (v4 + 1)) (lv' := [some _, some _, some _, some _, some _]) h dX0_isOf_47 rfl rfl (by decide) rfl ?_
            refine g_goto h dX0_isOf_50 rfl ?_
            exact ih20 _ _ hf
  refine g_aload_n h dX0_isOf_0 rfl ?_
  refine g_iload_n h dX0_isOf_1 rfl ?_
  obtain ⟨r2, q2, hf⟩ := gbind hf
  refine g_cVr h (qX0_has (a0 := a0) q2) mX0_has lkX0_51 dX0_isOf_2 rfl rfl ⟨Nat.zero_le _, Nat.zero_le _⟩ ⟨by decide, by decide⟩ (Nat.le_of_ble_eq_true rfl) [0, 1, 2, 3, 4] rfl rfl 0 rfl rfl ?_
  refine g_ifb_ne h dX0_isOf_5 rfl (fun c5 => ?_) (fun c5 => ?_)
  · replace hf := ifb_t c5 hf
    refine g_aload_n h dX0_isOf_10 rfl ?_
    refine g_get h flX0_9 dX0_isOf_11 0 rfl rfl ?_
    refine g_iload_n h dX0_isOf_14 rfl ?_
    obtain ⟨k15, q15, hf⟩ := gbind hf
    have e15 := (gIx_s q15).1
    have b15 := (gIx_s q15).2
    refine g_iald h dX0_isOf_15 1 k15 rfl e15 b15 (by decide) ?_
    refine g_istore_n (lv' := [some _, some _, some _, some _, _]) h dX0_isOf_16 (by decide) rfl ?_
    refine g_iconst (v := 0) h dX0_isOf_17 (by decide) ?_
    refine g_istore (lv' := [some _, some _, some _, some _, some _]) h dX0_isOf_18 (by decide) rfl ?_
    exact loop20 _ _ _  hf
  · replace hf := ifb_f c5 hf
    refine g_iconst (v := 0) h dX0_isOf_8 (by decide) ?_
    have er := Option.some.inj hf
    subst er
    exact g_ireturn h dX0_isOf_9 rfl rfl ⟨Nat.zero_le _, Nat.zero_le _, rfl, rfl, rfl⟩
def lX4_weigh_86 (k64 : (Int32) → (sPd) → Option (sPd)) (fu : Nat) (S1 : sSt) (v1 : Int32) (v3 : Int32) : Nat → (Int32) → (Int64) → (Int32) → (sPd) → Option (sPd)
  | 0, _, _, _, _ => none
  | j + 1, v5, v6, v8, S0 => (if v6 = (0 : Int64) then (k64 (v5 + 1) S0) else (if (9 : Int32) ≤ v8 then (k64 (v5 + 1) S0) else ((gIx ((v5 * (9 : Int32)) + v8) 81).bind fun k113 => ((gIx v8 9).bind fun k122 => ((some (st_X4_1 S0 (vp_updL S0.2.1 k113 ((S0.2.1 k113) + (v6 * (S0.1 k122)))))).bind fun S0x125 => ((lX4_weigh_86 k64 fu S1 v1 v3 j) v5 v6 (v8 + 1) S0x125))))))
def lX4_weigh_64  (fu : Nat) (S1 : sSt) (v1 : Int32) (v3 : Int32) : Nat → (Int32) → (sPd) → Option (sPd)
  | 0, _, _ => none
  | j + 1, v5, S0 => (if (9 : Int32) ≤ v5 then (some S0) else ((gIx v5 9).bind fun k79 => (lX4_weigh_86 (lX4_weigh_64  fu S1 v1 v3 j) fu S1 v1 v3 fu v5 ((v3.toInt64) * (S0.1 k79)) (0 : Int32) S0)))
def lX4_weigh_13  (fu : Nat) (S1 : sSt) (v1 : Int32) (v3 : Int32) : Nat → (Int32) → (Int32) → (sPd) → Option (sPd)
  | 0, _, _, _ => none
  | j + 1, v4, v5, S0 => (if (8 : Int32) ≤ v5 then ((fX3_second 20 S1.2.1 v1).bind fun r56 => ((some (st_X4_0 S0 (vp_updL S0.1 8 (r56.toInt64)))).bind fun S0x60 => (lX4_weigh_64  fu S1 v1 v3 fu (0 : Int32) S0x60))) else ((fX0_shownIn S1.1 v5 v4).bind fun r34 => ((gIx v5 9).bind fun k38 => ((some (st_X4_0 S0 (vp_updL S0.1 k38 (r34.toInt64)))).bind fun S0x38 => ((lX4_weigh_13  fu S1 v1 v3 j) v4 (v5 + 1) S0x38)))))
def fX4_weigh (fu : Nat) (S0 : sPd) (S1 : sSt) (v1 : Int32) (v3 : Int32) : Option (sPd) := ((fX3_first 20 S1.2.1 v1).bind fun r5 => (lX4_weigh_13  fu S1 v1 v3 fu r5 (0 : Int32) S0))
set_option maxHeartbeats 4000000 in
set_option maxRecDepth 100000 in
theorem qX4_weigh {l : Launch} {E : gE} {a0 : Nat → Nat} {a1 : Nat → Nat} {fu : Nat} {S0 : sPd} {S1 : sSt} {v1 : Int32} {v3 : Int32} {r : sPd} (hf : fX4_weigh fu S0 S1 v1 v3 = some r) : CtrF l yX4_weigh cX4_weigh 9 none (gR 3 69) E [.ref (a0 0), .int v1, .ref (a1 0), .int v3] (wPd E (a0 0) (a0 1) (a0 2) (a0 3) (a0 4) S0.1 S0.2.1 S0.2.2.1 S0.2.2.2.1 S0.2.2.2.2 ++ wSt E (a1 0) (a1 1) (a1 2) (a1 3) (a1 4) (a1 5) (a1 6) (a1 7) (a1 8) (a1 9) (a1 10) (a1 11) (a1 12) (a1 13) (a1 14) (a1 15) S1.1.1 S1.1.2.1 S1.1.2.2.1 S1.1.2.2.2 S1.2.1.1 S1.2.1.2.1 S1.2.1.2.2 S1.2.2.1.1 S1.2.2.1.2.1 S1.2.2.1.2.2 S1.2.2.2.1 S1.2.2.2.2.1 S1.2.2.2.2.2) none (wPd E (a0 0) (a0 1) (a0 2) (a0 3) (a0 4) r.1 r.2.1 r.2.2.1 r.2.2.2.1 r.2.2.2.2 ++ wSt E (a1 0) (a1 1) (a1 2) (a1 3) (a1 4) (a1 5) (a1 6) (a1 7) (a1 8) (a1 9) (a1 10) (a1 11) (a1 12) (a1 13) (a1 14) (a1 15) S1.1.1 S1.1.2.1 S1.1.2.2.1 S1.1.2.2.2 S1.2.1.1 S1.2.1.2.1 S1.2.1.2.2 S1.2.2.1.1 S1.2.2.1.2.1 S1.2.2.1.2.2 S1.2.2.2.1 S1.2.2.2.2.1 S1.2.2.2.2.2) := by
  refine ctr_of false (plainFor_of_name (by decide)) (Nat.le_of_ble_eq_true rfl) (fun q => by cases q) (fun Γ h => ?_)
  refine g_lv [some _, some _, some _, some _, _, _, _, _, _] rfl ?_
  rw [fX4_weigh] at hf
  have loop64 : ∀ (j64 : Nat) (v5 : Int32) (S0 : sPd) (o4 : Option Value) (o6 : Option Value) (o7 : Option Value) (o8 : Option Value), lX4_weigh_64  fu S1 v1 v3 j64 v5 S0 = some r → Γ 0 0 64 [some (.ref (a0 0)), some (.int v1), some (.ref (a1 0)), some (.int v3), o4, some (.int v5), o6, o7, o8] [] (wPd E (a0 0) (a0 1) (a0 2) (a0 3) (a0 4) S0.1 S0.2.1 S0.2.2.1 S0.2.2.2.1 S0.2.2.2.2 ++ wSt E (a1 0) (a1 1) (a1 2) (a1 3) (a1 4) (a1 5) (a1 6) (a1 7) (a1 8) (a1 9) (a1 10) (a1 11) (a1 12) (a1 13) (a1 14) (a1 15) S1.1.1 S1.1.2.1 S1.1.2.2.1 S1.1.2.2.2 S1.2.1.1 S1.2.1.2.1 S1.2.1.2.2 S1.2.2.1.1 S1.2.2.1.2.1 S1.2.2.1.2.2 S1.2.2.2.1 S1.2.2.2.2.1 S1.2.2.2.2.2) := by
    intro j64
    induction j64 with
    | zero => intro v5 S0 o4 o6 o7 o8 hf; exact gno hf
    | succ j64 ih64 =>
      intro v5 S0 o4 o6 o7 o8 hf
      rw [lX4_weigh_64] at hf
      have loop86 : ∀ (j86 : Nat) (v5 : Int32) (v6 : Int64) (v8 : Int32) (S0 : sPd) (o4 : Option Value), lX4_weigh_86 (lX4_weigh_64  fu S1 v1 v3 j64) fu S1 v1 v3 j86 v5 v6 v8 S0 = some r → Γ 0 0 86 [some (.ref (a0 0)), some (.int v1), some (.ref (a1 0)), some (.int v3), o4, some (.int v5), some (.long v6), none, some (.int v8)] [] (wPd E (a0 0) (a0 1) (a0 2) (a0 3) (a0 4) S0.1 S0.2.1 S0.2.2.1 S0.2.2.2.1 S0.2.2.2.2 ++ wSt E (a1 0) (a1 1) (a1 2) (a1 3) (a1 4) (a1 5) (a1 6) (a1 7) (a1 8) (a1 9) (a1 10) (a1 11) (a1 12) (a1 13) (a1 14) (a1 15) S1.1.1 S1.1.2.1 S1.1.2.2.1 S1.1.2.2.2 S1.2.1.1 S1.2.1.2.1 S1.2.1.2.2 S1.2.2.1.1 S1.2.2.1.2.1 S1.2.2.1.2.2 S1.2.2.2.1 S1.2.2.2.2.1 S1.2.2.2.2.2) := by
        intro j86
        induction j86 with
        | zero => intro v5 v6 v8 S0 o4 hf; exact gno hf
        | succ j86 ih86 =>
          intro v5 v6 v8 S0 o4 hf
          rw [lX4_weigh_86] at hf
          refine g_lload h dX4_weigh_86 rfl ?_
          refine g_lconst (v := 0) h dX4_weigh_88 (by decide) ?_
          refine g_lcmp h dX4_weigh_89 ?_
          refine g_lif_eq h dX4_weigh_90 rfl (fun c90 => ?_) (fun c90 => ?_)
          · replace hf := ifp_t c90 hf
            refine g_iinc (v := (v5 + 1)) (lv' := [some _, some _, some _, some _, _, some _, some _, none, some _]) h dX4_weigh_132 rfl rfl (by decide) rfl ?_
            refine g_goto h dX4_weigh_135 rfl ?_
            exact ih64 _ _ _ _ _ _ hf
          · replace hf := ifp_f c90 hf
            refine g_iload h dX4_weigh_93 rfl ?_
            refine g_bipush (v := 9) h dX4_weigh_95 (by decide) ?_
            refine g_ic_ge h dX4_weigh_97 rfl (fun c97 => ?_) (fun c97 => ?_)
            · replace hf := ifp_t c97 hf
              refine g_iinc (v := (v5 + 1)) (lv' := [some _, some _, some _, some _, _, some _, some _, none, some _]) h dX4_weigh_132 rfl rfl (by decide) rfl ?_
              refine g_goto h dX4_weigh_135 rfl ?_
              exact ih64 _ _ _ _ _ _ hf
            · replace hf := ifp_f c97 hf
              refine g_aload_n h dX4_weigh_100 rfl ?_
              refine g_get h flX4_15 dX4_weigh_101 0 rfl rfl ?_
              refine g_iload h dX4_weigh_104 rfl ?_
              refine g_bipush (v := 9) h dX4_weigh_106 (by decide) ?_
              refine g_imul h dX4_weigh_108 ?_
              refine g_iload h dX4_weigh_109 rfl ?_
              refine g_iadd h dX4_weigh_111 ?_
              refine g_dup2_11 h dX4_weigh_112 rfl rfl ?_
              obtain ⟨k113, q113, hf⟩ := gbind hf
              have e113 := (gIx_s q113).1
              have b113 := (gIx_s q113).2
              refine g_lald h dX4_weigh_113 2 k113 rfl e113 b113 (by decide) ?_
              refine g_lload h dX4_weigh_114 rfl ?_
              refine g_aload_n h dX4_weigh_116 rfl ?_
              refine g_get h flX4_11 dX4_weigh_117 0 rfl rfl ?_
              refine g_iload h dX4_weigh_120 rfl ?_
              obtain ⟨k122, q122, hf⟩ := gbind hf
              have e122 := (gIx_s q122).1
              have b122 := (gIx_s q122).2
              refine g_lald h dX4_weigh_122 1 k122 rfl e122 b122 (by decide) ?_
              refine g_lmul h dX4_weigh_123 ?_
              refine g_ladd h dX4_weigh_124 ?_
              obtain ⟨S0x125, w125, hf⟩ := gbind hf
              refine g_last (ws' := wPd E (a0 0) (a0 1) (a0 2) (a0 3) (a0 4) S0x125.1 S0x125.2.1 S0x125.2.2.1 S0x125.2.2.2.1 S0x125.2.2.2.2 ++ wSt E (a1 0) (a1 1) (a1 2) (a1 3) (a1 4) (a1 5) (a1 6) (a1 7) (a1 8) (a1 9) (a1 10) (a1 11) (a1 12) (a1 13) (a1 14) (a1 15) S1.1.1 S1.1.2.1 S1.1.2.2.1 S1.1.2.2.2 S1.2.1.1 S1.2.1.2.1 S1.2.1.2.2 S1.2.2.1.1 S1.2.2.1.2.1 S1.2.2.1.2.2 S1.2.2.2.1 S1.2.2.2.2.1 S1.2.2.2.2.2) h dX4_weigh_125 2 k113 rfl e113 b113 (by decide) (by cases w125; rfl) ?_
              refine g_iinc (v := (v8 + 1)) (lv' := [some _, some _, some _, some _, _, some _, some _, none, some _]) h dX4_weigh_126 rfl rfl (by decide) rfl ?_
              refine g_goto h dX4_weigh_129 rfl ?_
              exact ih86 _ _ _ _ _ hf
      refine g_iload h dX4_weigh_64 rfl ?_
      refine g_bipush (v := 9) h dX4_weigh_66 (by decide) ?_
      refine g_ic_ge h dX4_weigh_68 rfl (fun c68 => ?_) (fun c68 => ?_)
      · replace hf := ifp_t c68 hf
        have er := Option.some.inj hf
        subst er
        exact g_return h dX4_weigh_138 rfl ⟨Nat.zero_le _, Nat.zero_le _, rfl, rfl, rfl⟩
      · replace hf := ifp_f c68 hf
        refine g_iload_n h dX4_weigh_71 rfl ?_
        refine g_i2l h dX4_weigh_72 ?_
        refine g_aload_n h dX4_weigh_73 rfl ?_
        refine g_get h flX4_11 dX4_weigh_74 0 rfl rfl ?_
        refine g_iload h dX4_weigh_77 rfl ?_
        obtain ⟨k79, q79, hf⟩ := gbind hf
        have e79 := (gIx_s q79).1
        have b79 := (gIx_s q79).2
        refine g_lald h dX4_weigh_79 1 k79 rfl e79 b79 (by decide) ?_
        refine g_lmul h dX4_weigh_80 ?_
        refine g_lstore (lv' := [some _, some _, some _, some _, _, some _, some _, none, _]) h dX4_weigh_81 (by decide) rfl ?_
        refine g_iconst (v := 0) h dX4_weigh_83 (by decide) ?_
        refine g_istore (lv' := [some _, some _, some _, some _, _, some _, some _, none, some _]) h dX4_weigh_84 (by decide) rfl ?_
        exact loop86 _ _ _ _ _ _ hf
  have loop13 : ∀ (j13 : Nat) (v4 : Int32) (v5 : Int32) (S0 : sPd) (o6 : Option Value) (o7 : Option Value) (o8 : Option Value), lX4_weigh_13  fu S1 v1 v3 j13 v4 v5 S0 = some r → Γ 0 0 13 [some (.ref (a0 0)), some (.int v1), some (.ref (a1 0)), some (.int v3), some (.int v4), some (.int v5), o6, o7, o8] [] (wPd E (a0 0) (a0 1) (a0 2) (a0 3) (a0 4) S0.1 S0.2.1 S0.2.2.1 S0.2.2.2.1 S0.2.2.2.2 ++ wSt E (a1 0) (a1 1) (a1 2) (a1 3) (a1 4) (a1 5) (a1 6) (a1 7) (a1 8) (a1 9) (a1 10) (a1 11) (a1 12) (a1 13) (a1 14) (a1 15) S1.1.1 S1.1.2.1 S1.1.2.2.1 S1.1.2.2.2 S1.2.1.1 S1.2.1.2.1 S1.2.1.2.2 S1.2.2.1.1 S1.2.2.1.2.1 S1.2.2.1.2.2 S1.2.2.2.1 S1.2.2.2.2.1 S1.2.2.2.2.2) := by
    intro j13
    induction j13 with
    | zero => intro v4 v5 S0 o6 o7 o8 hf; exact gno hf
    | succ j13 ih13 =>
      intro v4 v5 S0 o6 o7 o8 hf
      rw [lX4_weigh_13] at hf
      refine g_iload h dX4_weigh_13 rfl ?_
      refine g_bipush (v := 8) h dX4_weigh_15 (by decide) ?_
      refine g_ic_ge h dX4_weigh_17 rfl (fun c17 => ?_) (fun c17 => ?_)
      · replace hf := ifp_t c17 hf
        refine g_aload_n h dX4_weigh_45 rfl ?_
        refine g_get h flX4_11 dX4_weigh_46 0 rfl rfl ?_
        refine g_bipush (v := 8) h dX4_weigh_49 (by decide) ?_
        refine g_aload_n h dX4_weigh_51 rfl ?_
        refine g_get h flX4_31 dX4_weigh_52 5 rfl rfl ?_
        refine g_iload_n h dX4_weigh_55 rfl ?_
        obtain ⟨r56, q56, hf⟩ := gbind hf
        refine g_cVr h (qX3_second (a0 := fun k => a1 (k + 6)) q56) mX3_second lkX4_61 dX4_weigh_56 rfl rfl ⟨Nat.zero_le _, Nat.zero_le _⟩ ⟨by decide, by decide⟩ (Nat.le_of_ble_eq_true rfl) [11, 12, 13] rfl rfl 11 rfl rfl ?_
        refine g_i2l h dX4_weigh_59 ?_
        obtain ⟨S0x60, w60, hf⟩ := gbind hf
        refine g_last (ws' := wPd E (a0 0) (a0 1) (a0 2) (a0 3) (a0 4) S0x60.1 S0x60.2.1 S0x60.2.2.1 S0x60.2.2.2.1 S0x60.2.2.2.2 ++ wSt E (a1 0) (a1 1) (a1 2) (a1 3) (a1 4) (a1 5) (a1 6) (a1 7) (a1 8) (a1 9) (a1 10) (a1 11) (a1 12) (a1 13) (a1 14) (a1 15) S1.1.1 S1.1.2.1 S1.1.2.2.1 S1.1.2.2.2 S1.2.1.1 S1.2.1.2.1 S1.2.1.2.2 S1.2.2.1.1 S1.2.2.1.2.1 S1.2.2.1.2.2 S1.2.2.2.1 S1.2.2.2.2.1 S1.2.2.2.2.2) h dX4_weigh_60 1 8 rfl rfl (by decide) (by decide) (by cases w60; rfl) ?_
        refine g_iconst (v := 0) h dX4_weigh_61 (by decide) ?_
        refine g_istore (lv' := [some _, some _, some _, some _, some _, some _, _, _, _]) h dX4_weigh_62 (by decide) rfl ?_
        exact loop64 _ _ _ _ _ _ _ hf
      · replace hf := ifp_f c17 hf
        refine g_aload_n h dX4_weigh_20 rfl ?_
        refine g_get h flX4_11 dX4_weigh_21 0 rfl rfl ?_
        refine g_iload h dX4_weigh_24 rfl ?_
        refine g_aload_n h dX4_weigh_26 rfl ?_
        refine g_get h flX4_51 dX4_weigh_27 5 rfl rfl ?_
        refine g_iload h dX4_weigh_30 rfl ?_
        refine g_iload h dX4_weigh_32 rfl ?_
        obtain ⟨r34, q34, hf⟩ := gbind hf
        refine g_cVr h (qX0_shownIn (a0 := fun k => a1 (k + 1)) q34) mX0_shownIn lkX4_55 dX4_weigh_34 rfl rfl ⟨Nat.zero_le _, Nat.zero_le _⟩ ⟨by decide, by decide⟩ (Nat.le_of_ble_eq_true rfl) [6, 7, 8, 9, 10] rfl rfl 6 rfl rfl ?_
        refine g_i2l h dX4_weigh_37 ?_
        obtain ⟨k38, q38, hf⟩ := gbind hf
        have e38 := (gIx_s q38).1
        have b38 := (gIx_s q38).2
        obtain ⟨S0x38, w38, hf⟩ := gbind hf
        refine g_last (ws' := wPd E (a0 0) (a0 1) (a0 2) (a0 3) (a0 4) S0x38.1 S0x38.2.1 S0x38.2.2.1 S0x38.2.2.2.1 S0x38.2.2.2.2 ++ wSt E (a1 0) (a1 1) (a1 2) (a1 3) (a1 4) (a1 5) (a1 6) (a1 7) (a1 8) (a1 9) (a1 10) (a1 11) (a1 12) (a1 13) (a1 14) (a1 15) S1.1.1 S1.1.2.1 S1.1.2.2.1 S1.1.2.2.2 S1.2.1.1 S1.2.1.2.1 S1.2.1.2.2 S1.2.2.1.1 S1.2.2.1.2.1 S1.2.2.1.2.2 S1.2.2.2.1 S1.2.2.2.2.1 S1.2.2.2.2.2) h dX4_weigh_38 1 k38 rfl e38 b38 (by decide) (by cases w38; rfl) ?_
        refine g_iinc (v := (v5 + 1)) (lv' := [some _, some _, some _, some _, some _, some _, _, _, _]) h dX4_weigh_39 rfl rfl (by decide) rfl ?_
        refine g_goto h dX4_weigh_42 rfl ?_
        exact ih13 _ _ _ _ _ _ hf
  refine g_aload_n h dX4_weigh_0 rfl ?_
  refine g_get h flX4_31 dX4_weigh_1 5 rfl rfl ?_
  refine g_iload_n h dX4_weigh_4 rfl ?_
  obtain ⟨r5, q5, hf⟩ := gbind hf
  refine g_cVr h (qX3_first (a0 := fun k => a1 (k + 6)) q5) mX3_first lkX4_47 dX4_weigh_5 rfl rfl ⟨Nat.zero_le _, Nat.zero_le _⟩ ⟨by decide, by decide⟩ (Nat.le_of_ble_eq_true rfl) [11, 12, 13] rfl rfl 11 rfl rfl ?_
  refine g_istore (lv' := [some _, some _, some _, some _, some _, _, _, _, _]) h dX4_weigh_8 (by decide) rfl ?_
  refine g_iconst (v := 0) h dX4_weigh_10 (by decide) ?_
  refine g_istore (lv' := [some _, some _, some _, some _, some _, some _, _, _, _]) h dX4_weigh_11 (by decide) rfl ?_
  exact loop13 _ _ _ _ _ _ _ hf
def lX4_gather_10  (fu : Nat) (S1 : sSt) : Nat → (Int32) → (sPd) → Option (sPd)
  | 0, _, _ => none
  | j + 1, v2, S0 => ((fX3_length 20 S1.2.1).bind fun r15 => (if r15 ≤ v2 then (some S0) else ((fX4_weigh fu S0 S1 v2 (1 : Int32)).bind fun r25 => ((lX4_gather_10  fu S1 j) (v2 + 1) r25))))
def fX4_gather (fu : Nat) (S0 : sPd) (S1 : sSt)  : Option (sPd) := ((fJ7_fill_d0a16 81 S0.2.1 (0 : Int64)).bind fun r5 => (lX4_gather_10  fu S1 fu (0 : Int32) (st_X4_1 S0 r5)))
set_option maxRecDepth 100000 in
theorem mgX4_0 {E : gE} {S0 : sPd} {S1 : sSt} {n0 : Nat → Int64} {a0 : Nat → Nat} {a1 : Nat → Nat} : gmerge [2] ([((a0 2), .inl (E.2 1, 81, .inr (.inl n0)))]) (wPd E (a0 0) (a0 1) (a0 2) (a0 3) (a0 4) S0.1 S0.2.1 S0.2.2.1 S0.2.2.2.1 S0.2.2.2.2 ++ wSt E (a1 0) (a1 1) (a1 2) (a1 3) (a1 4) (a1 5) (a1 6) (a1 7) (a1 8) (a1 9) (a1 10) (a1 11) (a1 12) (a1 13) (a1 14) (a1 15) S1.1.1 S1.1.2.1 S1.1.2.2.1 S1.1.2.2.2 S1.2.1.1 S1.2.1.2.1 S1.2.1.2.2 S1.2.2.1.1 S1.2.2.1.2.1 S1.2.2.1.2.2 S1.2.2.2.1 S1.2.2.2.2.1 S1.2.2.2.2.2) = wPd E (a0 0) (a0 1) (a0 2) (a0 3) (a0 4) (st_X4_1 S0 n0).1 (st_X4_1 S0 n0).2.1 (st_X4_1 S0 n0).2.2.1 (st_X4_1 S0 n0).2.2.2.1 (st_X4_1 S0 n0).2.2.2.2 ++ wSt E (a1 0) (a1 1) (a1 2) (a1 3) (a1 4) (a1 5) (a1 6) (a1 7) (a1 8) (a1 9) (a1 10) (a1 11) (a1 12) (a1 13) (a1 14) (a1 15) S1.1.1 S1.1.2.1 S1.1.2.2.1 S1.1.2.2.2 S1.2.1.1 S1.2.1.2.1 S1.2.1.2.2 S1.2.2.1.1 S1.2.2.1.2.1 S1.2.2.1.2.2 S1.2.2.2.1 S1.2.2.2.2.1 S1.2.2.2.2.2 := by
  have h0 : gmerge [2] ([((a0 2), .inl (E.2 1, 81, .inr (.inl n0)))]) (wPd E (a0 0) (a0 1) (a0 2) (a0 3) (a0 4) S0.1 S0.2.1 S0.2.2.1 S0.2.2.2.1 S0.2.2.2.2 ++ wSt E (a1 0) (a1 1) (a1 2) (a1 3) (a1 4) (a1 5) (a1 6) (a1 7) (a1 8) (a1 9) (a1 10) (a1 11) (a1 12) (a1 13) (a1 14) (a1 15) S1.1.1 S1.1.2.1 S1.1.2.2.1 S1.1.2.2.2 S1.2.1.1 S1.2.1.2.1 S1.2.1.2.2 S1.2.2.1.1 S1.2.2.1.2.1 S1.2.2.1.2.2 S1.2.2.2.1 S1.2.2.2.2.1 S1.2.2.2.2.2) = wPd E (a0 0) (a0 1) (a0 2) (a0 3) (a0 4) (st_X4_1 S0 n0).1 (st_X4_1 S0 n0).2.1 (st_X4_1 S0 n0).2.2.1 (st_X4_1 S0 n0).2.2.2.1 (st_X4_1 S0 n0).2.2.2.2 ++ wSt E (a1 0) (a1 1) (a1 2) (a1 3) (a1 4) (a1 5) (a1 6) (a1 7) (a1 8) (a1 9) (a1 10) (a1 11) (a1 12) (a1 13) (a1 14) (a1 15) S1.1.1 S1.1.2.1 S1.1.2.2.1 S1.1.2.2.2 S1.2.1.1 S1.2.1.2.1 S1.2.1.2.2 S1.2.2.1.1 S1.2.2.1.2.1 S1.2.2.1.2.2 S1.2.2.2.1 S1.2.2.2.2.1 S1.2.2.2.2.2 := gmerge_cut 2 1 (Nat.le_of_ble_eq_true rfl) rfl rfl
  exact h0
set_option maxRecDepth 100000 in
theorem mgX4_1 {E : gE} {S0 : sPd} {S1 : sSt} {n0 : sPd} {a0 : Nat → Nat} {a1 : Nat → Nat} : gmerge [0, 1, 2, 3, 4, 5, 6, 7, 8, 9, 10, 11, 12, 13, 14, 15, 16, 17, 18, 19, 20] (wPd E (a0 0) (a0 1) (a0 2) (a0 3) (a0 4) n0.1 n0.2.1 n0.2.2.1 n0.2.2.2.1 n0.2.2.2.2 ++ wSt E (a1 0) (a1 1) (a1 2) (a1 3) (a1 4) (a1 5) (a1 6) (a1 7) (a1 8) (a1 9) (a1 10) (a1 11) (a1 12) (a1 13) (a1 14) (a1 15) S1.1.1 S1.1.2.1 S1.1.2.2.1 S1.1.2.2.2 S1.2.1.1 S1.2.1.2.1 S1.2.1.2.2 S1.2.2.1.1 S1.2.2.1.2.1 S1.2.2.1.2.2 S1.2.2.2.1 S1.2.2.2.2.1 S1.2.2.2.2.2) (wPd E (a0 0) (a0 1) (a0 2) (a0 3) (a0 4) S0.1 S0.2.1 S0.2.2.1 S0.2.2.2.1 S0.2.2.2.2 ++ wSt E (a1 0) (a1 1) (a1 2) (a1 3) (a1 4) (a1 5) (a1 6) (a1 7) (a1 8) (a1 9) (a1 10) (a1 11) (a1 12) (a1 13) (a1 14) (a1 15) S1.1.1 S1.1.2.1 S1.1.2.2.1 S1.1.2.2.2 S1.2.1.1 S1.2.1.2.1 S1.2.1.2.2 S1.2.2.1.1 S1.2.2.1.2.1 S1.2.2.1.2.2 S1.2.2.2.1 S1.2.2.2.2.1 S1.2.2.2.2.2) = wPd E (a0 0) (a0 1) (a0 2) (a0 3) (a0 4) n0.1 n0.2.1 n0.2.2.1 n0.2.2.2.1 n0.2.2.2.2 ++ wSt E (a1 0) (a1 1) (a1 2) (a1 3) (a1 4) (a1 5) (a1 6) (a1 7) (a1 8) (a1 9) (a1 10) (a1 11) (a1 12) (a1 13) (a1 14) (a1 15) S1.1.1 S1.1.2.1 S1.1.2.2.1 S1.1.2.2.2 S1.2.1.1 S1.2.1.2.1 S1.2.1.2.2 S1.2.2.1.1 S1.2.2.1.2.1 S1.2.2.1.2.2 S1.2.2.2.1 S1.2.2.2.2.1 S1.2.2.2.2.2 := by
  have h0 : gmerge [0, 1, 2, 3, 4] (wPd E (a0 0) (a0 1) (a0 2) (a0 3) (a0 4) n0.1 n0.2.1 n0.2.2.1 n0.2.2.2.1 n0.2.2.2.2) (wPd E (a0 0) (a0 1) (a0 2) (a0 3) (a0 4) S0.1 S0.2.1 S0.2.2.1 S0.2.2.2.1 S0.2.2.2.2 ++ wSt E (a1 0) (a1 1) (a1 2) (a1 3) (a1 4) (a1 5) (a1 6) (a1 7) (a1 8) (a1 9) (a1 10) (a1 11) (a1 12) (a1 13) (a1 14) (a1 15) S1.1.1 S1.1.2.1 S1.1.2.2.1 S1.1.2.2.2 S1.2.1.1 S1.2.1.2.1 S1.2.1.2.2 S1.2.2.1.1 S1.2.2.1.2.1 S1.2.2.1.2.2 S1.2.2.2.1 S1.2.2.2.2.1 S1.2.2.2.2.2) = wPd E (a0 0) (a0 1) (a0 2) (a0 3) (a0 4) n0.1 n0.2.1 n0.2.2.1 n0.2.2.2.1 n0.2.2.2.2 ++ wSt E (a1 0) (a1 1) (a1 2) (a1 3) (a1 4) (a1 5) (a1 6) (a1 7) (a1 8) (a1 9) (a1 10) (a1 11) (a1 12) (a1 13) (a1 14) (a1 15) S1.1.1 S1.1.2.1 S1.1.2.2.1 S1.1.2.2.2 S1.2.1.1 S1.2.1.2.1 S1.2.1.2.2 S1.2.2.1.1 S1.2.2.1.2.1 S1.2.2.1.2.2 S1.2.2.2.1 S1.2.2.2.2.1 S1.2.2.2.2.2 := gmerge_cut 0 5 (Nat.le_of_ble_eq_true rfl) rfl rfl
  have h1 : gmerge [5, 6, 7, 8, 9, 10, 11, 12, 13, 14, 15, 16, 17, 18, 19, 20] (wSt E (a1 0) (a1 1) (a1 2) (a1 3) (a1 4) (a1 5) (a1 6) (a1 7) (a1 8) (a1 9) (a1 10) (a1 11) (a1 12) (a1 13) (a1 14) (a1 15) S1.1.1 S1.1.2.1 S1.1.2.2.1 S1.1.2.2.2 S1.2.1.1 S1.2.1.2.1 S1.2.1.2.2 S1.2.2.1.1 S1.2.2.1.2.1 S1.2.2.1.2.2 S1.2.2.2.1 S1.2.2.2.2.1 S1.2.2.2.2.2) (wPd E (a0 0) (a0 1) (a0 2) (a0 3) (a0 4) n0.1 n0.2.1 n0.2.2.1 n0.2.2.2.1 n0.2.2.2.2 ++ wSt E (a1 0) (a1 1) (a1 2) (a1 3) (a1 4) (a1 5) (a1 6) (a1 7) (a1 8) (a1 9) (a1 10) (a1 11) (a1 12) (a1 13) (a1 14) (a1 15) S1.1.1 S1.1.2.1 S1.1.2.2.1 S1.1.2.2.2 S1.2.1.1 S1.2.1.2.1 S1.2.1.2.2 S1.2.2.1.1 S1.2.2.1.2.1 S1.2.2.1.2.2 S1.2.2.2.1 S1.2.2.2.2.1 S1.2.2.2.2.2) = wPd E (a0 0) (a0 1) (a0 2) (a0 3) (a0 4) n0.1 n0.2.1 n0.2.2.1 n0.2.2.2.1 n0.2.2.2.2 ++ wSt E (a1 0) (a1 1) (a1 2) (a1 3) (a1 4) (a1 5) (a1 6) (a1 7) (a1 8) (a1 9) (a1 10) (a1 11) (a1 12) (a1 13) (a1 14) (a1 15) S1.1.1 S1.1.2.1 S1.1.2.2.1 S1.1.2.2.2 S1.2.1.1 S1.2.1.2.1 S1.2.1.2.2 S1.2.2.1.1 S1.2.2.1.2.1 S1.2.2.1.2.2 S1.2.2.2.1 S1.2.2.2.2.1 S1.2.2.2.2.2 := gmerge_self _ _ _ rfl
  exact gmerge_app2 h0 h1 rfl rfl
set_option maxHeartbeats 4000000 in
set_option maxRecDepth 100000 in
theorem qX4_gather {l : Launch} {E : gE} {a0 : Nat → Nat} {a1 : Nat → Nat} {fu : Nat} {S0 : sPd} {S1 : sSt}  {r : sPd} (hf : fX4_gather fu S0 S1  = some r) : CtrF l yX4_gather cX4_gather 3 none (gR 4 97) E [.ref (a0 0), .ref (a1 0)] (wPd E (a0 0) (a0 1) (a0 2) (a0 3) (a0 4) S0.1 S0.2.1 S0.2.2.1 S0.2.2.2.1 S0.2.2.2.2 ++ wSt E (a1 0) (a1 1) (a1 2) (a1 3) (a1 4) (a1 5) (a1 6) (a1 7) (a1 8) (a1 9) (a1 10) (a1 11) (a1 12) (a1 13) (a1 14) (a1 15) S1.1.1 S1.1.2.1 S1.1.2.2.1 S1.1.2.2.2 S1.2.1.1 S1.2.1.2.1 S1.2.1.2.2 S1.2.2.1.1 S1.2.2.1.2.1 S1.2.2.1.2.2 S1.2.2.2.1 S1.2.2.2.2.1 S1.2.2.2.2.2) none (wPd E (a0 0) (a0 1) (a0 2) (a0 3) (a0 4) r.1 r.2.1 r.2.2.1 r.2.2.2.1 r.2.2.2.2 ++ wSt E (a1 0) (a1 1) (a1 2) (a1 3) (a1 4) (a1 5) (a1 6) (a1 7) (a1 8) (a1 9) (a1 10) (a1 11) (a1 12) (a1 13) (a1 14) (a1 15) S1.1.1 S1.1.2.1 S1.1.2.2.1 S1.1.2.2.2 S1.2.1.1 S1.2.1.2.1 S1.2.1.2.2 S1.2.2.1.1 S1.2.2.1.2.1 S1.2.2.1.2.2 S1.2.2.2.1 S1.2.2.2.2.1 S1.2.2.2.2.2) := by
  refine ctr_of false (plainFor_of_name (by decide)) (Nat.le_of_ble_eq_true rfl) (fun q => by cases q) (fun Γ h => ?_)
  refine g_lv [some _, some _, _] rfl ?_
  rw [fX4_gather] at hf
  have loop10 : ∀ (j10 : Nat) (v2 : Int32) (S0 : sPd) , lX4_gather_10  fu S1 j10 v2 S0 = some r → Γ 0 0 10 [some (.ref (a0 0)), some (.ref (a1 0)), some (.int v2)] [] (wPd E (a0 0) (a0 1) (a0 2) (a0 3) (a0 4) S0.1 S0.2.1 S0.2.2.1 S0.2.2.2.1 S0.2.2.2.2 ++ wSt E (a1 0) (a1 1) (a1 2) (a1 3) (a1 4) (a1 5) (a1 6) (a1 7) (a1 8) (a1 9) (a1 10) (a1 11) (a1 12) (a1 13) (a1 14) (a1 15) S1.1.1 S1.1.2.1 S1.1.2.2.1 S1.1.2.2.2 S1.2.1.1 S1.2.1.2.1 S1.2.1.2.2 S1.2.2.1.1 S1.2.2.1.2.1 S1.2.2.1.2.2 S1.2.2.2.1 S1.2.2.2.2.1 S1.2.2.2.2.2) := by
    intro j10
    induction j10 with
    | zero => intro v2 S0 hf; exact gno hf
    | succ j10 ih10 =>
      intro v2 S0 hf
      rw [lX4_gather_10] at hf
      refine g_iload_n h dX4_gather_10 rfl ?_
      refine g_aload_n h dX4_gather_11 rfl ?_
      refine g_get h flX4_31 dX4_gather_12 5 rfl rfl ?_
      obtain ⟨r15, q15, hf⟩ := gbind hf
      refine g_cVr h (qX3_length (a0 := fun k => a1 (k + 6)) q15) mX3_length lkX4_37 dX4_gather_15 rfl rfl ⟨Nat.zero_le _, Nat.zero_le _⟩ ⟨by decide, by decide⟩ (Nat.le_of_ble_eq_true rfl) [11, 12, 13] rfl rfl 11 rfl rfl ?_
      refine g_ic_ge h dX4_gather_18 rfl (fun c18 => ?_) (fun c18 => ?_)
      · replace hf := ifp_t c18 hf
        have er := Option.some.inj hf
        subst er
        exact g_return h dX4_gather_34 rfl ⟨Nat.zero_le _, Nat.zero_le _, rfl, rfl, rfl⟩
      · replace hf := ifp_f c18 hf
        refine g_aload_n h dX4_gather_21 rfl ?_
        refine g_iload_n h dX4_gather_22 rfl ?_
        refine g_aload_n h dX4_gather_23 rfl ?_
        refine g_iconst (v := 1) h dX4_gather_24 (by decide) ?_
        obtain ⟨r25, q25, hf⟩ := gbind hf
        refine g_cVv (ws' := wPd E (a0 0) (a0 1) (a0 2) (a0 3) (a0 4) r25.1 r25.2.1 r25.2.2.1 r25.2.2.2.1 r25.2.2.2.2 ++ wSt E (a1 0) (a1 1) (a1 2) (a1 3) (a1 4) (a1 5) (a1 6) (a1 7) (a1 8) (a1 9) (a1 10) (a1 11) (a1 12) (a1 13) (a1 14) (a1 15) S1.1.1 S1.1.2.1 S1.1.2.2.1 S1.1.2.2.2 S1.2.1.1 S1.2.1.2.1 S1.2.1.2.2 S1.2.2.1.1 S1.2.2.1.2.1 S1.2.2.1.2.2 S1.2.2.2.1 S1.2.2.2.2.1 S1.2.2.2.2.2) h (qX4_weigh (a0 := a0) (a1 := a1) q25) mX4_weigh lkX4_43 dX4_gather_25 rfl rfl ⟨Nat.zero_le _, Nat.zero_le _⟩ ⟨by decide, by decide⟩ (Nat.le_of_ble_eq_true rfl) [0, 1, 2, 3, 4, 5, 6, 7, 8, 9, 10, 11, 12, 13, 14, 15, 16, 17, 18, 19, 20] rfl rfl 0 rfl rfl mgX4_1 ?_
        refine g_iinc (v := (v2 + 1)) (lv' := [some _, some _, some _]) h dX4_gather_28 rfl rfl (by decide) rfl ?_
        refine g_goto h dX4_gather_31 rfl ?_
        exact ih10 _ _ hf
  refine g_aload_n h dX4_gather_0 rfl ?_
  refine g_get h flX4_15 dX4_gather_1 0 rfl rfl ?_
  refine g_lconst (v := 0) h dX4_gather_4 (by decide) ?_
  obtain ⟨r5, q5, hf⟩ := gbind hf
  refine g_cSv (ws' := wPd E (a0 0) (a0 1) (a0 2) (a0 3) (a0 4) (st_X4_1 S0 r5).1 (st_X4_1 S0 r5).2.1 (st_X4_1 S0 r5).2.2.1 (st_X4_1 S0 r5).2.2.2.1 (st_X4_1 S0 r5).2.2.2.2 ++ wSt E (a1 0) (a1 1) (a1 2) (a1 3) (a1 4) (a1 5) (a1 6) (a1 7) (a1 8) (a1 9) (a1 10) (a1 11) (a1 12) (a1 13) (a1 14) (a1 15) S1.1.1 S1.1.2.1 S1.1.2.2.1 S1.1.2.2.2 S1.2.1.1 S1.2.1.2.1 S1.2.1.2.2 S1.2.2.1.1 S1.2.2.1.2.1 S1.2.2.1.2.2 S1.2.2.2.1 S1.2.2.2.2.1 S1.2.2.2.2.2) h (qJ7_fill_d0a16 (h0 := (a0 2)) q5) mJ7_fill_d0a16 lkX4_25 dX4_gather_5 rfl rfl ⟨Nat.zero_le _, Nat.zero_le _⟩ ⟨by decide, by decide⟩ (Nat.le_of_ble_eq_true rfl) [2] rfl rfl mgX4_0 ?_
  refine g_iconst (v := 0) h dX4_gather_8 (by decide) ?_
  refine g_istore_n (lv' := [some _, some _, some _]) h dX4_gather_9 (by decide) rfl ?_
  exact loop10 _ _ _  hf
def fX4_solveWithout (fu : Nat) (S0 : sPd) (S1 : sSt) (v1 : Int32) (v2 : Int32) : Option (Bool × sPd) := ((fX4_weigh fu S0 S1 v1 (-1 : Int32)).bind fun r4 => ((fX4_solve r4 v2).bind fun r9 => ((fX4_weigh fu r9.2 S1 v1 (1 : Int32)).bind fun r18 => (some (r9.1, r18)))))
set_option maxRecDepth 100000 in
theorem mgX4_2 {E : gE} {S0 : sPd} {S1 : sSt} {n0 : sPd} {a0 : Nat → Nat} {a1 : Nat → Nat} : gmerge [0, 1, 2, 3, 4] (wPd E (a0 0) (a0 1) (a0 2) (a0 3) (a0 4) n0.1 n0.2.1 n0.2.2.1 n0.2.2.2.1 n0.2.2.2.2) (wPd E (a0 0) (a0 1) (a0 2) (a0 3) (a0 4) S0.1 S0.2.1 S0.2.2.1 S0.2.2.2.1 S0.2.2.2.2 ++ wSt E (a1 0) (a1 1) (a1 2) (a1 3) (a1 4) (a1 5) (a1 6) (a1 7) (a1 8) (a1 9) (a1 10) (a1 11) (a1 12) (a1 13) (a1 14) (a1 15) S1.1.1 S1.1.2.1 S1.1.2.2.1 S1.1.2.2.2 S1.2.1.1 S1.2.1.2.1 S1.2.1.2.2 S1.2.2.1.1 S1.2.2.1.2.1 S1.2.2.1.2.2 S1.2.2.2.1 S1.2.2.2.2.1 S1.2.2.2.2.2) = wPd E (a0 0) (a0 1) (a0 2) (a0 3) (a0 4) n0.1 n0.2.1 n0.2.2.1 n0.2.2.2.1 n0.2.2.2.2 ++ wSt E (a1 0) (a1 1) (a1 2) (a1 3) (a1 4) (a1 5) (a1 6) (a1 7) (a1 8) (a1 9) (a1 10) (a1 11) (a1 12) (a1 13) (a1 14) (a1 15) S1.1.1 S1.1.2.1 S1.1.2.2.1 S1.1.2.2.2 S1.2.1.1 S1.2.1.2.1 S1.2.1.2.2 S1.2.2.1.1 S1.2.2.1.2.1 S1.2.2.1.2.2 S1.2.2.2.1 S1.2.2.2.2.1 S1.2.2.2.2.2 := by
  have h0 : gmerge [0, 1, 2, 3, 4] (wPd E (a0 0) (a0 1) (a0 2) (a0 3) (a0 4) n0.1 n0.2.1 n0.2.2.1 n0.2.2.2.1 n0.2.2.2.2) (wPd E (a0 0) (a0 1) (a0 2) (a0 3) (a0 4) S0.1 S0.2.1 S0.2.2.1 S0.2.2.2.1 S0.2.2.2.2 ++ wSt E (a1 0) (a1 1) (a1 2) (a1 3) (a1 4) (a1 5) (a1 6) (a1 7) (a1 8) (a1 9) (a1 10) (a1 11) (a1 12) (a1 13) (a1 14) (a1 15) S1.1.1 S1.1.2.1 S1.1.2.2.1 S1.1.2.2.2 S1.2.1.1 S1.2.1.2.1 S1.2.1.2.2 S1.2.2.1.1 S1.2.2.1.2.1 S1.2.2.1.2.2 S1.2.2.2.1 S1.2.2.2.2.1 S1.2.2.2.2.2) = wPd E (a0 0) (a0 1) (a0 2) (a0 3) (a0 4) n0.1 n0.2.1 n0.2.2.1 n0.2.2.2.1 n0.2.2.2.2 ++ wSt E (a1 0) (a1 1) (a1 2) (a1 3) (a1 4) (a1 5) (a1 6) (a1 7) (a1 8) (a1 9) (a1 10) (a1 11) (a1 12) (a1 13) (a1 14) (a1 15) S1.1.1 S1.1.2.1 S1.1.2.2.1 S1.1.2.2.2 S1.2.1.1 S1.2.1.2.1 S1.2.1.2.2 S1.2.2.1.1 S1.2.2.1.2.1 S1.2.2.1.2.2 S1.2.2.2.1 S1.2.2.2.2.1 S1.2.2.2.2.2 := gmerge_cut 0 5 (Nat.le_of_ble_eq_true rfl) rfl rfl
  exact h0
set_option maxHeartbeats 4000000 in
set_option maxRecDepth 100000 in
theorem qX4_solveWithout {l : Launch} {E : gE} {a0 : Nat → Nat} {a1 : Nat → Nat} {fu : Nat} {S0 : sPd} {S1 : sSt} {v1 : Int32} {v2 : Int32} {r : Bool × sPd} (hf : fX4_solveWithout fu S0 S1 v1 v2 = some r) : CtrF l yX4_solveWithout cX4_solveWithout 5 (some .boolean) (gR 4 97) E [.ref (a0 0), .int v1, .int v2, .ref (a1 0)] (wPd E (a0 0) (a0 1) (a0 2) (a0 3) (a0 4) S0.1 S0.2.1 S0.2.2.1 S0.2.2.2.1 S0.2.2.2.2 ++ wSt E (a1 0) (a1 1) (a1 2) (a1 3) (a1 4) (a1 5) (a1 6) (a1 7) (a1 8) (a1 9) (a1 10) (a1 11) (a1 12) (a1 13) (a1 14) (a1 15) S1.1.1 S1.1.2.1 S1.1.2.2.1 S1.1.2.2.2 S1.2.1.1 S1.2.1.2.1 S1.2.1.2.2 S1.2.2.1.1 S1.2.2.1.2.1 S1.2.2.1.2.2 S1.2.2.2.1 S1.2.2.2.2.1 S1.2.2.2.2.2) (some (.int (bI r.1))) (wPd E (a0 0) (a0 1) (a0 2) (a0 3) (a0 4) r.2.1 r.2.2.1 r.2.2.2.1 r.2.2.2.2.1 r.2.2.2.2.2 ++ wSt E (a1 0) (a1 1) (a1 2) (a1 3) (a1 4) (a1 5) (a1 6) (a1 7) (a1 8) (a1 9) (a1 10) (a1 11) (a1 12) (a1 13) (a1 14) (a1 15) S1.1.1 S1.1.2.1 S1.1.2.2.1 S1.1.2.2.2 S1.2.1.1 S1.2.1.2.1 S1.2.1.2.2 S1.2.2.1.1 S1.2.2.1.2.1 S1.2.2.1.2.2 S1.2.2.2.1 S1.2.2.2.2.1 S1.2.2.2.2.2) := by
  refine ctr_of false (plainFor_of_name (by decide)) (Nat.le_of_ble_eq_true rfl) (fun q => by cases q) (fun Γ h => ?_)
  refine g_lv [some _, some _, some _, some _, _] rfl ?_
  rw [fX4_solveWithout] at hf
  refine g_aload_n h dX4_solveWithout_0 rfl ?_
  refine g_iload_n h dX4_solveWithout_1 rfl ?_
  refine g_aload_n h dX4_solveWithout_2 rfl ?_
  refine g_iconst (v := (-1)) h dX4_solveWithout_3 (by decide) ?_
  obtain ⟨r4, q4, hf⟩ := gbind hf
  refine g_cVv (ws' := wPd E (a0 0) (a0 1) (a0 2) (a0 3) (a0 4) r4.1 r4.2.1 r4.2.2.1 r4.2.2.2.1 r4.2.2.2.2 ++ wSt E (a1 0) (a1 1) (a1 2) (a1 3) (a1 4) (a1 5) (a1 6) (a1 7) (a1 8) (a1 9) (a1 10) (a1 11) (a1 12) (a1 13) (a1 14) (a1 15) S1.1.1 S1.1.2.1 S1.1.2.2.1 S1.1.2.2.2 S1.2.1.1 S1.2.1.2.1 S1.2.1.2.2 S1.2.2.1.1 S1.2.2.1.2.1 S1.2.2.1.2.2 S1.2.2.2.1 S1.2.2.2.2.1 S1.2.2.2.2.2) h (qX4_weigh (a0 := a0) (a1 := a1) q4) mX4_weigh lkX4_43 dX4_solveWithout_4 rfl rfl ⟨Nat.zero_le _, Nat.zero_le _⟩ ⟨by decide, by decide⟩ (Nat.le_of_ble_eq_true rfl) [0, 1, 2, 3, 4, 5, 6, 7, 8, 9, 10, 11, 12, 13, 14, 15, 16, 17, 18, 19, 20] rfl rfl 0 rfl rfl mgX4_1 ?_
  refine g_aload_n h dX4_solveWithout_7 rfl ?_
  refine g_iload_n h dX4_solveWithout_8 rfl ?_
  obtain ⟨r9, q9, hf⟩ := gbind hf
  refine g_cVw (ws' := wPd E (a0 0) (a0 1) (a0 2) (a0 3) (a0 4) r9.2.1 r9.2.2.1 r9.2.2.2.1 r9.2.2.2.2.1 r9.2.2.2.2.2 ++ wSt E (a1 0) (a1 1) (a1 2) (a1 3) (a1 4) (a1 5) (a1 6) (a1 7) (a1 8) (a1 9) (a1 10) (a1 11) (a1 12) (a1 13) (a1 14) (a1 15) S1.1.1 S1.1.2.1 S1.1.2.2.1 S1.1.2.2.2 S1.2.1.1 S1.2.1.2.1 S1.2.1.2.2 S1.2.2.1.1 S1.2.2.1.2.1 S1.2.2.1.2.2 S1.2.2.2.1 S1.2.2.2.2.1 S1.2.2.2.2.2) h (qX4_solve (a0 := a0) q9) mX4_solve lkX4_80 dX4_solveWithout_9 rfl rfl ⟨Nat.zero_le _, Nat.zero_le _⟩ ⟨by decide, by decide⟩ (Nat.le_of_ble_eq_true rfl) [0, 1, 2, 3, 4] rfl rfl 0 rfl rfl mgX4_2 ?_
  refine g_istore (lv' := [some _, some _, some _, some _, some _]) h dX4_solveWithout_12 (by decide) rfl ?_
  refine g_aload_n h dX4_solveWithout_14 rfl ?_
  refine g_iload_n h dX4_solveWithout_15 rfl ?_
  refine g_aload_n h dX4_solveWithout_16 rfl ?_
  refine g_iconst (v := 1) h dX4_solveWithout_17 (by decide) ?_
  obtain ⟨r18, q18, hf⟩ := gbind hf
  refine g_cVv (ws' := wPd E (a0 0) (a0 1) (a0 2) (a0 3) (a0 4) r18.1 r18.2.1 r18.2.2.1 r18.2.2.2.1 r18.2.2.2.2 ++ wSt E (a1 0) (a1 1) (a1 2) (a1 3) (a1 4) (a1 5) (a1 6) (a1 7) (a1 8) (a1 9) (a1 10) (a1 11) (a1 12) (a1 13) (a1 14) (a1 15) S1.1.1 S1.1.2.1 S1.1.2.2.1 S1.1.2.2.2 S1.2.1.1 S1.2.1.2.1 S1.2.1.2.2 S1.2.2.1.1 S1.2.2.1.2.1 S1.2.2.1.2.2 S1.2.2.2.1 S1.2.2.2.2.1 S1.2.2.2.2.2) h (qX4_weigh (a0 := a0) (a1 := a1) q18) mX4_weigh lkX4_43 dX4_solveWithout_18 rfl rfl ⟨Nat.zero_le _, Nat.zero_le _⟩ ⟨by decide, by decide⟩ (Nat.le_of_ble_eq_true rfl) [0, 1, 2, 3, 4, 5, 6, 7, 8, 9, 10, 11, 12, 13, 14, 15, 16, 17, 18, 19, 20] rfl rfl 0 rfl rfl mgX4_1 ?_
  refine g_iload h dX4_solveWithout_21 rfl ?_
  have er := Option.some.inj hf
  subst er
  exact g_ireturn h dX4_solveWithout_23 rfl (bI_nar _) ⟨Nat.zero_le _, Nat.zero_le _, rfl, rfl, rfl⟩
def lX4_looseOf_7  (fu : Nat) (v1 : Int32) : Nat → (Int32) → (Int32) → (Int32) → (sPd) → Option (Int32 × sPd)
  | 0, _, _, _, _ => none
  | j + 1, v2, v3, v4, S0 => (if v1 < v4 then (some (v3, S0)) else (if (256 : Int32) ≤ v4 then (some (v3, S0)) else ((fJ6_bitCount_0f7a4 v4).bind fun r23 => (if (v4 &&& (v1 ^^^ (-1 : Int32))) = 0 then (if r23 < v2 then ((lX4_looseOf_7  fu v1 j) v2 v3 (v4 + 1) S0) else ((fX4_solve S0 v4).bind fun r46 => (if r46.1 = true then (if r23 ≤ v2 then ((lX4_looseOf_7  fu v1 j) r23 (v3 ||| (v1 &&& (v4 ^^^ (-1 : Int32)))) (v4 + 1) r46.2) else ((lX4_looseOf_7  fu v1 j) r23 (v1 &&& (v4 ^^^ (-1 : Int32))) (v4 + 1) r46.2)) else ((lX4_looseOf_7  fu v1 j) v2 v3 (v4 + 1) r46.2)))) else ((lX4_looseOf_7  fu v1 j) v2 v3 (v4 + 1) S0)))))
def fX4_looseOf (fu : Nat) (S0 : sPd) (v1 : Int32) : Option (Int32 × sPd) := (lX4_looseOf_7  fu v1 fu (0 : Int32) v1 (1 : Int32) S0)
set_option maxRecDepth 100000 in
theorem mgX4_3 {E : gE} {S0 : sPd} {n0 : sPd} {a0 : Nat → Nat} : gmerge [0, 1, 2, 3, 4] (wPd E (a0 0) (a0 1) (a0 2) (a0 3) (a0 4) n0.1 n0.2.1 n0.2.2.1 n0.2.2.2.1 n0.2.2.2.2) (wPd E (a0 0) (a0 1) (a0 2) (a0 3) (a0 4) S0.1 S0.2.1 S0.2.2.1 S0.2.2.2.1 S0.2.2.2.2) = wPd E (a0 0) (a0 1) (a0 2) (a0 3) (a0 4) n0.1 n0.2.1 n0.2.2.1 n0.2.2.2.1 n0.2.2.2.2 := by
  have h0 : gmerge [0, 1, 2, 3, 4] (wPd E (a0 0) (a0 1) (a0 2) (a0 3) (a0 4) n0.1 n0.2.1 n0.2.2.1 n0.2.2.2.1 n0.2.2.2.2) (wPd E (a0 0) (a0 1) (a0 2) (a0 3) (a0 4) S0.1 S0.2.1 S0.2.2.1 S0.2.2.2.1 S0.2.2.2.2) = wPd E (a0 0) (a0 1) (a0 2) (a0 3) (a0 4) n0.1 n0.2.1 n0.2.2.1 n0.2.2.2.1 n0.2.2.2.2 := gmerge_cut 0 5 (Nat.le_of_ble_eq_true rfl) rfl rfl
  exact h0
set_option maxHeartbeats 4000000 in
set_option maxRecDepth 100000 in
theorem qX4_looseOf {l : Launch} {E : gE} {a0 : Nat → Nat} {fu : Nat} {S0 : sPd} {v1 : Int32} {r : Int32 × sPd} (hf : fX4_looseOf fu S0 v1 = some r) : CtrF l yX4_looseOf cX4_looseOf 7 (some .int) (gR 3 72) E [.ref (a0 0), .int v1] (wPd E (a0 0) (a0 1) (a0 2) (a0 3) (a0 4) S0.1 S0.2.1 S0.2.2.1 S0.2.2.2.1 S0.2.2.2.2) (some (.int r.1)) (wPd E (a0 0) (a0 1) (a0 2) (a0 3) (a0 4) r.2.1 r.2.2.1 r.2.2.2.1 r.2.2.2.2.1 r.2.2.2.2.2) := by
  refine ctr_of false (plainFor_of_name (by decide)) (Nat.le_of_ble_eq_true rfl) (fun q => by cases q) (fun Γ h => ?_)
  refine g_lv [some _, some _, _, _, _, _, _] rfl ?_
  rw [fX4_looseOf] at hf
  have loop7 : ∀ (j7 : Nat) (v2 : Int32) (v3 : Int32) (v4 : Int32) (S0 : sPd) (o5 : Option Value) (o6 : Option Value), lX4_looseOf_7  fu v1 j7 v2 v3 v4 S0 = some r → Γ 0 0 7 [some (.ref (a0 0)), some (.int v1), some (.int v2), some (.int v3), some (.int v4), o5, o6] [] (wPd E (a0 0) (a0 1) (a0 2) (a0 3) (a0 4) S0.1 S0.2.1 S0.2.2.1 S0.2.2.2.1 S0.2.2.2.2) := by
    intro j7
    induction j7 with
    | zero => intro v2 v3 v4 S0 o5 o6 hf; exact gno hf
    | succ j7 ih7 =>
      intro v2 v3 v4 S0 o5 o6 hf
      rw [lX4_looseOf_7] at hf
      refine g_iload h dX4_looseOf_7 rfl ?_
      refine g_iload_n h dX4_looseOf_9 rfl ?_
      refine g_ic_gt h dX4_looseOf_10 rfl (fun c10 => ?_) (fun c10 => ?_)
      · replace hf := ifp_t c10 hf
        refine g_iload_n h dX4_looseOf_85 rfl ?_
        have er := Option.some.inj hf
        subst er
        exact g_ireturn h dX4_looseOf_86 rfl rfl ⟨Nat.zero_le _, Nat.zero_le _, rfl, rfl, rfl⟩
      · replace hf := ifp_f c10 hf
        refine g_iload h dX4_looseOf_13 rfl ?_
        refine g_sipush (v := 256) h dX4_looseOf_15 (by decide) ?_
        refine g_ic_ge h dX4_looseOf_18 rfl (fun c18 => ?_) (fun c18 => ?_)
        · replace hf := ifp_t c18 hf
          refine g_iload_n h dX4_looseOf_85 rfl ?_
          have er := Option.some.inj hf
          subst er
          exact g_ireturn h dX4_looseOf_86 rfl rfl ⟨Nat.zero_le _, Nat.zero_le _, rfl, rfl, rfl⟩
        · replace hf := ifp_f c18 hf
          refine g_iload h dX4_looseOf_21 rfl ?_
          obtain ⟨r23, q23, hf⟩ := gbind hf
          refine g_cSr h (qJ6_bitCount_0f7a4 q23) mJ6_bitCount_0f7a4 lkX4_84 dX4_looseOf_23 rfl rfl ⟨Nat.zero_le _, Nat.zero_le _⟩ ⟨by decide, by decide⟩ (Nat.le_of_ble_eq_true rfl) [] rfl rfl ?_
          refine g_istore (lv' := [some _, some _, some _, some _, some _, some _, _]) h dX4_looseOf_26 (by decide) rfl ?_
          refine g_iload h dX4_looseOf_28 rfl ?_
          refine g_iload_n h dX4_looseOf_30 rfl ?_
          refine g_iconst (v := (-1)) h dX4_looseOf_31 (by decide) ?_
          refine g_ixor h dX4_looseOf_32 ?_
          refine g_iand h dX4_looseOf_33 ?_
          refine g_if_ne h dX4_looseOf_34 rfl (fun c34 => ?_) (fun c34 => ?_)
          · replace hf := ifp_f c34 hf
            refine g_iinc (v := (v4 + 1)) (lv' := [some _, some _, some _, some _, some _, some _, _]) h dX4_looseOf_79 rfl rfl (by decide) rfl ?_
            refine g_goto h dX4_looseOf_82 rfl ?_
            exact ih7 _ _ _ _ _ _ hf
          · replace hf := ifp_t c34 hf
            refine g_iload h dX4_looseOf_37 rfl ?_
            refine g_iload_n h dX4_looseOf_39 rfl ?_
            refine g_ic_lt h dX4_looseOf_40 rfl (fun c40 => ?_) (fun c40 => ?_)
            · replace hf := ifp_t c40 hf
              refine g_iinc (v := (v4 + 1)) (lv' := [some _, some _, some _, some _, some _, some _, _]) h dX4_looseOf_79 rfl rfl (by decide) rfl ?_
              refine g_goto h dX4_looseOf_82 rfl ?_
              exact ih7 _ _ _ _ _ _ hf
            · replace hf := ifp_f c40 hf
              refine g_aload_n h dX4_looseOf_43 rfl ?_
              refine g_iload h dX4_looseOf_44 rfl ?_
              obtain ⟨r46, q46, hf⟩ := gbind hf
              refine g_cVw (ws' := wPd E (a0 0) (a0 1) (a0 2) (a0 3) (a0 4) r46.2.1 r46.2.2.1 r46.2.2.2.1 r46.2.2.2.2.1 r46.2.2.2.2.2) h (qX4_solve (a0 := a0) q46) mX4_solve lkX4_80 dX4_looseOf_46 rfl rfl ⟨Nat.zero_le _, Nat.zero_le _⟩ ⟨by decide, by decide⟩ (Nat.le_of_ble_eq_true rfl) [0, 1, 2, 3, 4] rfl rfl 0 rfl rfl mgX4_3 ?_
              refine g_ifb_eq h dX4_looseOf_49 rfl (fun c49 => ?_) (fun c49 => ?_)
              · replace hf := ifb_f c49 hf
                refine g_iinc (v := (v4 + 1)) (lv' := [some _, some _, some _, some _, some _, some _, _]) h dX4_looseOf_79 rfl rfl (by decide) rfl ?_
                refine g_goto h dX4_looseOf_82 rfl ?_
                exact ih7 _ _ _ _ _ _ hf
              · replace hf := ifb_t c49 hf
                refine g_iload_n h dX4_looseOf_52 rfl ?_
                refine g_iload h dX4_looseOf_53 rfl ?_
                refine g_iconst (v := (-1)) h dX4_looseOf_55 (by decide) ?_
                refine g_ixor h dX4_looseOf_56 ?_
                refine g_iand h dX4_looseOf_57 ?_
                refine g_istore (lv' := [some _, some _, some _, some _, some _, some _, some _]) h dX4_looseOf_58 (by decide) rfl ?_
                refine g_iload h dX4_looseOf_60 rfl ?_
                refine g_iload_n h dX4_looseOf_62 rfl ?_
                refine g_ic_le h dX4_looseOf_63 rfl (fun c63 => ?_) (fun c63 => ?_)
                · replace hf := ifp_t c63 hf
                  refine g_iload_n h dX4_looseOf_71 rfl ?_
                  refine g_iload h dX4_looseOf_72 rfl ?_
                  refine g_ior h dX4_looseOf_74 ?_
                  refine g_istore_n (lv' := [some _, some _, some _, some _, some _, some _, some _]) h dX4_looseOf_75 (by decide) rfl ?_
                  refine g_iload h dX4_looseOf_76 rfl ?_
                  refine g_istore_n (lv' := [some _, some _, some _, some _, some _, some _, some _]) h dX4_looseOf_78 (by decide) rfl ?_
                  refine g_iinc (v := (v4 + 1)) (lv' := [some _, some _, some _, some _, some _, some _, some _]) h dX4_looseOf_79 rfl rfl (by decide) rfl ?_
                  refine g_goto h dX4_looseOf_82 rfl ?_
                  exact ih7 _ _ _ _ _ _ hf
                · replace hf := ifp_f c63 hf
                  refine g_iload h dX4_looseOf_66 rfl ?_
                  refine g_goto h dX4_looseOf_68 rfl ?_
                  refine g_istore_n (lv' := [some _, some _, some _, some _, some _, some _, some _]) h dX4_looseOf_75 (by decide) rfl ?_
                  refine g_iload h dX4_looseOf_76 rfl ?_
                  refine g_istore_n (lv' := [some _, some _, some _, some _, some _, some _, some _]) h dX4_looseOf_78 (by decide) rfl ?_
                  refine g_iinc (v := (v4 + 1)) (lv' := [some _, some _, some _, some _, some _, some _, some _]) h dX4_looseOf_79 rfl rfl (by decide) rfl ?_
                  refine g_goto h dX4_looseOf_82 rfl ?_
                  exact ih7 _ _ _ _ _ _ hf
  refine g_iconst (v := 0) h dX4_looseOf_0 (by decide) ?_
  refine g_istore_n (lv' := [some _, some _, some _, _, _, _, _]) h dX4_looseOf_1 (by decide) rfl ?_
  refine g_iload_n h dX4_looseOf_2 rfl ?_
  refine g_istore_n (lv' := [some _, some _, some _, some _, _, _, _]) h dX4_looseOf_3 (by decide) rfl ?_
  refine g_iconst (v := 1) h dX4_looseOf_4 (by decide) ?_
  refine g_istore (lv' := [some _, some _, some _, some _, some _, _, _]) h dX4_looseOf_5 (by decide) rfl ?_
  exact loop7 _ _ _ _ _ _ _ hf
def lX4_fewestOf_26 (k11 : (Int32) → (Int64) → (Int64) → (Int32) → (sPd) → Option (Int32 × sPd)) (fu : Nat) (v1 : Int32) (v2 : Int32) : Nat → (Int32) → (Int64) → (Int64) → (Int32) → (Int32) → (sPd) → Option (Int32 × sPd)
  | 0, _, _, _, _, _, _ => none
  | j + 1, v3, v4, v6, v8, v9, S0 => (if v1 < v9 then (k11 v3 v4 v6 (v8 + 1) S0) else (if (256 : Int32) ≤ v9 then (k11 v3 v4 v6 (v8 + 1) S0) else ((fJ6_bitCount_0f7a4 v9).bind fun r42 => (if r42 = v8 then ((fX4_solve S0 v9).bind fun r53 => (if r53.1 = true then (if v3 = 0 then ((fX4_squares r53.2).bind fun r85 => ((fX4_below r53.2).bind fun r91 => ((lX4_fewestOf_26 k11 fu v1 v2 j) v9 r85 r91 v8 (v9 + 1) r53.2))) else ((fX4_squares r53.2).bind fun r64 => ((fX4_below r53.2).bind fun r68 => ((fX2_order r64 r68 v4 v6).bind fun r75 => (if 0 ≤ r75 then ((lX4_fewestOf_26 k11 fu v1 v2 j) v3 v4 v6 v8 (v9 + 1) r53.2) else ((fX4_squares r53.2).bind fun r85 => ((fX4_below r53.2).bind fun r91 => ((lX4_fewestOf_26 k11 fu v1 v2 j) v9 r85 r91 v8 (v9 + 1) r53.2)))))))) else ((lX4_fewestOf_26 k11 fu v1 v2 j) v3 v4 v6 v8 (v9 + 1) r53.2))) else ((lX4_fewestOf_26 k11 fu v1 v2 j) v3 v4 v6 v8 (v9 + 1) S0)))))
def lX4_fewestOf_11  (fu : Nat) (v1 : Int32) (v2 : Int32) : Nat → (Int32) → (Int64) → (Int64) → (Int32) → (sPd) → Option (Int32 × sPd)
  | 0, _, _, _, _, _ => none
  | j + 1, v3, v4, v6, v8, S0 => (if v2 < v8 then (some (v3, S0)) else (if (3 : Int32) < v8 then (some (v3, S0)) else (lX4_fewestOf_26 (lX4_fewestOf_11  fu v1 v2 j) fu v1 v2 fu v3 v4 v6 v8 (1 : Int32) S0)))
def fX4_fewestOf (fu : Nat) (S0 : sPd) (v1 : Int32) (v2 : Int32) : Option (Int32 × sPd) := (lX4_fewestOf_11  fu v1 v2 fu (0 : Int32) (0 : Int64) (1 : Int64) (1 : Int32) S0)
set_option maxHeartbeats 4000000 in
set_option maxRecDepth 100000 in
theorem qX4_fewestOf {l : Launch} {E : gE} {a0 : Nat → Nat} {fu : Nat} {S0 : sPd} {v1 : Int32} {v2 : Int32} {r : Int32 × sPd} (hf : fX4_fewestOf fu S0 v1 v2 = some r) : CtrF l yX4_fewestOf cX4_fewestOf 10 (some .int) (gR 3 72) E [.ref (a0 0), .int v1, .int v2] (wPd E (a0 0) (a0 1) (a0 2) (a0 3) (a0 4) S0.1 S0.2.1 S0.2.2.1 S0.2.2.2.1 S0.2.2.2.2) (some (.int r.1)) (wPd E (a0 0) (a0 1) (a0 2) (a0 3) (a0 4) r.2.1 r.2.2.1 r.2.2.2.1 r.2.2.2.2.1 r.2.2.2.2.2) := by
  refine ctr_of false (plainFor_of_name (by decide)) (Nat.le_of_ble_eq_true rfl) (fun q => by cases q) (fun Γ h => ?_)
  refine g_lv [some _, some _, some _, _, _, _, _, _, _, _] rfl ?_
  rw [fX4_fewestOf] at hf
  have loop11 : ∀ (j11 : Nat) (v3 : Int32) (v4 : Int64) (v6 : Int64) (v8 : Int32) (S0 : sPd) (o9 : Option Value), lX4_fewestOf_11  fu v1 v2 j11 v3 v4 v6 v8 S0 = some r → Γ 0 0 11 [some (.ref (a0 0)), some (.int v1), some (.int v2), some (.int v3), some (.long v4), none, some (.long v6), none, some (.int v8), o9] [] (wPd E (a0 0) (a0 1) (a0 2) (a0 3) (a0 4) S0.1 S0.2.1 S0.2.2.1 S0.2.2.2.1 S0.2.2.2.2) := by
    intro j11
    induction j11 with
    | zero => intro v3 v4 v6 v8 S0 o9 hf; exact gno hf
    | succ j11 ih11 =>
      intro v3 v4 v6 v8 S0 o9 hf
      rw [lX4_fewestOf_11] at hf
      have loop26 : ∀ (j26 : Nat) (v3 : Int32) (v4 : Int64) (v6 : Int64) (v8 : Int32) (v9 : Int32) (S0 : sPd) , lX4_fewestOf_26 (lX4_fewestOf_11  fu v1 v2 j11) fu v1 v2 j26 v3 v4 v6 v8 v9 S0 = some r → Γ 0 0 26 [some (.ref (a0 0)), some (.int v1), some (.int v2), some (.int v3), some (.long v4), none, some (.long v6), none, some (.int v8), some (.int v9)] [] (wPd E (a0 0) (a0 1) (a0 2) (a0 3) (a0 4) S0.1 S0.2.1 S0.2.2.1 S0.2.2.2.1 S0.2.2.2.2) := by
        intro j26
        induction j26 with
        | zero => intro v3 v4 v6 v8 v9 S0 hf; exact gno hf
        | succ j26 ih26 =>
          intro v3 v4 v6 v8 v9 S0 hf
          rw [lX4_fewestOf_26] at hf
          refine g_iload h dX4_fewestOf_26 rfl ?_
          refine g_iload_n h dX4_fewestOf_28 rfl ?_
          refine g_ic_gt h dX4_fewestOf_29 rfl (fun c29 => ?_) (fun c29 => ?_)
          · replace hf := ifp_t c29 hf
            refine g_iinc (v := (v8 + 1)) (lv' := [some _, some _, some _, some _, some _, none, some _, none, some _, some _]) h dX4_fewestOf_102 rfl rfl (by decide) rfl ?_
            refine g_goto h dX4_fewestOf_105 rfl ?_
            exact ih11 _ _ _ _ _ _ hf
          · replace hf := ifp_f c29 hf
            refine g_iload h dX4_fewestOf_32 rfl ?_
            refine g_sipush (v := 256) h dX4_fewestOf_34 (by decide) ?_
            refine g_ic_ge h dX4_fewestOf_37 rfl (fun c37 => ?_) (fun c37 => ?_)
            · replace hf := ifp_t c37 hf
              refine g_iinc (v := (v8 + 1)) (lv' := [some _, some _, some _, some _, some _, none, some _, none, some _, some _]) h dX4_fewestOf_102 rfl rfl (by decide) rfl ?_
              refine g_goto h dX4_fewestOf_105 rfl ?_
              exact ih11 _ _ _ _ _ _ hf
            · replace hf := ifp_f c37 hf
              refine g_iload h dX4_fewestOf_40 rfl ?_
              obtain ⟨r42, q42, hf⟩ := gbind hf
              refine g_cSr h (qJ6_bitCount_0f7a4 q42) mJ6_bitCount_0f7a4 lkX4_84 dX4_fewestOf_42 rfl rfl ⟨Nat.zero_le _, Nat.zero_le _⟩ ⟨by decide, by decide⟩ (Nat.le_of_ble_eq_true rfl) [] rfl rfl ?_
              refine g_iload h dX4_fewestOf_45 rfl ?_
              refine g_ic_ne h dX4_fewestOf_47 rfl (fun c47 => ?_) (fun c47 => ?_)
              · replace hf := ifp_f c47 hf
                refine g_iinc (v := (v9 + 1)) (lv' := [some _, some _, some _, some _, some _, none, some _, none, some _, some _]) h dX4_fewestOf_96 rfl rfl (by decide) rfl ?_
                refine g_goto h dX4_fewestOf_99 rfl ?_
                exact ih26 _ _ _ _ _ _ hf
              · replace hf := ifp_t c47 hf
                refine g_aload_n h dX4_fewestOf_50 rfl ?_
                refine g_iload h dX4_fewestOf_51 rfl ?_
                obtain ⟨r53, q53, hf⟩ := gbind hf
                refine g_cVw (ws' := wPd E (a0 0) (a0 1) (a0 2) (a0 3) (a0 4) r53.2.1 r53.2.2.1 r53.2.2.2.1 r53.2.2.2.2.1 r53.2.2.2.2.2) h (qX4_solve (a0 := a0) q53) mX4_solve lkX4_80 dX4_fewestOf_53 rfl rfl ⟨Nat.zero_le _, Nat.zero_le _⟩ ⟨by decide, by decide⟩ (Nat.le_of_ble_eq_true rfl) [0, 1, 2, 3, 4] rfl rfl 0 rfl rfl mgX4_3 ?_
                refine g_ifb_eq h dX4_fewestOf_56 rfl (fun c56 => ?_) (fun c56 => ?_)
                · replace hf := ifb_f c56 hf
                  refine g_iinc (v := (v9 + 1)) (lv' := [some _, some _, some _, some _, some _, none, some _, none, some _, some _]) h dX4_fewestOf_96 rfl rfl (by decide) rfl ?_
                  refine g_goto h dX4_fewestOf_99 rfl ?_
                  exact ih26 _ _ _ _ _ _ hf
                · replace hf := ifb_t c56 hf
                  refine g_iload_n h dX4_fewestOf_59 rfl ?_
                  refine g_if_eq h dX4_fewestOf_60 rfl (fun c60 => ?_) (fun c60 => ?_)
                  · replace hf := ifp_t c60 hf
                    refine g_iload h dX4_fewestOf_81 rfl ?_
                    refine g_istore_n (lv' := [some _, some _, some _, some _, some _, none, some _, none, some _, some _]) h dX4_fewestOf_83 (by decide) rfl ?_
                    refine g_aload_n h dX4_fewestOf_84 rfl ?_
                    obtain ⟨r85, q85, hf⟩ := gbind hf
                    refine g_cVr h (qX4_squares (a0 := a0) q85) mX4_squares lkX4_91 dX4_fewestOf_85 rfl rfl ⟨Nat.zero_le _, Nat.zero_le _⟩ ⟨by decide, by decide⟩ (Nat.le_of_ble_eq_true rfl) [0, 1, 2, 3, 4] rfl rfl 0 rfl rfl ?_
                    refine g_lstore (lv' := [some _, some _, some _, some _, some _, none, some _, none, some _, some _]) h dX4_fewestOf_88 (by decide) rfl ?_
                    refine g_aload_n h dX4_fewestOf_90 rfl ?_
                    obtain ⟨r91, q91, hf⟩ := gbind hf
                    refine g_cVr h (qX4_below (a0 := a0) q91) mX4_below lkX4_76 dX4_fewestOf_91 rfl rfl ⟨Nat.zero_le _, Nat.zero_le _⟩ ⟨by decide, by decide⟩ (Nat.le_of_ble_eq_true rfl) [0, 1, 2, 3, 4] rfl rfl 0 rfl rfl ?_
                    refine g_lstore (lv' := [some _, some _, some _, some _, some _, none, some _, none, some _, some _]) h dX4_fewestOf_94 (by decide) rfl ?_
                    refine g_iinc (v := (v9 + 1)) (lv' := [some _, some _, some _, some _, some _, none, some _, none, some _, some _]) h dX4_fewestOf_96 rfl rfl (by decide) rfl ?_
                    refine g_goto h dX4_fewestOf_99 rfl ?_
                    exact ih26 _ _ _ _ _ _ hf
                  · replace hf := ifp_f c60 hf
                    refine g_aload_n h dX4_fewestOf_63 rfl ?_
                    obtain ⟨r64, q64, hf⟩ := gbind hf
                    refine g_cVr h (qX4_squares (a0 := a0) q64) mX4_squares lkX4_91 dX4_fewestOf_64 rfl rfl ⟨Nat.zero_le _, Nat.zero_le _⟩ ⟨by decide, by decide⟩ (Nat.le_of_ble_eq_true rfl) [0, 1, 2, 3, 4] rfl rfl 0 rfl rfl ?_
                    refine g_aload_n h dX4_fewestOf_67 rfl ?_
                    obtain ⟨r68, q68, hf⟩ := gbind hf
                    refine g_cVr h (qX4_below (a0 := a0) q68) mX4_below lkX4_76 dX4_fewestOf_68 rfl rfl ⟨Nat.zero_le _, Nat.zero_le _⟩ ⟨by decide, by decide⟩ (Nat.le_of_ble_eq_true rfl) [0, 1, 2, 3, 4] rfl rfl 0 rfl rfl ?_
                    refine g_lload h dX4_fewestOf_71 rfl ?_
                    refine g_lload h dX4_fewestOf_73 rfl ?_
                    obtain ⟨r75, q75, hf⟩ := gbind hf
                    refine g_cSr h (qX2_order q75) mX2_order lkX4_94 dX4_fewestOf_75 rfl rfl ⟨Nat.zero_le _, Nat.zero_le _⟩ ⟨by decide, by decide⟩ (Nat.le_of_ble_eq_true rfl) [] rfl rfl ?_
                    refine g_if_ge h dX4_fewestOf_78 rfl (fun c78 => ?_) (fun c78 => ?_)
                    · replace hf := ifp_t c78 hf
                      refine g_iinc (v := (v9 + 1)) (lv' := [some _, some _, some _, some _, some _, none, some _, none, some _, some _]) h dX4_fewestOf_96 rfl rfl (by decide) rfl ?_
                      refine g_goto h dX4_fewestOf_99 rfl ?_
                      exact ih26 _ _ _ _ _ _ hf
                    · replace hf := ifp_f c78 hf
                      refine g_iload h dX4_fewestOf_81 rfl ?_
                      refine g_istore_n (lv' := [some _, some _, some _, some _, some _, none, some _, none, some _, some _]) h dX4_fewestOf_83 (by decide) rfl ?_
                      refine g_aload_n h dX4_fewestOf_84 rfl ?_
                      obtain ⟨r85, q85, hf⟩ := gbind hf
                      refine g_cVr h (qX4_squares (a0 := a0) q85) mX4_squares lkX4_91 dX4_fewestOf_85 rfl rfl ⟨Nat.zero_le _, Nat.zero_le _⟩ ⟨by decide, by decide⟩ (Nat.le_of_ble_eq_true rfl) [0, 1, 2, 3, 4] rfl rfl 0 rfl rfl ?_
                      refine g_lstore (lv' := [some _, some _, some _, some _, some _, none, some _, none, some _, some _]) h dX4_fewestOf_88 (by decide) rfl ?_
                      refine g_aload_n h dX4_fewestOf_90 rfl ?_
                      obtain ⟨r91, q91, hf⟩ := gbind hf
                      refine g_cVr h (qX4_below (a0 := a0) q91) mX4_below lkX4_76 dX4_fewestOf_91 rfl rfl ⟨Nat.zero_le _, Nat.zero_le _⟩ ⟨by decide, by decide⟩ (Nat.le_of_ble_eq_true rfl) [0, 1, 2, 3, 4] rfl rfl 0 rfl rfl ?_
                      refine g_lstore (lv' := [some _, some _, some _, some _, some _, none, some _, none, some _, some _]) h dX4_fewestOf_94 (by decide) rfl ?_
                      refine g_iinc (v := (v9 + 1)) (lv' := [some _, some _, some _, some _, some _, none, some _, none, some _, some _]) h dX4_fewestOf_96 rfl rfl (by decide) rfl ?_
                      refine g_goto h dX4_fewestOf_99 rfl ?_
                      exact ih26 _ _ _ _ _ _ hf
      refine g_iload h dX4_fewestOf_11 rfl ?_
      refine g_iload_n h dX4_fewestOf_13 rfl ?_
      refine g_ic_gt h dX4_fewestOf_14 rfl (fun c14 => ?_) (fun c14 => ?_)
      · replace hf := ifp_t c14 hf
        refine g_iload_n h dX4_fewestOf_108 rfl ?_
        have er := Option.some.inj hf
        subst er
        exact g_ireturn h dX4_fewestOf_109 rfl rfl ⟨Nat.zero_le _, Nat.zero_le _, rfl, rfl, rfl⟩
      · replace hf := ifp_f c14 hf
        refine g_iload h dX4_fewestOf_17 rfl ?_
        refine g_iconst (v := 3) h dX4_fewestOf_19 (by decide) ?_
        refine g_ic_gt h dX4_fewestOf_20 rfl (fun c20 => ?_) (fun c20 => ?_)
        · replace hf := ifp_t c20 hf
          refine g_iload_n h dX4_fewestOf_108 rfl ?_
          have er := Option.some.inj hf
          subst er
          exact g_ireturn h dX4_fewestOf_109 rfl rfl ⟨Nat.zero_le _, Nat.zero_le _, rfl, rfl, rfl⟩
        · replace hf := ifp_f c20 hf
          refine g_iconst (v := 1) h dX4_fewestOf_23 (by decide) ?_
          refine g_istore (lv' := [some _, some _, some _, some _, some _, none, some _, none, some _, some _]) h dX4_fewestOf_24 (by decide) rfl ?_
          exact loop26 _ _ _ _ _ _ _  hf
  refine g_iconst (v := 0) h dX4_fewestOf_0 (by decide) ?_
  refine g_istore_n (lv' := [some _, some _, some _, some _, _, _, _, _, _, _]) h dX4_fewestOf_1 (by decide) rfl ?_
  refine g_lconst (v := 0) h dX4_fewestOf_2 (by decide) ?_
  refine g_lstore (lv' := [some _, some _, some _, some _, some _, none, _, _, _, _]) h dX4_fewestOf_3 (by decide) rfl ?_
  refine g_lconst (v := 1) h dX4_fewestOf_5 (by decide) ?_
  refine g_lstore (lv' := [some _, some _, some _, some _, some _, none, some _, none, _, _]) h dX4_fewestOf_6 (by decide) rfl ?_
  refine g_iconst (v := 1) h dX4_fewestOf_8 (by decide) ?_
  refine g_istore (lv' := [some _, some _, some _, some _, some _, none, some _, none, some _, _]) h dX4_fewestOf_9 (by decide) rfl ?_
  exact loop11 _ _ _ _ _ _ _ hf
def lX6_take_33  (fu : Nat) (S1 : sPd) (v1 : Int32) : Nat → (Int32) → (sSz) → Option (sSz)
  | 0, _, _ => none
  | j + 1, v3, S0 => (if (8 : Int32) ≤ v3 then (some S0) else ((fX6_has S0 v3).bind fun r46 => (if r46 = true then ((fX6_placeOf S0 v3).bind fun r55 => ((fX4_above S1 r55).bind fun r58 => ((gIx v3 8).bind fun k65 => ((some (st_X6_3 S0 (vp_updL S0.2.2.2.1 k65 r58))).bind fun S0x65 => ((lX6_take_33  fu S1 v1 j) (v3 + 1) S0x65))))) else ((gIx v3 8).bind fun k65 => ((some (st_X6_3 S0 (vp_updL S0.2.2.2.1 k65 (0 : Int64)))).bind fun S0x65 => ((lX6_take_33  fu S1 v1 j) (v3 + 1) S0x65))))))
def fX6_take (fu : Nat) (S0 : sSz) (S1 : sPd) (v1 : Int32) : Option (sSz) := ((some (st_X6_0 S0 true)).bind fun S0x2 => ((some (st_X6_1 S0x2 false)).bind fun S0x7 => ((gIx v1 256).bind fun k12 => ((some (st_X6_2 S0x7 k12)).bind fun S0x12 => ((fX4_below S1).bind fun r17 => ((some (st_X6_4 S0x12 r17)).bind fun S0x20 => ((fX4_squares S1).bind fun r25 => ((some (st_X6_5 S0x20 r25)).bind fun S0x28 => (lX6_take_33  fu S1 v1 fu (0 : Int32) S0x28)))))))))
set_option maxHeartbeats 4000000 in
set_option maxRecDepth 100000 in
theorem qX6_take {l : Launch} {E : gE} {a0 : Nat → Nat} {a1 : Nat → Nat} {fu : Nat} {S0 : sSz} {S1 : sPd} {v1 : Int32} {r : sSz} (hf : fX6_take fu S0 S1 v1 = some r) : CtrF l yX6_take cX6_take 4 none (gR 2 42) E [.ref (a0 0), .int v1, .ref (a1 0)] (wSz E (a0 0) (a0 1) S0.1 S0.2.1 S0.2.2.1 S0.2.2.2.1 S0.2.2.2.2.1 S0.2.2.2.2.2 ++ wPd E (a1 0) (a1 1) (a1 2) (a1 3) (a1 4) S1.1 S1.2.1 S1.2.2.1 S1.2.2.2.1 S1.2.2.2.2) none (wSz E (a0 0) (a0 1) r.1 r.2.1 r.2.2.1 r.2.2.2.1 r.2.2.2.2.1 r.2.2.2.2.2 ++ wPd E (a1 0) (a1 1) (a1 2) (a1 3) (a1 4) S1.1 S1.2.1 S1.2.2.1 S1.2.2.2.1 S1.2.2.2.2) := by
  refine ctr_of false (plainFor_of_name (by decide)) (Nat.le_of_ble_eq_true rfl) (fun q => by cases q) (fun Γ h => ?_)
  refine g_lv [some _, some _, some _, _] rfl ?_
  rw [fX6_take] at hf
  have loop33 : ∀ (j33 : Nat) (v3 : Int32) (S0 : sSz) , lX6_take_33  fu S1 v1 j33 v3 S0 = some r → Γ 0 0 33 [some (.ref (a0 0)), some (.int v1), some (.ref (a1 0)), some (.int v3)] [] (wSz E (a0 0) (a0 1) S0.1 S0.2.1 S0.2.2.1 S0.2.2.2.1 S0.2.2.2.2.1 S0.2.2.2.2.2 ++ wPd E (a1 0) (a1 1) (a1 2) (a1 3) (a1 4) S1.1 S1.2.1 S1.2.2.1 S1.2.2.2.1 S1.2.2.2.2) := by
    intro j33
    induction j33 with
    | zero => intro v3 S0 hf; exact gno hf
    | succ j33 ih33 =>
      intro v3 S0 hf
      rw [lX6_take_33] at hf
      refine g_iload_n h dX6_take_33 rfl ?_
      refine g_bipush (v := 8) h dX6_take_34 (by decide) ?_
      refine g_ic_ge h dX6_take_36 rfl (fun c36 => ?_) (fun c36 => ?_)
      · replace hf := ifp_t c36 hf
        have er := Option.some.inj hf
        subst er
        exact g_return h dX6_take_72 rfl ⟨Nat.zero_le _, Nat.zero_le _, rfl, rfl, rfl⟩
      · replace hf := ifp_f c36 hf
        refine g_aload_n h dX6_take_39 rfl ?_
        refine g_get h flX6_9 dX6_take_40 0 rfl rfl ?_
        refine g_iload_n h dX6_take_43 rfl ?_
        refine g_aload_n h dX6_take_44 rfl ?_
        refine g_iload_n h dX6_take_45 rfl ?_
        obtain ⟨r46, q46, hf⟩ := gbind hf
        refine g_cVr h (qX6_has (a0 := a0) q46) mX6_has lkX6_40 dX6_take_46 rfl rfl ⟨Nat.zero_le _, Nat.zero_le _⟩ ⟨by decide, by decide⟩ (Nat.le_of_ble_eq_true rfl) [0, 1] rfl rfl 0 rfl rfl ?_
        refine g_ifb_eq h dX6_take_49 rfl (fun c49 => ?_) (fun c49 => ?_)
        · replace hf := ifb_f c49 hf
          refine g_lconst (v := 0) h dX6_take_64 (by decide) ?_
          obtain ⟨k65, q65, hf⟩ := gbind hf
          have e65 := (gIx_s q65).1
          have b65 := (gIx_s q65).2
          obtain ⟨S0x65, w65, hf⟩ := gbind hf
          refine g_last (ws' := wSz E (a0 0) (a0 1) S0x65.1 S0x65.2.1 S0x65.2.2.1 S0x65.2.2.2.1 S0x65.2.2.2.2.1 S0x65.2.2.2.2.2 ++ wPd E (a1 0) (a1 1) (a1 2) (a1 3) (a1 4) S1.1 S1.2.1 S1.2.2.1 S1.2.2.2.1 S1.2.2.2.2) h dX6_take_65 1 k65 rfl e65 b65 (by decide) (by cases w65; rfl) ?_
          refine g_iinc (v := (v3 + 1)) (lv' := [some _, some _, some _, some _]) h dX6_take_66 rfl rfl (by decide) rfl ?_
          refine g_goto h dX6_take_69 rfl ?_
          exact ih33 _ _ hf
        · replace hf := ifb_t c49 hf
          refine g_aload_n h dX6_take_52 rfl ?_
          refine g_aload_n h dX6_take_53 rfl ?_
          refine g_iload_n h dX6_take_54 rfl ?_
          obtain ⟨r55, q55, hf⟩ := gbind hf
          refine g_cVr h (qX6_placeOf (a0 := a0) q55) mX6_placeOf lkX6_44 dX6_take_55 rfl rfl ⟨Nat.zero_le _, Nat.zero_le _⟩ ⟨by decide, by decide⟩ (Nat.le_of_ble_eq_true rfl) [0, 1] rfl rfl 0 rfl rfl ?_
          obtain ⟨r58, q58, hf⟩ := gbind hf
          refine g_cVr h (qX4_above (a0 := a1) q58) mX4_above lkX6_48 dX6_take_58 rfl rfl ⟨Nat.zero_le _, Nat.zero_le _⟩ ⟨by decide, by decide⟩ (Nat.le_of_ble_eq_true rfl) [2, 3, 4, 5, 6] rfl rfl 2 rfl rfl ?_
          refine g_goto h dX6_take_61 rfl ?_
          obtain ⟨k65, q65, hf⟩ := gbind hf
          have e65 := (gIx_s q65).1
          have b65 := (gIx_s q65).2
          obtain ⟨S0x65, w65, hf⟩ := gbind hf
          refine g_last (ws' := wSz E (a0 0) (a0 1) S0x65.1 S0x65.2.1 S0x65.2.2.1 S0x65.2.2.2.1 S0x65.2.2.2.2.1 S0x65.2.2.2.2.2 ++ wPd E (a1 0) (a1 1) (a1 2) (a1 3) (a1 4) S1.1 S1.2.1 S1.2.2.1 S1.2.2.2.1 S1.2.2.2.2) h dX6_take_65 1 k65 rfl e65 b65 (by decide) (by cases w65; rfl) ?_
          refine g_iinc (v := (v3 + 1)) (lv' := [some _, some _, some _, some _]) h dX6_take_66 rfl rfl (by decide) rfl ?_
          refine g_goto h dX6_take_69 rfl ?_
          exact ih33 _ _ hf
  refine g_aload_n h dX6_take_0 rfl ?_
  refine g_iconst (v := 1) h dX6_take_1 (by decide) ?_
  obtain ⟨S0x2, q2, hf⟩ := gbind hf
  refine g_put (ws' := wSz E (a0 0) (a0 1) S0x2.1 S0x2.2.1 S0x2.2.2.1 S0x2.2.2.2.1 S0x2.2.2.2.2.1 S0x2.2.2.2.2.2 ++ wPd E (a1 0) (a1 1) (a1 2) (a1 3) (a1 4) S1.1 S1.2.1 S1.2.2.1 S1.2.2.2.1 S1.2.2.2.2) (ty := .boolean) h flX6_19 gftX6 rfl (by decide +kernel) dX6_take_2 0 rfl rfl rfl (Nat.le_of_ble_eq_true rfl) (by cases q2; rfl) ?_
  refine g_aload_n h dX6_take_5 rfl ?_
  refine g_iconst (v := 0) h dX6_take_6 (by decide) ?_
  obtain ⟨S0x7, q7, hf⟩ := gbind hf
  refine g_put (ws' := wSz E (a0 0) (a0 1) S0x7.1 S0x7.2.1 S0x7.2.2.1 S0x7.2.2.2.1 S0x7.2.2.2.2.1 S0x7.2.2.2.2.2 ++ wPd E (a1 0) (a1 1) (a1 2) (a1 3) (a1 4) S1.1 S1.2.1 S1.2.2.1 S1.2.2.2.1 S1.2.2.2.2) (ty := .boolean) h flX6_23 gftX6 rfl (by decide +kernel) dX6_take_7 0 rfl rfl rfl (Nat.le_of_ble_eq_true rfl) (by cases q7; rfl) ?_
  refine g_aload_n h dX6_take_10 rfl ?_
  refine g_iload_n h dX6_take_11 rfl ?_
  obtain ⟨k12, z12, hf⟩ := gbind hf
  refine g_topi (nI k12) (gIx_s z12).1 ?_
  obtain ⟨S0x12, q12, hf⟩ := gbind hf
  refine g_put (ws' := wSz E (a0 0) (a0 1) S0x12.1 S0x12.2.1 S0x12.2.2.1 S0x12.2.2.2.1 S0x12.2.2.2.2.1 S0x12.2.2.2.2.2 ++ wPd E (a1 0) (a1 1) (a1 2) (a1 3) (a1 4) S1.1 S1.2.1 S1.2.2.1 S1.2.2.2.1 S1.2.2.2.2) (ty := .int) h flX6_26 gftX6 rfl (by decide +kernel) dX6_take_12 0 rfl rfl rfl (Nat.le_of_ble_eq_true rfl) (by cases q12; rfl) ?_
  refine g_aload_n h dX6_take_15 rfl ?_
  refine g_aload_n h dX6_take_16 rfl ?_
  obtain ⟨r17, q17, hf⟩ := gbind hf
  refine g_cVr h (qX4_below (a0 := a1) q17) mX4_below lkX6_30 dX6_take_17 rfl rfl ⟨Nat.zero_le _, Nat.zero_le _⟩ ⟨by decide, by decide⟩ (Nat.le_of_ble_eq_true rfl) [2, 3, 4, 5, 6] rfl rfl 2 rfl rfl ?_
  obtain ⟨S0x20, q20, hf⟩ := gbind hf
  refine g_put (ws' := wSz E (a0 0) (a0 1) S0x20.1 S0x20.2.1 S0x20.2.2.1 S0x20.2.2.2.1 S0x20.2.2.2.2.1 S0x20.2.2.2.2.2 ++ wPd E (a1 0) (a1 1) (a1 2) (a1 3) (a1 4) S1.1 S1.2.1 S1.2.2.1 S1.2.2.2.1 S1.2.2.2.2) (ty := .long) h flX6_15 gftX6 rfl (by decide +kernel) dX6_take_20 0 rfl rfl rfl (Nat.le_of_ble_eq_true rfl) (by cases q20; rfl) ?_
  refine g_aload_n h dX6_take_23 rfl ?_
  refine g_aload_n h dX6_take_24 rfl ?_
  obtain ⟨r25, q25, hf⟩ := gbind hf
  refine g_cVr h (qX4_squares (a0 := a1) q25) mX4_squares lkX6_35 dX6_take_25 rfl rfl ⟨Nat.zero_le _, Nat.zero_le _⟩ ⟨by decide, by decide⟩ (Nat.le_of_ble_eq_true rfl) [2, 3, 4, 5, 6] rfl rfl 2 rfl rfl ?_
  obtain ⟨S0x28, q28, hf⟩ := gbind hf
  refine g_put (ws' := wSz E (a0 0) (a0 1) S0x28.1 S0x28.2.1 S0x28.2.2.1 S0x28.2.2.2.1 S0x28.2.2.2.2.1 S0x28.2.2.2.2.2 ++ wPd E (a1 0) (a1 1) (a1 2) (a1 3) (a1 4) S1.1 S1.2.1 S1.2.2.1 S1.2.2.2.1 S1.2.2.2.2) (ty := .long) h flX6_38 gftX6 rfl (by decide +kernel) dX6_take_28 0 rfl rfl rfl (Nat.le_of_ble_eq_true rfl) (by cases q28; rfl) ?_
  refine g_iconst (v := 0) h dX6_take_31 (by decide) ?_
  refine g_istore_n (lv' := [some _, some _, some _, some _]) h dX6_take_32 (by decide) rfl ?_
  exact loop33 _ _ _  hf
def lX1_tryOut_26  (fu : Nat) (v1 : Int32) (v2 : Int32) (v3 : Int32) (v4 : Int32) : Nat → (Int32) → (Int32) → (Int64) → (Int32) → (sMs) → Option (sMs)
  | 0, _, _, _, _, _ => none
  | j + 1, v5, v6, v7, v9, S0 => (if S0.2.2.1 ≤ v9 then ((some (st_X1_4 S0 v7)).bind fun S0x105 => ((some (st_X1_5 S0x105 ((((((10000 : Int32) * (v1 + (1 : Int32))) + ((1000 : Int32) * (v2 + (3 : Int32)))) + ((10 : Int32) * (v3 + (1 : Int32)))) + (v4 + (3 : Int32))).toInt64))).bind fun S0x137 => (some S0x137))) else ((gIx v9 36).bind fun k41 => ((gIx (v5 + v9) 288).bind fun k53 => ((gIx (v6 + v9) 288).bind fun k68 => ((fJ9_abs_067f4 (((S0.1 k41) + ((v2.toInt64) * (S0.2.1 k53))) + ((v4.toInt64) * (S0.2.1 k68)))).bind fun r71 => (if r71 < S0.2.2.2.2.1 then ((fJ9_max_f86c9 v7 r71).bind fun r91 => ((lX1_tryOut_26  fu v1 v2 v3 v4 j) v5 v6 r91 (v9 + 1) S0)) else (some S0)))))))
def fX1_tryOut (fu : Nat) (S0 : sMs) (v1 : Int32) (v2 : Int32) (v3 : Int32) (v4 : Int32) : Option (sMs) := ((fJ9_max_7cf53 (0 : Int32) v1).bind fun r2 => ((fJ9_max_7cf53 (0 : Int32) v3).bind fun r12 => (lX1_tryOut_26  fu v1 v2 v3 v4 fu (r2 * (36 : Int32)) (r12 * (36 : Int32)) (0 : Int64) (0 : Int32) S0)))
set_option maxHeartbeats 4000000 in
set_option maxRecDepth 100000 in
theorem qX1_tryOut {l : Launch} {E : gE} {a0 : Nat → Nat} {fu : Nat} {S0 : sMs} {v1 : Int32} {v2 : Int32} {v3 : Int32} {v4 : Int32} {r : sMs} (hf : fX1_tryOut fu S0 v1 v2 v3 v4 = some r) : CtrF l yX1_tryOut cX1_tryOut 12 none (gR 1 23) E [.ref (a0 0), .int v1, .int v2, .int v3, .int v4] (wMs E (a0 0) (a0 1) (a0 2) S0.1 S0.2.1 S0.2.2.1 S0.2.2.2.1 S0.2.2.2.2.1 S0.2.2.2.2.2) none (wMs E (a0 0) (a0 1) (a0 2) r.1 r.2.1 r.2.2.1 r.2.2.2.1 r.2.2.2.2.1 r.2.2.2.2.2) := by
  refine ctr_of false (plainFor_of_name (by decide)) (Nat.le_of_ble_eq_true rfl) (fun q => by cases q) (fun Γ h => ?_)
  refine g_lv [some _, some _, some _, some _, some _, _, _, _, _, _, _, _] rfl ?_
  rw [fX1_tryOut] at hf
  have loop26 : ∀ (j26 : Nat) (v5 : Int32) (v6 : Int32) (v7 : Int64) (v9 : Int32) (S0 : sMs) (o10 : Option Value) (o11 : Option Value), lX1_tryOut_26  fu v1 v2 v3 v4 j26 v5 v6 v7 v9 S0 = some r → Γ 0 0 26 [some (.ref (a0 0)), some (.int v1), some (.int v2), some (.int v3), some (.int v4), some (.int v5), some (.int v6), some (.long v7), none, some (.int v9), o10, o11] [] (wMs E (a0 0) (a0 1) (a0 2) S0.1 S0.2.1 S0.2.2.1 S0.2.2.2.1 S0.2.2.2.2.1 S0.2.2.2.2.2) := by
    intro j26
    induction j26 with
    | zero => intro v5 v6 v7 v9 S0 o10 o11 hf; exact gno hf
    | succ j26 ih26 =>
      intro v5 v6 v7 v9 S0 o10 o11 hf
      rw [lX1_tryOut_26] at hf
      refine g_iload h dX1_tryOut_26 rfl ?_
      refine g_aload_n h dX1_tryOut_28 rfl ?_
      refine g_get h flX1_18 dX1_tryOut_29 0 rfl rfl ?_
      refine g_ic_ge h dX1_tryOut_32 rfl (fun c32 => ?_) (fun c32 => ?_)
      · replace hf := ifp_t c32 hf
        refine g_aload_n h dX1_tryOut_102 rfl ?_
        refine g_lload h dX1_tryOut_103 rfl ?_
        obtain ⟨S0x105, q105, hf⟩ := gbind hf
        refine g_put (ws' := wMs E (a0 0) (a0 1) (a0 2) S0x105.1 S0x105.2.1 S0x105.2.2.1 S0x105.2.2.2.1 S0x105.2.2.2.2.1 S0x105.2.2.2.2.2) (ty := .long) h flX1_70 gftX1 rfl (by decide +kernel) dX1_tryOut_105 0 rfl rfl rfl (Nat.le_of_ble_eq_true rfl) (by cases q105; rfl) ?_
        refine g_aload_n h dX1_tryOut_108 rfl ?_
        refine g_sipush (v := 10000) h dX1_tryOut_109 (by decide) ?_
        refine g_iload_n h dX1_tryOut_112 rfl ?_
        refine g_iconst (v := 1) h dX1_tryOut_113 (by decide) ?_
        refine g_iadd h dX1_tryOut_114 ?_
        refine g_imul h dX1_tryOut_115 ?_
        refine g_sipush (v := 1000) h dX1_tryOut_116 (by decide) ?_
        refine g_iload_n h dX1_tryOut_119 rfl ?_
        refine g_iconst (v := 3) h dX1_tryOut_120 (by decide) ?_
        refine g_iadd h dX1_tryOut_121 ?_
        refine g_imul h dX1_tryOut_122 ?_
        refine g_iadd h dX1_tryOut_123 ?_
        refine g_bipush (v := 10) h dX1_tryOut_124 (by decide) ?_
        refine g_iload_n h dX1_tryOut_126 rfl ?_
        refine g_iconst (v := 1) h dX1_tryOut_127 (by decide) ?_
        refine g_iadd h dX1_tryOut_128 ?_
        refine g_imul h dX1_tryOut_129 ?_
        refine g_iadd h dX1_tryOut_130 ?_
        refine g_iload h dX1_tryOut_131 rfl ?_
        refine g_iconst (v := 3) h dX1_tryOut_133 (by decide) ?_
        refine g_iadd h dX1_tryOut_134 ?_
        refine g_iadd h dX1_tryOut_135 ?_
        refine g_i2l h dX1_tryOut_136 ?_
        obtain ⟨S0x137, q137, hf⟩ := gbind hf
        refine g_put (ws' := wMs E (a0 0) (a0 1) (a0 2) S0x137.1 S0x137.2.1 S0x137.2.2.1 S0x137.2.2.2.1 S0x137.2.2.2.2.1 S0x137.2.2.2.2.2) (ty := .long) h flX1_82 gftX1 rfl (by decide +kernel) dX1_tryOut_137 0 rfl rfl rfl (Nat.le_of_ble_eq_true rfl) (by cases q137; rfl) ?_
        have er := Option.some.inj hf
        subst er
        exact g_return h dX1_tryOut_140 rfl ⟨Nat.zero_le _, Nat.zero_le _, rfl, rfl, rfl⟩
      · replace hf := ifp_f c32 hf
        refine g_aload_n h dX1_tryOut_35 rfl ?_
        refine g_get h flX1_9 dX1_tryOut_36 0 rfl rfl ?_
        refine g_iload h dX1_tryOut_39 rfl ?_
        obtain ⟨k41, q41, hf⟩ := gbind hf
        have e41 := (gIx_s q41).1
        have b41 := (gIx_s q41).2
        refine g_lald h dX1_tryOut_41 1 k41 rfl e41 b41 (by decide) ?_
        refine g_iload_n h dX1_tryOut_42 rfl ?_
        refine g_i2l h dX1_tryOut_43 ?_
        refine g_aload_n h dX1_tryOut_44 rfl ?_
        refine g_get h flX1_15 dX1_tryOut_45 0 rfl rfl ?_
        refine g_iload h dX1_tryOut_48 rfl ?_
        refine g_iload h dX1_tryOut_50 rfl ?_
        refine g_iadd h dX1_tryOut_52 ?_
        obtain ⟨k53, q53, hf⟩ := gbind hf
        have e53 := (gIx_s q53).1
        have b53 := (gIx_s q53).2
        refine g_lald h dX1_tryOut_53 2 k53 rfl e53 b53 (by decide) ?_
        refine g_lmul h dX1_tryOut_54 ?_
        refine g_ladd h dX1_tryOut_55 ?_
        refine g_iload h dX1_tryOut_56 rfl ?_
        refine g_i2l h dX1_tryOut_58 ?_
        refine g_aload_n h dX1_tryOut_59 rfl ?_
        refine g_get h flX1_15 dX1_tryOut_60 0 rfl rfl ?_
        refine g_iload h dX1_tryOut_63 rfl ?_
        refine g_iload h dX1_tryOut_65 rfl ?_
        refine g_iadd h dX1_tryOut_67 ?_
        obtain ⟨k68, q68, hf⟩ := gbind hf
        have e68 := (gIx_s q68).1
        have b68 := (gIx_s q68).2
        refine g_lald h dX1_tryOut_68 2 k68 rfl e68 b68 (by decide) ?_
        refine g_lmul h dX1_tryOut_69 ?_
        refine g_ladd h dX1_tryOut_70 ?_
        obtain ⟨r71, q71, hf⟩ := gbind hf
        refine g_cSr h (qJ9_abs_067f4 q71) mJ9_abs_067f4 lkX1_88 dX1_tryOut_71 rfl rfl ⟨Nat.zero_le _, Nat.zero_le _⟩ ⟨by decide, by decide⟩ (Nat.le_of_ble_eq_true rfl) [] rfl rfl ?_
        refine g_lstore (lv' := [some _, some _, some _, some _, some _, some _, some _, some _, none, some _, some _, none]) h dX1_tryOut_74 (by decide) rfl ?_
        refine g_lload h dX1_tryOut_76 rfl ?_
        refine g_aload_n h dX1_tryOut_78 rfl ?_
        refine g_get h flX1_70 dX1_tryOut_79 0 rfl rfl ?_
        refine g_lcmp h dX1_tryOut_82 ?_
        refine g_lif_lt h dX1_tryOut_83 rfl (fun c83 => ?_) (fun c83 => ?_)
        · replace hf := ifp_t c83 hf
          refine g_lload h dX1_tryOut_87 rfl ?_
          refine g_lload h dX1_tryOut_89 rfl ?_
          obtain ⟨r91, q91, hf⟩ := gbind hf
          refine g_cSr h (qJ9_max_f86c9 q91) mJ9_max_f86c9 lkX1_92 dX1_tryOut_91 rfl rfl ⟨Nat.zero_le _, Nat.zero_le _⟩ ⟨by decide, by decide⟩ (Nat.le_of_ble_eq_true rfl) [] rfl rfl ?_
          refine g_lstore (lv' := [some _, some _, some _, some _, some _, some _, some _, some _, none, some _, some _, none]) h dX1_tryOut_94 (by decide) rfl ?_
          refine g_iinc (v := (v9 + 1)) (lv' := [some _, some _, some _, some _, some _, some _, some _, some _, none, some _, some _, none]) h dX1_tryOut_96 rfl rfl (by decide) rfl ?_
          refine g_goto h dX1_tryOut_99 rfl ?_
          exact ih26 _ _ _ _ _ _ _ hf
        · replace hf := ifp_f c83 hf
          have er := Option.some.inj hf
          subst er
          exact g_return h dX1_tryOut_86 rfl ⟨Nat.zero_le _, Nat.zero_le _, rfl, rfl, rfl⟩
  refine g_iconst (v := 0) h dX1_tryOut_0 (by decide) ?_
  refine g_iload_n h dX1_tryOut_1 rfl ?_
  obtain ⟨r2, q2, hf⟩ := gbind hf
  refine g_cSr h (qJ9_max_7cf53 q2) mJ9_max_7cf53 lkX1_85 dX1_tryOut_2 rfl rfl ⟨Nat.zero_le _, Nat.zero_le _⟩ ⟨by decide, by decide⟩ (Nat.le_of_ble_eq_true rfl) [] rfl rfl ?_
  refine g_bipush (v := 36) h dX1_tryOut_5 (by decide) ?_
  refine g_imul h dX1_tryOut_7 ?_
  refine g_istore (lv' := [some _, some _, some _, some _, some _, some _, _, _, _, _, _, _]) h dX1_tryOut_8 (by decide) rfl ?_
  refine g_iconst (v := 0) h dX1_tryOut_10 (by decide) ?_
  refine g_iload_n h dX1_tryOut_11 rfl ?_
  obtain ⟨r12, q12, hf⟩ := gbind hf
  refine g_cSr h (qJ9_max_7cf53 q12) mJ9_max_7cf53 lkX1_85 dX1_tryOut_12 rfl rfl ⟨Nat.zero_le _, Nat.zero_le _⟩ ⟨by decide, by decide⟩ (Nat.le_of_ble_eq_true rfl) [] rfl rfl ?_
  refine g_bipush (v := 36) h dX1_tryOut_15 (by decide) ?_
  refine g_imul h dX1_tryOut_17 ?_
  refine g_istore (lv' := [some _, some _, some _, some _, some _, some _, some _, _, _, _, _, _]) h dX1_tryOut_18 (by decide) rfl ?_
  refine g_lconst (v := 0) h dX1_tryOut_20 (by decide) ?_
  refine g_lstore (lv' := [some _, some _, some _, some _, some _, some _, some _, some _, none, _, _, _]) h dX1_tryOut_21 (by decide) rfl ?_
  refine g_iconst (v := 0) h dX1_tryOut_23 (by decide) ?_
  refine g_istore (lv' := [some _, some _, some _, some _, some _, some _, some _, some _, none, some _, _, _]) h dX1_tryOut_24 (by decide) rfl ?_
  exact loop26 _ _ _ _ _ _ _ _ hf
def lX1_trySecond_16 (k4 : (Int32) → (sMs) → Option (sMs)) (fu : Nat) (v1 : Int32) (v2 : Int32) : Nat → (Int32) → (Int32) → (sMs) → Option (sMs)
  | 0, _, _, _ => none
  | j + 1, v3, v4, S0 => (if (3 : Int32) < v4 then (k4 (v3 + 1) S0) else (if v4 = 0 then ((lX1_trySecond_16 k4 fu v1 v2 j) v3 (v4 + 1) S0) else ((fX1_tryOut fu S0 v1 v2 v3 v4).bind fun r33 => ((lX1_trySecond_16 k4 fu v1 v2 j) v3 (v4 + 1) r33))))
def lX1_trySecond_4  (fu : Nat) (v1 : Int32) (v2 : Int32) : Nat → (Int32) → (sMs) → Option (sMs)
  | 0, _, _ => none
  | j + 1, v3, S0 => (if S0.2.2.2.1 ≤ v3 then (some S0) else (lX1_trySecond_16 (lX1_trySecond_4  fu v1 v2 j) fu v1 v2 fu v3 (-3 : Int32) S0))
def fX1_trySecond (fu : Nat) (S0 : sMs) (v1 : Int32) (v2 : Int32) : Option (sMs) := (lX1_trySecond_4  fu v1 v2 fu (v1 + (1 : Int32)) S0)
set_option maxRecDepth 100000 in
theorem mgX1_4 {E : gE} {S0 : sMs} {n0 : sMs} {a0 : Nat → Nat} : gmerge [0, 1, 2] (wMs E (a0 0) (a0 1) (a0 2) n0.1 n0.2.1 n0.2.2.1 n0.2.2.2.1 n0.2.2.2.2.1 n0.2.2.2.2.2) (wMs E (a0 0) (a0 1) (a0 2) S0.1 S0.2.1 S0.2.2.1 S0.2.2.2.1 S0.2.2.2.2.1 S0.2.2.2.2.2) = wMs E (a0 0) (a0 1) (a0 2) n0.1 n0.2.1 n0.2.2.1 n0.2.2.2.1 n0.2.2.2.2.1 n0.2.2.2.2.2 := by
  have h0 : gmerge [0, 1, 2] (wMs E (a0 0) (a0 1) (a0 2) n0.1 n0.2.1 n0.2.2.1 n0.2.2.2.1 n0.2.2.2.2.1 n0.2.2.2.2.2) (wMs E (a0 0) (a0 1) (a0 2) S0.1 S0.2.1 S0.2.2.1 S0.2.2.2.1 S0.2.2.2.2.1 S0.2.2.2.2.2) = wMs E (a0 0) (a0 1) (a0 2) n0.1 n0.2.1 n0.2.2.1 n0.2.2.2.1 n0.2.2.2.2.1 n0.2.2.2.2.2 := gmerge_cut 0 3 (Nat.le_of_ble_eq_true rfl) rfl rfl
  exact h0
set_option maxHeartbeats 4000000 in
set_option maxRecDepth 100000 in
theorem qX1_trySecond {l : Launch} {E : gE} {a0 : Nat → Nat} {fu : Nat} {S0 : sMs} {v1 : Int32} {v2 : Int32} {r : sMs} (hf : fX1_trySecond fu S0 v1 v2 = some r) : CtrF l yX1_trySecond cX1_trySecond 5 none (gR 2 54) E [.ref (a0 0), .int v1, .int v2] (wMs E (a0 0) (a0 1) (a0 2) S0.1 S0.2.1 S0.2.2.1 S0.2.2.2.1 S0.2.2.2.2.1 S0.2.2.2.2.2) none (wMs E (a0 0) (a0 1) (a0 2) r.1 r.2.1 r.2.2.1 r.2.2.2.1 r.2.2.2.2.1 r.2.2.2.2.2) := by
  refine ctr_of false (plainFor_of_name (by decide)) (Nat.le_of_ble_eq_true rfl) (fun q => by cases q) (fun Γ h => ?_)
  refine g_lv [some _, some _, some _, _, _] rfl ?_
  rw [fX1_trySecond] at hf
  have loop4 : ∀ (j4 : Nat) (v3 : Int32) (S0 : sMs) (o4 : Option Value), lX1_trySecond_4  fu v1 v2 j4 v3 S0 = some r → Γ 0 0 4 [some (.ref (a0 0)), some (.int v1), some (.int v2), some (.int v3), o4] [] (wMs E (a0 0) (a0 1) (a0 2) S0.1 S0.2.1 S0.2.2.1 S0.2.2.2.1 S0.2.2.2.2.1 S0.2.2.2.2.2) := by
    intro j4
    induction j4 with
    | zero => intro v3 S0 o4 hf; exact gno hf
    | succ j4 ih4 =>
      intro v3 S0 o4 hf
      rw [lX1_trySecond_4] at hf
      have loop16 : ∀ (j16 : Nat) (v3 : Int32) (v4 : Int32) (S0 : sMs) , lX1_trySecond_16 (lX1_trySecond_4  fu v1 v2 j4) fu v1 v2 j16 v3 v4 S0 = some r → Γ 0 0 16 [some (.ref (a0 0)), some (.int v1), some (.int v2), some (.int v3), some (.int v4)] [] (wMs E (a0 0) (a0 1) (a0 2) S0.1 S0.2.1 S0.2.2.1 S0.2.2.2.1 S0.2.2.2.2.1 S0.2.2.2.2.2) := by
        intro j16
        induction j16 with
        | zero => intro v3 v4 S0 hf; exact gno hf
        | succ j16 ih16 =>
          intro v3 v4 S0 hf
          rw [lX1_trySecond_16] at hf
          refine g_iload h dX1_trySecond_16 rfl ?_
          refine g_iconst (v := 3) h dX1_trySecond_18 (by decide) ?_
          refine g_ic_gt h dX1_trySecond_19 rfl (fun c19 => ?_) (fun c19 => ?_)
          · replace hf := ifp_t c19 hf
            refine g_iinc (v := (v3 + 1)) (lv' := [some _, some _, some _, some _, some _]) h dX1_trySecond_42 rfl rfl (by decide) rfl ?_
            refine g_goto h dX1_trySecond_45 rfl ?_
            exact ih4 _ _ _ hf
          · replace hf := ifp_f c19 hf
            refine g_iload h dX1_trySecond_22 rfl ?_
            refine g_if_eq h dX1_trySecond_24 rfl (fun c24 => ?_) (fun c24 => ?_)
            · replace hf := ifp_t c24 hf
              refine g_iinc (v := (v4 + 1)) (lv' := [some _, some _, some _, some _, some _]) h dX1_trySecond_36 rfl rfl (by decide) rfl ?_
              refine g_goto h dX1_trySecond_39 rfl ?_
              exact ih16 _ _ _ hf
            · replace hf := ifp_f c24 hf
              refine g_aload_n h dX1_trySecond_27 rfl ?_
              refine g_iload_n h dX1_trySecond_28 rfl ?_
              refine g_iload_n h dX1_trySecond_29 rfl ?_
              refine g_iload_n h dX1_trySecond_30 rfl ?_
              refine g_iload h dX1_trySecond_31 rfl ?_
              obtain ⟨r33, q33, hf⟩ := gbind hf
              refine g_cVv (ws' := wMs E (a0 0) (a0 1) (a0 2) r33.1 r33.2.1 r33.2.2.1 r33.2.2.2.1 r33.2.2.2.2.1 r33.2.2.2.2.2) h (qX1_tryOut (a0 := a0) q33) mX1_tryOut lkX1_74 dX1_trySecond_33 rfl rfl ⟨Nat.zero_le _, Nat.zero_le _⟩ ⟨by decide, by decide⟩ (Nat.le_of_ble_eq_true rfl) [0, 1, 2] rfl rfl 0 rfl rfl mgX1_4 ?_
              refine g_iinc (v := (v4 + 1)) (lv' := [some _, some _, some _, some _, some _]) h dX1_trySecond_36 rfl rfl (by decide) rfl ?_
              refine g_goto h dX1_trySecond_39 rfl ?_
              exact ih16 _ _ _ hf
      refine g_iload_n h dX1_trySecond_4 rfl ?_
      refine g_aload_n h dX1_trySecond_5 rfl ?_
      refine g_get h flX1_40 dX1_trySecond_6 0 rfl rfl ?_
      refine g_ic_ge h dX1_trySecond_9 rfl (fun c9 => ?_) (fun c9 => ?_)
      · replace hf := ifp_t c9 hf
        have er := Option.some.inj hf
        subst er
        exact g_return h dX1_trySecond_48 rfl ⟨Nat.zero_le _, Nat.zero_le _, rfl, rfl, rfl⟩
      · replace hf := ifp_f c9 hf
        refine g_bipush (v := (-3)) h dX1_trySecond_12 (by decide) ?_
        refine g_istore (lv' := [some _, some _, some _, some _, some _]) h dX1_trySecond_14 (by decide) rfl ?_
        exact loop16 _ _ _ _  hf
  refine g_iload_n h dX1_trySecond_0 rfl ?_
  refine g_iconst (v := 1) h dX1_trySecond_1 (by decide) ?_
  refine g_iadd h dX1_trySecond_2 ?_
  refine g_istore_n (lv' := [some _, some _, some _, some _, _]) h dX1_trySecond_3 (by decide) rfl ?_
  exact loop4 _ _ _ _ hf
def lX1_run_70 (k59 : (Int32) → (sMs) → Option (Int64 × sMs)) (fu : Nat)  : Nat → (Int32) → (Int32) → (sMs) → Option (Int64 × sMs)
  | 0, _, _, _ => none
  | j + 1, v1, v2, S0 => (if (3 : Int32) < v2 then (k59 (v1 + 1) S0) else (if v2 = 0 then ((lX1_run_70 k59 fu  j) v1 (v2 + 1) S0) else ((fX1_trySecond fu S0 v1 v2).bind fun r82 => ((lX1_run_70 k59 fu  j) v1 (v2 + 1) r82))))
def lX1_run_59  (fu : Nat)  : Nat → (Int32) → (sMs) → Option (Int64 × sMs)
  | 0, _, _ => none
  | j + 1, v1, S0 => (if S0.2.2.2.1 ≤ v1 then (some (S0.2.2.2.2.2, S0)) else (lX1_run_70 (lX1_run_59  fu  j) fu  fu v1 (-3 : Int32) S0))
def lX1_run_28 (k17 : (Int32) → (sMs) → Option (Int64 × sMs)) (fu : Nat)  : Nat → (Int32) → (Int32) → (sMs) → Option (Int64 × sMs)
  | 0, _, _, _ => none
  | j + 1, v1, v2, S0 => (if (3 : Int32) < v2 then (k17 (v1 + 1) S0) else (if v2 = 0 then ((lX1_run_28 k17 fu  j) v1 (v2 + 1) S0) else ((fX1_tryOut fu S0 v1 v2 (-1 : Int32) (0 : Int32)).bind fun r42 => ((lX1_run_28 k17 fu  j) v1 (v2 + 1) r42))))
def lX1_run_17  (fu : Nat)  : Nat → (Int32) → (sMs) → Option (Int64 × sMs)
  | 0, _, _ => none
  | j + 1, v1, S0 => (if S0.2.2.2.1 ≤ v1 then (lX1_run_59  fu  fu (0 : Int32) S0) else (lX1_run_28 (lX1_run_17  fu  j) fu  fu v1 (-3 : Int32) S0))
def fX1_run (fu : Nat) (S0 : sMs)  : Option (Int64 × sMs) := ((some (st_X1_4 S0 (9223372036854775807 : Int64))).bind fun S0x4 => ((fX1_tryOut fu S0x4 (-1 : Int32) (0 : Int32) (-1 : Int32) (0 : Int32)).bind fun r12 => (lX1_run_17  fu  fu (0 : Int32) r12)))
set_option maxHeartbeats 4000000 in
set_option maxRecDepth 100000 in
theorem qX1_run {l : Launch} {E : gE} {a0 : Nat → Nat} {fu : Nat} {S0 : sMs}  {r : Int64 × sMs} (hf : fX1_run fu S0  = some r) : CtrF l yX1_run cX1_run 3 (some .long) (gR 3 78) E [.ref (a0 0)] (wMs E (a0 0) (a0 1) (a0 2) S0.1 S0.2.1 S0.2.2.1 S0.2.2.2.1 S0.2.2.2.2.1 S0.2.2.2.2.2) (some (.long r.1)) (wMs E (a0 0) (a0 1) (a0 2) r.2.1 r.2.2.1 r.2.2.2.1 r.2.2.2.2.1 r.2.2.2.2.2.1 r.2.2.2.2.2.2) := by
  refine ctr_of false (plainFor_of_name (by decide)) (Nat.le_of_ble_eq_true rfl) (fun q => by cases q) (fun Γ h => ?_)
  refine g_lv [some _, _, _] rfl ?_
  rw [fX1_run] at hf
  have loop59 : ∀ (j59 : Nat) (v1 : Int32) (S0 : sMs) (o2 : Option Value), lX1_run_59  fu  j59 v1 S0 = some r → Γ 0 0 59 [some (.ref (a0 0)), some (.int v1), o2] [] (wMs E (a0 0) (a0 1) (a0 2) S0.1 S0.2.1 S0.2.2.1 S0.2.2.2.1 S0.2.2.2.2.1 S0.2.2.2.2.2) := by
    intro j59
    induction j59 with
    | zero => intro v1 S0 o2 hf; exact gno hf
    | succ j59 ih59 =>
      intro v1 S0 o2 hf
      rw [lX1_run_59] at hf
      have loop70 : ∀ (j70 : Nat) (v1 : Int32) (v2 : Int32) (S0 : sMs) , lX1_run_70 (lX1_run_59  fu  j59) fu  j70 v1 v2 S0 = some r → Γ 0 0 70 [some (.ref (a0 0)), some (.int v1), some (.int v2)] [] (wMs E (a0 0) (a0 1) (a0 2) S0.1 S0.2.1 S0.2.2.1 S0.2.2.2.1 S0.2.2.2.2.1 S0.2.2.2.2.2) := by
        intro j70
        induction j70 with
        | zero => intro v1 v2 S0 hf; exact gno hf
        | succ j70 ih70 =>
          intro v1 v2 S0 hf
          rw [lX1_run_70] at hf
          refine g_iload_n h dX1_run_70 rfl ?_
          refine g_iconst (v := 3) h dX1_run_71 (by decide) ?_
          refine g_ic_gt h dX1_run_72 rfl (fun c72 => ?_) (fun c72 => ?_)
          · replace hf := ifp_t c72 hf
            refine g_iinc (v := (v1 + 1)) (lv' := [some _, some _, some _]) h dX1_run_91 rfl rfl (by decide) rfl ?_
            refine g_goto h dX1_run_94 rfl ?_
            exact ih59 _ _ _ hf
          · replace hf := ifp_f c72 hf
            refine g_iload_n h dX1_run_75 rfl ?_
            refine g_if_eq h dX1_run_76 rfl (fun c76 => ?_) (fun c76 => ?_)
            · replace hf := ifp_t c76 hf
              refine g_iinc (v := (v2 + 1)) (lv' := [some _, some _, some _]) h dX1_run_85 rfl rfl (by decide) rfl ?_
              refine g_goto h dX1_run_88 rfl ?_
              exact ih70 _ _ _ hf
            · replace hf := ifp_f c76 hf
              refine g_aload_n h dX1_run_79 rfl ?_
              refine g_iload_n h dX1_run_80 rfl ?_
              refine g_iload_n h dX1_run_81 rfl ?_
              obtain ⟨r82, q82, hf⟩ := gbind hf
              refine g_cVv (ws' := wMs E (a0 0) (a0 1) (a0 2) r82.1 r82.2.1 r82.2.2.1 r82.2.2.2.1 r82.2.2.2.2.1 r82.2.2.2.2.2) h (qX1_trySecond (a0 := a0) q82) mX1_trySecond lkX1_78 dX1_run_82 rfl rfl ⟨Nat.zero_le _, Nat.zero_le _⟩ ⟨by decide, by decide⟩ (Nat.le_of_ble_eq_true rfl) [0, 1, 2] rfl rfl 0 rfl rfl mgX1_4 ?_
              refine g_iinc (v := (v2 + 1)) (lv' := [some _, some _, some _]) h dX1_run_85 rfl rfl (by decide) rfl ?_
              refine g_goto h dX1_run_88 rfl ?_
              exact ih70 _ _ _ hf
      refine g_iload_n h dX1_run_59 rfl ?_
      refine g_aload_n h dX1_run_60 rfl ?_
      refine g_get h flX1_40 dX1_run_61 0 rfl rfl ?_
      refine g_ic_ge h dX1_run_64 rfl (fun c64 => ?_) (fun c64 => ?_)
      · replace hf := ifp_t c64 hf
        refine g_aload_n h dX1_run_97 rfl ?_
        refine g_get h flX1_82 dX1_run_98 0 rfl rfl ?_
        have er := Option.some.inj hf
        subst er
        exact g_lreturn h dX1_run_101 rfl ⟨Nat.zero_le _, Nat.zero_le _, rfl, rfl, rfl⟩
      · replace hf := ifp_f c64 hf
        refine g_bipush (v := (-3)) h dX1_run_67 (by decide) ?_
        refine g_istore_n (lv' := [some _, some _, some _]) h dX1_run_69 (by decide) rfl ?_
        exact loop70 _ _ _ _  hf
  have loop17 : ∀ (j17 : Nat) (v1 : Int32) (S0 : sMs) (o2 : Option Value), lX1_run_17  fu  j17 v1 S0 = some r → Γ 0 0 17 [some (.ref (a0 0)), some (.int v1), o2] [] (wMs E (a0 0) (a0 1) (a0 2) S0.1 S0.2.1 S0.2.2.1 S0.2.2.2.1 S0.2.2.2.2.1 S0.2.2.2.2.2) := by
    intro j17
    induction j17 with
    | zero => intro v1 S0 o2 hf; exact gno hf
    | succ j17 ih17 =>
      intro v1 S0 o2 hf
      rw [lX1_run_17] at hf
      have loop28 : ∀ (j28 : Nat) (v1 : Int32) (v2 : Int32) (S0 : sMs) , lX1_run_28 (lX1_run_17  fu  j17) fu  j28 v1 v2 S0 = some r → Γ 0 0 28 [some (.ref (a0 0)), some (.int v1), some (.int v2)] [] (wMs E (a0 0) (a0 1) (a0 2) S0.1 S0.2.1 S0.2.2.1 S0.2.2.2.1 S0.2.2.2.2.1 S0.2.2.2.2.2) := by
        intro j28
        induction j28 with
        | zero => intro v1 v2 S0 hf; exact gno hf
        | succ j28 ih28 =>
          intro v1 v2 S0 hf
          rw [lX1_run_28] at hf
          refine g_iload_n h dX1_run_28 rfl ?_
          refine g_iconst (v := 3) h dX1_run_29 (by decide) ?_
          refine g_ic_gt h dX1_run_30 rfl (fun c30 => ?_) (fun c30 => ?_)
          · replace hf := ifp_t c30 hf
            refine g_iinc (v := (v1 + 1)) (lv' := [some _, some _, some _]) h dX1_run_51 rfl rfl (by decide) rfl ?_
            refine g_goto h dX1_run_54 rfl ?_
            exact ih17 _ _ _ hf
          · replace hf := ifp_f c30 hf
            refine g_iload_n h dX1_run_33 rfl ?_
            refine g_if_eq h dX1_run_34 rfl (fun c34 => ?_) (fun c34 => ?_)
            · replace hf := ifp_t c34 hf
              refine g_iinc (v := (v2 + 1)) (lv' := [some _, some _, some _]) h dX1_run_45 rfl rfl (by decide) rfl ?_
              refine g_goto h dX1_run_48 rfl ?_
              exact ih28 _ _ _ hf
            · replace hf := ifp_f c34 hf
              refine g_aload_n h dX1_run_37 rfl ?_
              refine g_iload_n h dX1_run_38 rfl ?_
              refine g_iload_n h dX1_run_39 rfl ?_
              refine g_iconst (v := (-1)) h dX1_run_40 (by decide) ?_
              refine g_iconst (v := 0) h dX1_run_41 (by decide) ?_
              obtain ⟨r42, q42, hf⟩ := gbind hf
              refine g_cVv (ws' := wMs E (a0 0) (a0 1) (a0 2) r42.1 r42.2.1 r42.2.2.1 r42.2.2.2.1 r42.2.2.2.2.1 r42.2.2.2.2.2) h (qX1_tryOut (a0 := a0) q42) mX1_tryOut lkX1_74 dX1_run_42 rfl rfl ⟨Nat.zero_le _, Nat.zero_le _⟩ ⟨by decide, by decide⟩ (Nat.le_of_ble_eq_true rfl) [0, 1, 2] rfl rfl 0 rfl rfl mgX1_4 ?_
              refine g_iinc (v := (v2 + 1)) (lv' := [some _, some _, some _]) h dX1_run_45 rfl rfl (by decide) rfl ?_
              refine g_goto h dX1_run_48 rfl ?_
              exact ih28 _ _ _ hf
      refine g_iload_n h dX1_run_17 rfl ?_
      refine g_aload_n h dX1_run_18 rfl ?_
      refine g_get h flX1_40 dX1_run_19 0 rfl rfl ?_
      refine g_ic_ge h dX1_run_22 rfl (fun c22 => ?_) (fun c22 => ?_)
      · replace hf := ifp_t c22 hf
        refine g_iconst (v := 0) h dX1_run_57 (by decide) ?_
        refine g_istore_n (lv' := [some _, some _, _]) h dX1_run_58 (by decide) rfl ?_
        exact loop59 _ _ _ _ hf
      · replace hf := ifp_f c22 hf
        refine g_bipush (v := (-3)) h dX1_run_25 (by decide) ?_
        refine g_istore_n (lv' := [some _, some _, some _]) h dX1_run_27 (by decide) rfl ?_
        exact loop28 _ _ _ _  hf
  refine g_aload_n h dX1_run_0 rfl ?_
  refine g_ldc2 (v := 9223372036854775807) h dX1_run_1 gcX1_68 ?_
  obtain ⟨S0x4, q4, hf⟩ := gbind hf
  refine g_put (ws' := wMs E (a0 0) (a0 1) (a0 2) S0x4.1 S0x4.2.1 S0x4.2.2.1 S0x4.2.2.2.1 S0x4.2.2.2.2.1 S0x4.2.2.2.2.2) (ty := .long) h flX1_70 gftX1 rfl (by decide +kernel) dX1_run_4 0 rfl rfl rfl (Nat.le_of_ble_eq_true rfl) (by cases q4; rfl) ?_
  refine g_aload_n h dX1_run_7 rfl ?_
  refine g_iconst (v := (-1)) h dX1_run_8 (by decide) ?_
  refine g_iconst (v := 0) h dX1_run_9 (by decide) ?_
  refine g_iconst (v := (-1)) h dX1_run_10 (by decide) ?_
  refine g_iconst (v := 0) h dX1_run_11 (by decide) ?_
  obtain ⟨r12, q12, hf⟩ := gbind hf
  refine g_cVv (ws' := wMs E (a0 0) (a0 1) (a0 2) r12.1 r12.2.1 r12.2.2.1 r12.2.2.2.1 r12.2.2.2.2.1 r12.2.2.2.2.2) h (qX1_tryOut (a0 := a0) q12) mX1_tryOut lkX1_74 dX1_run_12 rfl rfl ⟨Nat.zero_le _, Nat.zero_le _⟩ ⟨by decide, by decide⟩ (Nat.le_of_ble_eq_true rfl) [0, 1, 2] rfl rfl 0 rfl rfl mgX1_4 ?_
  refine g_iconst (v := 0) h dX1_run_15 (by decide) ?_
  refine g_istore_n (lv' := [some _, some _, _]) h dX1_run_16 (by decide) rfl ?_
  exact loop17 _ _ _ _ hf
def lX1_prepare_61 (k23 : (Int32) → (sMs) → Option (sMs)) (fu : Nat) (S1 : sSt) (S2 : sSz) : Nat → (Int32) → (Int32) → (sMs) → Option (sMs)
  | 0, _, _, _ => none
  | j + 1, v3, v4, S0 => (if S0.2.2.2.1 ≤ v4 then ((some (st_X1_2 S0 (S0.2.2.1 + (1 : Int32)))).bind fun S0x106 => (k23 (v3 + 1) S0x106)) else ((fX6_stepIn S2 S1 v3 v4).bind fun r89 => ((gIx ((v4 * (36 : Int32)) + S0.2.2.1) 288).bind fun k92 => ((some (st_X1_1 S0 (vp_updL S0.2.1 k92 r89))).bind fun S0x92 => ((lX1_prepare_61 k23 fu S1 S2 j) v3 (v4 + 1) S0x92)))))
def lX1_prepare_23  (fu : Nat) (S1 : sSt) (S2 : sSz) : Nat → (Int32) → (sMs) → Option (sMs)
  | 0, _, _ => none
  | j + 1, v3, S0 => (if (36 : Int32) ≤ v3 then (some S0) else ((fX7_has S1.2.2.2 v3).bind fun r34 => (if r34 = true then ((fX6_aboveIn S2 S1.1 v3).bind fun r54 => ((gIx S0.2.2.1 36).bind fun k57 => ((some (st_X1_0 S0 (vp_updL S0.1 k57 r54))).bind fun S0x57 => (lX1_prepare_61 (lX1_prepare_23  fu S1 S2 j) fu S1 S2 fu v3 (0 : Int32) S0x57)))) else ((lX1_prepare_23  fu S1 S2 j) (v3 + 1) S0))))
def fX1_prepare (fu : Nat) (S0 : sMs) (S1 : sSt) (S2 : sSz)  : Option (sMs) := ((some (st_X1_2 S0 (0 : Int32))).bind fun S0x2 => ((fX3_length 8 S1.2.2.1).bind fun r10 => ((fJ9_min_7cf53 r10 (8 : Int32)).bind fun r15 => ((some (st_X1_3 S0x2 r15)).bind fun S0x18 => (lX1_prepare_23  fu S1 S2 fu (0 : Int32) S0x18)))))
set_option maxHeartbeats 4000000 in
set_option maxRecDepth 100000 in
theorem qX1_prepare {l : Launch} {E : gE} {a0 : Nat → Nat} {a1 : Nat → Nat} {a2 : Nat → Nat} {fu : Nat} {S0 : sMs} {S1 : sSt} {S2 : sSz}  {r : sMs} (hf : fX1_prepare fu S0 S1 S2  = some r) : CtrF l yX1_prepare cX1_prepare 5 none (gR 4 94) E [.ref (a0 0), .ref (a1 0), .ref (a2 0)] (wMs E (a0 0) (a0 1) (a0 2) S0.1 S0.2.1 S0.2.2.1 S0.2.2.2.1 S0.2.2.2.2.1 S0.2.2.2.2.2 ++ wSt E (a1 0) (a1 1) (a1 2) (a1 3) (a1 4) (a1 5) (a1 6) (a1 7) (a1 8) (a1 9) (a1 10) (a1 11) (a1 12) (a1 13) (a1 14) (a1 15) S1.1.1 S1.1.2.1 S1.1.2.2.1 S1.1.2.2.2 S1.2.1.1 S1.2.1.2.1 S1.2.1.2.2 S1.2.2.1.1 S1.2.2.1.2.1 S1.2.2.1.2.2 S1.2.2.2.1 S1.2.2.2.2.1 S1.2.2.2.2.2 ++ wSz E (a2 0) (a2 1) S2.1 S2.2.1 S2.2.2.1 S2.2.2.2.1 S2.2.2.2.2.1 S2.2.2.2.2.2) none (wMs E (a0 0) (a0 1) (a0 2) r.1 r.2.1 r.2.2.1 r.2.2.2.1 r.2.2.2.2.1 r.2.2.2.2.2 ++ wSt E (a1 0) (a1 1) (a1 2) (a1 3) (a1 4) (a1 5) (a1 6) (a1 7) (a1 8) (a1 9) (a1 10) (a1 11) (a1 12) (a1 13) (a1 14) (a1 15) S1.1.1 S1.1.2.1 S1.1.2.2.1 S1.1.2.2.2 S1.2.1.1 S1.2.1.2.1 S1.2.1.2.2 S1.2.2.1.1 S1.2.2.1.2.1 S1.2.2.1.2.2 S1.2.2.2.1 S1.2.2.2.2.1 S1.2.2.2.2.2 ++ wSz E (a2 0) (a2 1) S2.1 S2.2.1 S2.2.2.1 S2.2.2.2.1 S2.2.2.2.2.1 S2.2.2.2.2.2) := by
  refine ctr_of false (plainFor_of_name (by decide)) (Nat.le_of_ble_eq_true rfl) (fun q => by cases q) (fun Γ h => ?_)
  refine g_lv [some _, some _, some _, _, _] rfl ?_
  rw [fX1_prepare] at hf
  have loop23 : ∀ (j23 : Nat) (v3 : Int32) (S0 : sMs) (o4 : Option Value), lX1_prepare_23  fu S1 S2 j23 v3 S0 = some r → Γ 0 0 23 [some (.ref (a0 0)), some (.ref (a1 0)), some (.ref (a2 0)), some (.int v3), o4] [] (wMs E (a0 0) (a0 1) (a0 2) S0.1 S0.2.1 S0.2.2.1 S0.2.2.2.1 S0.2.2.2.2.1 S0.2.2.2.2.2 ++ wSt E (a1 0) (a1 1) (a1 2) (a1 3) (a1 4) (a1 5) (a1 6) (a1 7) (a1 8) (a1 9) (a1 10) (a1 11) (a1 12) (a1 13) (a1 14) (a1 15) S1.1.1 S1.1.2.1 S1.1.2.2.1 S1.1.2.2.2 S1.2.1.1 S1.2.1.2.1 S1.2.1.2.2 S1.2.2.1.1 S1.2.2.1.2.1 S1.2.2.1.2.2 S1.2.2.2.1 S1.2.2.2.2.1 S1.2.2.2.2.2 ++ wSz E (a2 0) (a2 1) S2.1 S2.2.1 S2.2.2.1 S2.2.2.2.1 S2.2.2.2.2.1 S2.2.2.2.2.2) := by
    intro j23
    induction j23 with
    | zero => intro v3 S0 o4 hf; exact gno hf
    | succ j23 ih23 =>
      intro v3 S0 o4 hf
      rw [lX1_prepare_23] at hf
      have loop61 : ∀ (j61 : Nat) (v3 : Int32) (v4 : Int32) (S0 : sMs) , lX1_prepare_61 (lX1_prepare_23  fu S1 S2 j23) fu S1 S2 j61 v3 v4 S0 = some r → Γ 0 0 61 [some (.ref (a0 0)), some (.ref (a1 0)), some (.ref (a2 0)), some (.int v3), some (.int v4)] [] (wMs E (a0 0) (a0 1) (a0 2) S0.1 S0.2.1 S0.2.2.1 S0.2.2.2.1 S0.2.2.2.2.1 S0.2.2.2.2.2 ++ wSt E (a1 0) (a1 1) (a1 2) (a1 3) (a1 4) (a1 5) (a1 6) (a1 7) (a1 8) (a1 9) (a1 10) (a1 11) (a1 12) (a1 13) (a1 14) (a1 15) S1.1.1 S1.1.2.1 S1.1.2.2.1 S1.1.2.2.2 S1.2.1.1 S1.2.1.2.1 S1.2.1.2.2 S1.2.2.1.1 S1.2.2.1.2.1 S1.2.2.1.2.2 S1.2.2.2.1 S1.2.2.2.2.1 S1.2.2.2.2.2 ++ wSz E (a2 0) (a2 1) S2.1 S2.2.1 S2.2.2.1 S2.2.2.2.1 S2.2.2.2.2.1 S2.2.2.2.2.2) := by
        intro j61
        induction j61 with
        | zero => intro v3 v4 S0 hf; exact gno hf
        | succ j61 ih61 =>
          intro v3 v4 S0 hf
          rw [lX1_prepare_61] at hf
          refine g_iload h dX1_prepare_61 rfl ?_
          refine g_aload_n h dX1_prepare_63 rfl ?_
          refine g_get h flX1_40 dX1_prepare_64 0 rfl rfl ?_
          refine g_ic_ge h dX1_prepare_67 rfl (fun c67 => ?_) (fun c67 => ?_)
          · replace hf := ifp_t c67 hf
            refine g_aload_n h dX1_prepare_99 rfl ?_
            refine g_dup h dX1_prepare_100 rfl ?_
            refine g_get h flX1_18 dX1_prepare_101 0 rfl rfl ?_
            refine g_iconst (v := 1) h dX1_prepare_104 (by decide) ?_
            refine g_iadd h dX1_prepare_105 ?_
            obtain ⟨S0x106, q106, hf⟩ := gbind hf
            refine g_put (ws' := wMs E (a0 0) (a0 1) (a0 2) S0x106.1 S0x106.2.1 S0x106.2.2.1 S0x106.2.2.2.1 S0x106.2.2.2.2.1 S0x106.2.2.2.2.2 ++ wSt E (a1 0) (a1 1) (a1 2) (a1 3) (a1 4) (a1 5) (a1 6) (a1 7) (a1 8) (a1 9) (a1 10) (a1 11) (a1 12) (a1 13) (a1 14) (a1 15) S1.1.1 S1.1.2.1 S1.1.2.2.1 S1.1.2.2.2 S1.2.1.1 S1.2.1.2.1 S1.2.1.2.2 S1.2.2.1.1 S1.2.2.1.2.1 S1.2.2.1.2.2 S1.2.2.2.1 S1.2.2.2.2.1 S1.2.2.2.2.2 ++ wSz E (a2 0) (a2 1) S2.1 S2.2.1 S2.2.2.1 S2.2.2.2.1 S2.2.2.2.2.1 S2.2.2.2.2.2) (ty := .int) h flX1_18 gftX1 rfl (by decide +kernel) dX1_prepare_106 0 rfl rfl rfl (Nat.le_of_ble_eq_true rfl) (by cases q106; rfl) ?_
            refine g_iinc (v := (v3 + 1)) (lv' := [some _, some _, some _, some _, some _]) h dX1_prepare_109 rfl rfl (by decide) rfl ?_
            refine g_goto h dX1_prepare_112 rfl ?_
            exact ih23 _ _ _ hf
          · replace hf := ifp_f c67 hf
            refine g_aload_n h dX1_prepare_70 rfl ?_
            refine g_get h flX1_15 dX1_prepare_71 0 rfl rfl ?_
            refine g_iload h dX1_prepare_74 rfl ?_
            refine g_bipush (v := 36) h dX1_prepare_76 (by decide) ?_
            refine g_imul h dX1_prepare_78 ?_
            refine g_aload_n h dX1_prepare_79 rfl ?_
            refine g_get h flX1_18 dX1_prepare_80 0 rfl rfl ?_
            refine g_iadd h dX1_prepare_83 ?_
            refine g_aload_n h dX1_prepare_84 rfl ?_
            refine g_iload_n h dX1_prepare_85 rfl ?_
            refine g_iload h dX1_prepare_86 rfl ?_
            refine g_aload_n h dX1_prepare_88 rfl ?_
            obtain ⟨r89, q89, hf⟩ := gbind hf
            refine g_cVr h (qX6_stepIn (a0 := a2) (a1 := a1) q89) mX6_stepIn lkX1_62 dX1_prepare_89 rfl rfl ⟨Nat.zero_le _, Nat.zero_le _⟩ ⟨by decide, by decide⟩ (Nat.le_of_ble_eq_true rfl) [19, 20, 3, 4, 5, 6, 7, 8, 9, 10, 11, 12, 13, 14, 15, 16, 17, 18] rfl rfl 19 rfl rfl ?_
            obtain ⟨k92, q92, hf⟩ := gbind hf
            have e92 := (gIx_s q92).1
            have b92 := (gIx_s q92).2
            obtain ⟨S0x92, w92, hf⟩ := gbind hf
            refine g_last (ws' := wMs E (a0 0) (a0 1) (a0 2) S0x92.1 S0x92.2.1 S0x92.2.2.1 S0x92.2.2.2.1 S0x92.2.2.2.2.1 S0x92.2.2.2.2.2 ++ wSt E (a1 0) (a1 1) (a1 2) (a1 3) (a1 4) (a1 5) (a1 6) (a1 7) (a1 8) (a1 9) (a1 10) (a1 11) (a1 12) (a1 13) (a1 14) (a1 15) S1.1.1 S1.1.2.1 S1.1.2.2.1 S1.1.2.2.2 S1.2.1.1 S1.2.1.2.1 S1.2.1.2.2 S1.2.2.1.1 S1.2.2.1.2.1 S1.2.2.1.2.2 S1.2.2.2.1 S1.2.2.2.2.1 S1.2.2.2.2.2 ++ wSz E (a2 0) (a2 1) S2.1 S2.2.1 S2.2.2.1 S2.2.2.2.1 S2.2.2.2.2.1 S2.2.2.2.2.2) h dX1_prepare_92 2 k92 rfl e92 b92 (by decide) (by cases w92; rfl) ?_
            refine g_iinc (v := (v4 + 1)) (lv' := [some _, some _, some _, some _, some _]) h dX1_prepare_93 rfl rfl (by decide) rfl ?_
            refine g_goto h dX1_prepare_96 rfl ?_
            exact ih61 _ _ _ hf
      refine g_iload_n h dX1_prepare_23 rfl ?_
      refine g_bipush (v := 36) h dX1_prepare_24 (by decide) ?_
      refine g_ic_ge h dX1_prepare_26 rfl (fun c26 => ?_) (fun c26 => ?_)
      · replace hf := ifp_t c26 hf
        have er := Option.some.inj hf
        subst er
        exact g_return h dX1_prepare_115 rfl ⟨Nat.zero_le _, Nat.zero_le _, rfl, rfl, rfl⟩
      · replace hf := ifp_f c26 hf
        refine g_aload_n h dX1_prepare_29 rfl ?_
        refine g_get h flX1_42 dX1_prepare_30 3 rfl rfl ?_
        refine g_iload_n h dX1_prepare_33 rfl ?_
        obtain ⟨r34, q34, hf⟩ := gbind hf
        refine g_cVr h (qX7_has (a0 := fun k => a1 (k + 12)) q34) mX7_has lkX1_46 dX1_prepare_34 rfl rfl ⟨Nat.zero_le _, Nat.zero_le _⟩ ⟨by decide, by decide⟩ (Nat.le_of_ble_eq_true rfl) [15, 16, 17, 18] rfl rfl 15 rfl rfl ?_
        refine g_ifb_eq h dX1_prepare_37 rfl (fun c37 => ?_) (fun c37 => ?_)
        · replace hf := ifb_f c37 hf
          refine g_iinc (v := (v3 + 1)) (lv' := [some _, some _, some _, some _, _]) h dX1_prepare_109 rfl rfl (by decide) rfl ?_
          refine g_goto h dX1_prepare_112 rfl ?_
          exact ih23 _ _ _ hf
        · replace hf := ifb_t c37 hf
          refine g_aload_n h dX1_prepare_40 rfl ?_
          refine g_get h flX1_9 dX1_prepare_41 0 rfl rfl ?_
          refine g_aload_n h dX1_prepare_44 rfl ?_
          refine g_get h flX1_18 dX1_prepare_45 0 rfl rfl ?_
          refine g_aload_n h dX1_prepare_48 rfl ?_
          refine g_iload_n h dX1_prepare_49 rfl ?_
          refine g_aload_n h dX1_prepare_50 rfl ?_
          refine g_get h flX1_52 dX1_prepare_51 3 rfl rfl ?_
          obtain ⟨r54, q54, hf⟩ := gbind hf
          refine g_cVr h (qX6_aboveIn (a0 := a2) (a1 := fun k => a1 (k + 1)) q54) mX6_aboveIn lkX1_56 dX1_prepare_54 rfl rfl ⟨Nat.zero_le _, Nat.zero_le _⟩ ⟨by decide, by decide⟩ (Nat.le_of_ble_eq_true rfl) [19, 20, 4, 5, 6, 7, 8] rfl rfl 19 rfl rfl ?_
          obtain ⟨k57, q57, hf⟩ := gbind hf
          have e57 := (gIx_s q57).1
          have b57 := (gIx_s q57).2
          obtain ⟨S0x57, w57, hf⟩ := gbind hf
          refine g_last (ws' := wMs E (a0 0) (a0 1) (a0 2) S0x57.1 S0x57.2.1 S0x57.2.2.1 S0x57.2.2.2.1 S0x57.2.2.2.2.1 S0x57.2.2.2.2.2 ++ wSt E (a1 0) (a1 1) (a1 2) (a1 3) (a1 4) (a1 5) (a1 6) (a1 7) (a1 8) (a1 9) (a1 10) (a1 11) (a1 12) (a1 13) (a1 14) (a1 15) S1.1.1 S1.1.2.1 S1.1.2.2.1 S1.1.2.2.2 S1.2.1.1 S1.2.1.2.1 S1.2.1.2.2 S1.2.2.1.1 S1.2.2.1.2.1 S1.2.2.1.2.2 S1.2.2.2.1 S1.2.2.2.2.1 S1.2.2.2.2.2 ++ wSz E (a2 0) (a2 1) S2.1 S2.2.1 S2.2.2.1 S2.2.2.2.1 S2.2.2.2.2.1 S2.2.2.2.2.2) h dX1_prepare_57 1 k57 rfl e57 b57 (by decide) (by cases w57; rfl) ?_
          refine g_iconst (v := 0) h dX1_prepare_58 (by decide) ?_
          refine g_istore (lv' := [some _, some _, some _, some _, some _]) h dX1_prepare_59 (by decide) rfl ?_
          exact loop61 _ _ _ _  hf
  refine g_aload_n h dX1_prepare_0 rfl ?_
  refine g_iconst (v := 0) h dX1_prepare_1 (by decide) ?_
  obtain ⟨S0x2, q2, hf⟩ := gbind hf
  refine g_put (ws' := wMs E (a0 0) (a0 1) (a0 2) S0x2.1 S0x2.2.1 S0x2.2.2.1 S0x2.2.2.2.1 S0x2.2.2.2.2.1 S0x2.2.2.2.2.2 ++ wSt E (a1 0) (a1 1) (a1 2) (a1 3) (a1 4) (a1 5) (a1 6) (a1 7) (a1 8) (a1 9) (a1 10) (a1 11) (a1 12) (a1 13) (a1 14) (a1 15) S1.1.1 S1.1.2.1 S1.1.2.2.1 S1.1.2.2.2 S1.2.1.1 S1.2.1.2.1 S1.2.1.2.2 S1.2.2.1.1 S1.2.2.1.2.1 S1.2.2.1.2.2 S1.2.2.2.1 S1.2.2.2.2.1 S1.2.2.2.2.2 ++ wSz E (a2 0) (a2 1) S2.1 S2.2.1 S2.2.2.1 S2.2.2.2.1 S2.2.2.2.2.1 S2.2.2.2.2.2) (ty := .int) h flX1_18 gftX1 rfl (by decide +kernel) dX1_prepare_2 0 rfl rfl rfl (Nat.le_of_ble_eq_true rfl) (by cases q2; rfl) ?_
  refine g_aload_n h dX1_prepare_5 rfl ?_
  refine g_aload_n h dX1_prepare_6 rfl ?_
  refine g_get h flX1_22 dX1_prepare_7 3 rfl rfl ?_
  obtain ⟨r10, q10, hf⟩ := gbind hf
  refine g_cVr h (qX3_length (a0 := fun k => a1 (k + 9)) q10) mX3_length lkX1_28 dX1_prepare_10 rfl rfl ⟨Nat.zero_le _, Nat.zero_le _⟩ ⟨by decide, by decide⟩ (Nat.le_of_ble_eq_true rfl) [12, 13, 14] rfl rfl 12 rfl rfl ?_
  refine g_bipush (v := 8) h dX1_prepare_13 (by decide) ?_
  obtain ⟨r15, q15, hf⟩ := gbind hf
  refine g_cSr h (qJ9_min_7cf53 q15) mJ9_min_7cf53 lkX1_34 dX1_prepare_15 rfl rfl ⟨Nat.zero_le _, Nat.zero_le _⟩ ⟨by decide, by decide⟩ (Nat.le_of_ble_eq_true rfl) [] rfl rfl ?_
  obtain ⟨S0x18, q18, hf⟩ := gbind hf
  refine g_put (ws' := wMs E (a0 0) (a0 1) (a0 2) S0x18.1 S0x18.2.1 S0x18.2.2.1 S0x18.2.2.2.1 S0x18.2.2.2.2.1 S0x18.2.2.2.2.2 ++ wSt E (a1 0) (a1 1) (a1 2) (a1 3) (a1 4) (a1 5) (a1 6) (a1 7) (a1 8) (a1 9) (a1 10) (a1 11) (a1 12) (a1 13) (a1 14) (a1 15) S1.1.1 S1.1.2.1 S1.1.2.2.1 S1.1.2.2.2 S1.2.1.1 S1.2.1.2.1 S1.2.1.2.2 S1.2.2.1.1 S1.2.2.1.2.1 S1.2.2.1.2.2 S1.2.2.2.1 S1.2.2.2.2.1 S1.2.2.2.2.2 ++ wSz E (a2 0) (a2 1) S2.1 S2.2.1 S2.2.2.1 S2.2.2.2.1 S2.2.2.2.2.1 S2.2.2.2.2.2) (ty := .int) h flX1_40 gftX1 rfl (by decide +kernel) dX1_prepare_18 0 rfl rfl rfl (Nat.le_of_ble_eq_true rfl) (by cases q18; rfl) ?_
  refine g_iconst (v := 0) h dX1_prepare_21 (by decide) ?_
  refine g_istore_n (lv' := [some _, some _, some _, some _, _]) h dX1_prepare_22 (by decide) rfl ?_
  exact loop23 _ _ _ _ hf
