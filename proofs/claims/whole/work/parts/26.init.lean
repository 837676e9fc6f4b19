theorem gmerge_first {c0 x y : Nat × va_E} {w : va_W} : gmerge [1] (x :: w) [c0, y] = c0 :: (x :: w) := rfl
abbrev gRI (f c s n : Nat) : Room := { frames := f, cells := c, slots := s, locals := n }
theorem max0 {cap : Nat} (h : cap < 2 ^ 31) : (if (0 : Int32) < nI cap then nI cap else 0) = nI cap := by
  by_cases q : (0 : Int32) < nI cap
  · rw [if_pos q]
  · rw [if_neg q]
    by_cases hc : cap = 0
    · subst hc; rfl
    · exact absurd (nI_lt (a := 0) (b := cap) (by omega) h) q
def z0X3 : sPr := (0, fun _ => 0, fun _ => 0)
def z0X0 : sCa := ((fun _ => 0), (0, fun _ => 0, fun _ => 0))
def z0X7 : sSp := ((fun _ => false), (fun _ => 0), (fun _ => 0))
def z0X8 : sSt := (((fun _ => 0), (0, fun _ => 0, fun _ => 0)), (0, fun _ => 0, fun _ => 0), (0, fun _ => 0, fun _ => 0), ((fun _ => false), (fun _ => 0), (fun _ => 0)))
def z0X5 : sSh := ((fun j => if j < 3 then -1 else 0), (fun _ _ => 0))
def z0X4 : sPd := ((fun _ => 0), (fun _ => 0), (fun _ => 0), 0, (fun _ => 0))
def z0X6 : sSz := (false, false, 0, (fun _ => 0), 1, 0)
def z0X1 : sMs := ((fun _ => 0), (fun _ => 0), 0, 0, 0, 0)
def z0X9 : sTr := (0, fun _ => 0, fun _ => 0)
def z0X10 : sWB := ((((fun _ => 0), (0, fun _ => 0, fun _ => 0)), (0, fun _ => 0, fun _ => 0), (0, fun _ => 0, fun _ => 0), ((fun _ => false), (fun _ => 0), (fun _ => 0))), (((fun _ => 0), (0, fun _ => 0, fun _ => 0)), (0, fun _ => 0, fun _ => 0), (0, fun _ => 0, fun _ => 0), ((fun _ => false), (fun _ => 0), (fun _ => 0))), false, ((fun j => if j < 3 then -1 else 0), (fun _ _ => 0)), ((fun _ => 0), (fun _ => 0), (fun _ => 0), 0, (fun _ => 0)), (false, false, 0, (fun _ => 0), 1, 0), 0, ((fun _ => 0), (fun _ => 0), 0, 0, 0, 0), (0, fun _ => 0, fun _ => 0), (fun _ => 0), 0, (fun _ => 0))
def z0X11 : gS := (fun _ => 0, fun _ => 0, fun _ _ => 0, fun _ _ => 0)
theorem dvX0 : ∀ j, j < 2 → defaultValue (tyX0 j) = vp_V [.null, .null] j := fun j hj => by
  rcases (show j = 0 ∨ j = 1 by omega) with rfl | rfl <;> rfl
theorem dvX1 : ∀ j, j < 6 → defaultValue (tyX1 j) = vp_V [.null, .null, .int 0, .int 0, .long 0, .long 0] j := fun j hj => by
  rcases (show j = 0 ∨ j = 1 ∨ j = 2 ∨ j = 3 ∨ j = 4 ∨ j = 5 by omega) with rfl | rfl | rfl | rfl | rfl | rfl <;> rfl
theorem dvX10 : ∀ j, j < 12 → defaultValue (tyX10 j) = vp_V [.null, .null, .int 0, .null, .null, .null, .int 0, .null, .null, .null, .int 0, .null] j := fun j hj => by
  rcases (show j = 0 ∨ j = 1 ∨ j = 2 ∨ j = 3 ∨ j = 4 ∨ j = 5 ∨ j = 6 ∨ j = 7 ∨ j = 8 ∨ j = 9 ∨ j = 10 ∨ j = 11 by omega) with rfl | rfl | rfl | rfl | rfl | rfl | rfl | rfl | rfl | rfl | rfl | rfl <;> rfl
theorem dvX11 : ∀ j, j < 27 → defaultValue (tyX11 j) = vp_V [.null, .null, .int 0, .null, .null, .int 0, .null, .null, .int 0, .null, .null, .long 0, .int 0, .int 0, .int 0, .int 0, .null, .null, .long 0, .long 0, .int 0, .null, .null, .null, .null, .long 0, .null] j := fun j hj => by
  rcases (show j = 0 ∨ j = 1 ∨ j = 2 ∨ j = 3 ∨ j = 4 ∨ j = 5 ∨ j = 6 ∨ j = 7 ∨ j = 8 ∨ j = 9 ∨ j = 10 ∨ j = 11 ∨ j = 12 ∨ j = 13 ∨ j = 14 ∨ j = 15 ∨ j = 16 ∨ j = 17 ∨ j = 18 ∨ j = 19 ∨ j = 20 ∨ j = 21 ∨ j = 22 ∨ j = 23 ∨ j = 24 ∨ j = 25 ∨ j = 26 by omega) with rfl | rfl | rfl | rfl | rfl | rfl | rfl | rfl | rfl | rfl | rfl | rfl | rfl | rfl | rfl | rfl | rfl | rfl | rfl | rfl | rfl | rfl | rfl | rfl | rfl | rfl | rfl <;> rfl
theorem dvX3 : ∀ j, j < 3 → defaultValue (tyX3 j) = vp_V [.null, .null, .int 0] j := fun j hj => by
  rcases (show j = 0 ∨ j = 1 ∨ j = 2 by omega) with rfl | rfl | rfl <;> rfl
theorem dvX4 : ∀ j, j < 5 → defaultValue (tyX4 j) = vp_V [.null, .null, .null, .int 0, .null] j := fun j hj => by
  rcases (show j = 0 ∨ j = 1 ∨ j = 2 ∨ j = 3 ∨ j = 4 by omega) with rfl | rfl | rfl | rfl | rfl <;> rfl
theorem dvX5 : ∀ j, j < 2 → defaultValue (tyX5 j) = vp_V [.null, .null] j := fun j hj => by
  rcases (show j = 0 ∨ j = 1 by omega) with rfl | rfl <;> rfl
theorem dvX6 : ∀ j, j < 6 → defaultValue (tyX6 j) = vp_V [.int 0, .int 0, .int 0, .null, .long 0, .long 0] j := fun j hj => by
  rcases (show j = 0 ∨ j = 1 ∨ j = 2 ∨ j = 3 ∨ j = 4 ∨ j = 5 by omega) with rfl | rfl | rfl | rfl | rfl | rfl <;> rfl
theorem dvX7 : ∀ j, j < 3 → defaultValue (tyX7 j) = vp_V [.null, .null, .null] j := fun j hj => by
  rcases (show j = 0 ∨ j = 1 ∨ j = 2 by omega) with rfl | rfl | rfl <;> rfl
theorem dvX8 : ∀ j, j < 4 → defaultValue (tyX8 j) = vp_V [.null, .null, .null, .null] j := fun j hj => by
  rcases (show j = 0 ∨ j = 1 ∨ j = 2 ∨ j = 3 by omega) with rfl | rfl | rfl | rfl <;> rfl
theorem dvX9 : ∀ j, j < 1 → defaultValue (tyX9 j) = vp_V [.null] j := fun j hj => by
  rcases (show j = 0 by omega) with rfl <;> rfl
set_option maxHeartbeats 4000000 in
set_option maxRecDepth 100000 in
theorem kX3_init {l : Launch} {E : gE} {h0 : Nat} {cap : Nat} (hc : cap < 65536) : Ctr l yX3_init cX3_init 3 none (gRI 1 2 (cap + cap) 21) E [.ref h0, .int (nI cap)] [(h0, .inr (2, [.null, .null, .int 0]))] (fun v w => v = none ∧ ∃ a : Nat → Nat, a 0 = h0 ∧ w = wPr E (a 0) (a 1) (a 2) cap z0X3.1 z0X3.2.1 z0X3.2.2) := by
  refine ctr_of true (plainFor_of_name (by decide)) (Nat.le_of_ble_eq_true rfl) (fun _ => rfl) (fun Γ h => ?_)
  refine g_lv [some _, some _, _] rfl ?_
  refine g_aload_n h dX3_init_0 rfl ?_
  refine g_objInit h dX3_init_1 lkX3_1 goi1 goi2 (Nat.le_of_ble_eq_true rfl) (Nat.le_of_ble_eq_true rfl) (Nat.le_of_ble_eq_true rfl) ?_
  refine g_iconst (v := 0) h dX3_init_4 (by decide) ?_
  refine g_iload_n h dX3_init_5 rfl ?_
  refine g_cSr h kJ9_max_7cf53 mJ9_max_7cf53 lkX3_7 dX3_init_6 rfl rfl ⟨Nat.zero_le _, Nat.zero_le _⟩ ⟨Nat.le_of_ble_eq_true rfl, Nat.le_of_ble_eq_true rfl⟩ (Nat.le_of_ble_eq_true rfl) [] rfl rfl ?_
  refine g_topi (nI cap) (max0 (by omega)) ?_
  refine g_istore_n (lv' := [some _, some _, some _]) h dX3_init_9 (by decide) rfl ?_
  refine g_aload_n h dX3_init_10 rfl ?_
  refine g_iload_n h dX3_init_11 rfl ?_
  refine g_newaI (N := cap) h dX3_init_12 gar_int rfl hc (by simp only [gRI]; omega) (by simp only [gRI]; omega) (fun q12 => ?_)
  refine g_as rfl rfl rfl (show _ = ((h0, .inr (2, [.null, .null, .int 0])) :: [(q12, .inl (E.2 0, cap, .inl (fun _ => 0)))]) from rfl) ?_
  refine g_putF (ws' := ((h0, .inr (2, [.ref q12, .null, .int 0])) :: [(q12, .inl (E.2 0, cap, .inl (fun _ => 0)))])) (ty := (.array .int)) h rfl flX3_13 gftX3 rfl rfl (by decide +kernel) dX3_init_14 0 rfl rfl rfl (Nat.le_of_ble_eq_true rfl) rfl ?_
  refine g_aload_n h dX3_init_17 rfl ?_
  refine g_iload_n h dX3_init_18 rfl ?_
  refine g_newaI (N := cap) h dX3_init_19 gar_int rfl hc (by simp only [gRI]; omega) (by simp only [gRI]; omega) (fun q19 => ?_)
  refine g_as rfl rfl rfl (show _ = ((h0, .inr (2, [.ref q12, .null, .int 0])) :: ([(q12, .inl (E.2 0, cap, .inl (fun _ => 0)))] ++ [(q19, .inl (E.2 0, cap, .inl (fun _ => 0)))])) from rfl) ?_
  refine g_putF (ws' := ((h0, .inr (2, [.ref q12, .ref q19, .int 0])) :: ([(q12, .inl (E.2 0, cap, .inl (fun _ => 0)))] ++ [(q19, .inl (E.2 0, cap, .inl (fun _ => 0)))]))) (ty := (.array .int)) h rfl flX3_19 gftX3 rfl rfl (by decide +kernel) dX3_init_21 0 rfl rfl rfl (Nat.le_of_ble_eq_true rfl) rfl ?_
  refine g_return h dX3_init_24 rfl ⟨(by simp only [gRI]; omega), (by simp only [gRI]; omega), rfl, rfl, fun k => if k = 0 then h0 else if k = 1 then q12 else if k = 2 then q19 else h0, rfl, ?_⟩
  rfl
set_option maxHeartbeats 4000000 in
set_option maxRecDepth 100000 in
theorem kX0_init {l : Launch} {E : gE} {h0 : Nat}  : Ctr l yX0_init cX0_init 1 none (gRI 2 4 27 43) E [.ref h0] [(h0, .inr (0, [.null, .null]))] (fun v w => v = none ∧ ∃ a : Nat → Nat, a 0 = h0 ∧ w = wCa E (a 0) (a 1) (a 2) (a 3) (a 4) z0X0.1 z0X0.2.1 z0X0.2.2.1 z0X0.2.2.2) := by
  refine ctr_of true (plainFor_of_name (by decide)) (Nat.le_of_ble_eq_true rfl) (fun _ => rfl) (fun Γ h => ?_)
  refine g_lv [some _] rfl ?_
  refine g_aload_n h dX0_init_0 rfl ?_
  refine g_objInit h dX0_init_1 lkX0_3 goi1 goi2 (Nat.le_of_ble_eq_true rfl) (Nat.le_of_ble_eq_true rfl) (Nat.le_of_ble_eq_true rfl) ?_
  refine g_aload_n h dX0_init_4 rfl ?_
  refine g_bipush (v := 8) h dX0_init_5 (by decide) ?_
  refine g_newaI (N := 8) h dX0_init_7 gar_int rfl (by decide) (Nat.le_of_ble_eq_true rfl) (Nat.le_of_ble_eq_true rfl) (fun q7 => ?_)
  refine g_as rfl rfl rfl (show _ = ((h0, .inr (0, [.null, .null])) :: [(q7, .inl (E.2 0, 8, .inl (fun _ => 0)))]) from rfl) ?_
  refine g_putF (ws' := ((h0, .inr (0, [.ref q7, .null])) :: [(q7, .inl (E.2 0, 8, .inl (fun _ => 0)))])) (ty := (.array .int)) h rfl flX0_9 gftX0 rfl rfl (by decide +kernel) dX0_init_9 0 rfl rfl rfl (Nat.le_of_ble_eq_true rfl) rfl ?_
  refine g_aload_n h dX0_init_12 rfl ?_
  refine g_new (ci := 2) (fs := [.null, .null, .int 0]) (C := RX3) (T := TX3) (N := 3) h tyX3 rfl gin3 tyX3_ok (gtm (by decide +kernel)) (gtm (by decide +kernel)) (gtm (by decide +kernel)) dX0_init_13 dvX3 (Nat.le_of_ble_eq_true rfl) (Nat.le_of_ble_eq_true rfl) (fun q13 => ?_)
  refine g_as rfl rfl rfl (show _ = ((h0, .inr (0, [.ref q7, .null])) :: ([(q7, .inl (E.2 0, 8, .inl (fun _ => 0)))] ++ [(q13, .inr (2, [.null, .null, .int 0]))])) from rfl) ?_
  refine g_dup h dX0_init_16 rfl ?_
  refine g_bipush (v := 8) h dX0_init_17 (by decide) ?_
  refine g_callI h (kX3_init (cap := 8) (by decide)) mX3_init lkX0_17 dX0_init_19 rfl rfl ⟨Nat.le_of_ble_eq_true rfl, Nat.le_of_ble_eq_true rfl⟩ ⟨Nat.le_of_ble_eq_true rfl, Nat.le_of_ble_eq_true rfl⟩ (Nat.le_of_ble_eq_true rfl) [2] rfl rfl (fun v w1 hp => ?_)
  obtain ⟨rfl, b19, rfl, rfl⟩ := hp
  refine g_as rfl rfl rfl (show _ = ((h0, .inr (0, [.ref q7, .null])) :: ([(q7, .inl (E.2 0, 8, .inl (fun _ => 0)))] ++ wPr E (b19 0) (b19 1) (b19 2) 8 z0X3.1 z0X3.2.1 z0X3.2.2)) from gmerge_last rfl) ?_
  refine g_putF (ws' := ((h0, .inr (0, [.ref q7, .ref (b19 0)])) :: ([(q7, .inl (E.2 0, 8, .inl (fun _ => 0)))] ++ wPr E (b19 0) (b19 1) (b19 2) 8 z0X3.1 z0X3.2.1 z0X3.2.2))) (ty := (.object "WatchBench$Pairs")) h rfl flX0_20 gftX0 rfl rfl (by decide +kernel) dX0_init_22 0 rfl rfl rfl (Nat.le_of_ble_eq_true rfl) rfl ?_
  refine g_return h dX0_init_25 rfl ⟨(Nat.le_of_ble_eq_true rfl), (Nat.le_of_ble_eq_true rfl), rfl, rfl, fun k => if k = 0 then h0 else if k = 1 then q7 else if k = 2 then (b19 0) else if k = 3 then (b19 1) else if k = 4 then (b19 2) else h0, rfl, ?_⟩
  rfl
set_option maxHeartbeats 4000000 in
set_option maxRecDepth 100000 in
theorem kX7_init {l : Launch} {E : gE} {h0 : Nat}  : Ctr l yX7_init cX7_init 1 none (gRI 1 3 108 20) E [.ref h0] [(h0, .inr (6, [.null, .null, .null]))] (fun v w => v = none ∧ ∃ a : Nat → Nat, a 0 = h0 ∧ w = wSp E (a 0) (a 1) (a 2) (a 3) z0X7.1 z0X7.2.1 z0X7.2.2) := by
  refine ctr_of true (plainFor_of_name (by decide)) (Nat.le_of_ble_eq_true rfl) (fun _ => rfl) (fun Γ h => ?_)
  refine g_lv [some _] rfl ?_
  refine g_aload_n h dX7_init_0 rfl ?_
  refine g_objInit h dX7_init_1 lkX7_3 goi1 goi2 (Nat.le_of_ble_eq_true rfl) (Nat.le_of_ble_eq_true rfl) (Nat.le_of_ble_eq_true rfl) ?_
  refine g_aload_n h dX7_init_4 rfl ?_
  refine g_bipush (v := 36) h dX7_init_5 (by decide) ?_
  refine g_newaZ (N := 36) h dX7_init_7 gar_boolean rfl (by decide) (Nat.le_of_ble_eq_true rfl) (Nat.le_of_ble_eq_true rfl) (fun q7 => ?_)
  refine g_as rfl rfl rfl (show _ = ((h0, .inr (6, [.null, .null, .null])) :: [(q7, .inl (E.2 3, 36, .inl (fun _ => 0)))]) from rfl) ?_
  refine g_putF (ws' := ((h0, .inr (6, [.ref q7, .null, .null])) :: [(q7, .inl (E.2 3, 36, .inl (fun _ => 0)))])) (ty := (.array .boolean)) h rfl flX7_9 gftX7 rfl rfl (by decide +kernel) dX7_init_9 0 rfl rfl rfl (Nat.le_of_ble_eq_true rfl) rfl ?_
  refine g_aload_n h dX7_init_12 rfl ?_
  refine g_bipush (v := 36) h dX7_init_13 (by decide) ?_
  refine g_newaI (N := 36) h dX7_init_15 gar_int rfl (by decide) (Nat.le_of_ble_eq_true rfl) (Nat.le_of_ble_eq_true rfl) (fun q15 => ?_)
  refine g_as rfl rfl rfl (show _ = ((h0, .inr (6, [.ref q7, .null, .null])) :: ([(q7, .inl (E.2 3, 36, .inl (fun _ => 0)))] ++ [(q15, .inl (E.2 0, 36, .inl (fun _ => 0)))])) from rfl) ?_
  refine g_putF (ws' := ((h0, .inr (6, [.ref q7, .ref q15, .null])) :: ([(q7, .inl (E.2 3, 36, .inl (fun _ => 0)))] ++ [(q15, .inl (E.2 0, 36, .inl (fun _ => 0)))]))) (ty := (.array .int)) h rfl flX7_15 gftX7 rfl rfl (by decide +kernel) dX7_init_17 0 rfl rfl rfl (Nat.le_of_ble_eq_true rfl) rfl ?_
  refine g_aload_n h dX7_init_20 rfl ?_
  refine g_bipush (v := 36) h dX7_init_21 (by decide) ?_
  refine g_newaI (N := 36) h dX7_init_23 gar_int rfl (by decide) (Nat.le_of_ble_eq_true rfl) (Nat.le_of_ble_eq_true rfl) (fun q23 => ?_)
  refine g_as rfl rfl rfl (show _ = ((h0, .inr (6, [.ref q7, .ref q15, .null])) :: (([(q7, .inl (E.2 3, 36, .inl (fun _ => 0)))] ++ [(q15, .inl (E.2 0, 36, .inl (fun _ => 0)))]) ++ [(q23, .inl (E.2 0, 36, .inl (fun _ => 0)))])) from rfl) ?_
  refine g_putF (ws' := ((h0, .inr (6, [.ref q7, .ref q15, .ref q23])) :: (([(q7, .inl (E.2 3, 36, .inl (fun _ => 0)))] ++ [(q15, .inl (E.2 0, 36, .inl (fun _ => 0)))]) ++ [(q23, .inl (E.2 0, 36, .inl (fun _ => 0)))]))) (ty := (.array .int)) h rfl flX7_19 gftX7 rfl rfl (by decide +kernel) dX7_init_25 0 rfl rfl rfl (Nat.le_of_ble_eq_true rfl) rfl ?_
  refine g_return h dX7_init_28 rfl ⟨(Nat.le_of_ble_eq_true rfl), (Nat.le_of_ble_eq_true rfl), rfl, rfl, fun k => if k = 0 then h0 else if k = 1 then q7 else if k = 2 then q15 else if k = 3 then q23 else h0, rfl, ?_⟩
  rfl
set_option maxHeartbeats 4000000 in
set_option maxRecDepth 100000 in
theorem kX8_init {l : Launch} {E : gE} {h0 : Nat}  : Ctr l yX8_init cX8_init 1 none (gRI 3 15 202 63) E [.ref h0] [(h0, .inr (7, [.null, .null, .null, .null]))] (fun v w => v = none ∧ ∃ a : Nat → Nat, a 0 = h0 ∧ w = wSt E (a 0) (a 1) (a 2) (a 3) (a 4) (a 5) (a 6) (a 7) (a 8) (a 9) (a 10) (a 11) (a 12) (a 13) (a 14) (a 15) z0X8.1.1 z0X8.1.2.1 z0X8.1.2.2.1 z0X8.1.2.2.2 z0X8.2.1.1 z0X8.2.1.2.1 z0X8.2.1.2.2 z0X8.2.2.1.1 z0X8.2.2.1.2.1 z0X8.2.2.1.2.2 z0X8.2.2.2.1 z0X8.2.2.2.2.1 z0X8.2.2.2.2.2) := by
  refine ctr_of true (plainFor_of_name (by decide)) (Nat.le_of_ble_eq_true rfl) (fun _ => rfl) (fun Γ h => ?_)
  refine g_lv [some _] rfl ?_
  refine g_aload_n h dX8_init_0 rfl ?_
  refine g_objInit h dX8_init_1 lkX8_3 goi1 goi2 (Nat.le_of_ble_eq_true rfl) (Nat.le_of_ble_eq_true rfl) (Nat.le_of_ble_eq_true rfl) ?_
  refine g_aload_n h dX8_init_4 rfl ?_
  refine g_new (ci := 0) (fs := [.null, .null]) (C := RX0) (T := TX0) (N := 2) h tyX0 rfl gin0 tyX0_ok (gtm (by decide +kernel)) (gtm (by decide +kernel)) (gtm (by decide +kernel)) dX8_init_5 dvX0 (Nat.le_of_ble_eq_true rfl) (Nat.le_of_ble_eq_true rfl) (fun q5 => ?_)
  refine g_as rfl rfl rfl (show _ = ((h0, .inr (7, [.null, .null, .null, .null])) :: [(q5, .inr (0, [.null, .null]))]) from rfl) ?_
  refine g_dup h dX8_init_8 rfl ?_
  refine g_callIN h kX0_init mX0_init lkX8_11 dX8_init_9 rfl rfl ⟨Nat.le_of_ble_eq_true rfl, Nat.le_of_ble_eq_true rfl⟩ ⟨Nat.le_of_ble_eq_true rfl, Nat.le_of_ble_eq_true rfl⟩ (Nat.le_of_ble_eq_true rfl) [1] rfl rfl (fun v w1 hp => ?_)
  obtain ⟨rfl, b9, rfl, rfl⟩ := hp
  refine g_as rfl rfl rfl (show _ = ((h0, .inr (7, [.null, .null, .null, .null])) :: wCa E (b9 0) (b9 1) (b9 2) (b9 3) (b9 4) z0X0.1 z0X0.2.1 z0X0.2.2.1 z0X0.2.2.2) from gmerge_first) ?_
  refine g_putF (ws' := ((h0, .inr (7, [.ref (b9 0), .null, .null, .null])) :: wCa E (b9 0) (b9 1) (b9 2) (b9 3) (b9 4) z0X0.1 z0X0.2.1 z0X0.2.2.1 z0X0.2.2.2)) (ty := (.object "WatchBench$Causes")) h rfl flX8_12 gftX8 rfl rfl (by decide +kernel) dX8_init_12 0 rfl rfl rfl (Nat.le_of_ble_eq_true rfl) rfl ?_
  refine g_aload_n h dX8_init_15 rfl ?_
  refine g_new (ci := 2) (fs := [.null, .null, .int 0]) (C := RX3) (T := TX3) (N := 3) h tyX3 rfl gin3 tyX3_ok (gtm (by decide +kernel)) (gtm (by decide +kernel)) (gtm (by decide +kernel)) dX8_init_16 dvX3 (Nat.le_of_ble_eq_true rfl) (Nat.le_of_ble_eq_true rfl) (fun q16 => ?_)
  refine g_as rfl rfl rfl (show _ = ((h0, .inr (7, [.ref (b9 0), .null, .null, .null])) :: (wCa E (b9 0) (b9 1) (b9 2) (b9 3) (b9 4) z0X0.1 z0X0.2.1 z0X0.2.2.1 z0X0.2.2.2 ++ [(q16, .inr (2, [.null, .null, .int 0]))])) from rfl) ?_
  refine g_dup h dX8_init_19 rfl ?_
  refine g_bipush (v := 20) h dX8_init_20 (by decide) ?_
  refine g_callI h (kX3_init (cap := 20) (by decide)) mX3_init lkX8_20 dX8_init_22 rfl rfl ⟨Nat.le_of_ble_eq_true rfl, Nat.le_of_ble_eq_true rfl⟩ ⟨Nat.le_of_ble_eq_true rfl, Nat.le_of_ble_eq_true rfl⟩ (Nat.le_of_ble_eq_true rfl) [6] rfl rfl (fun v w1 hp => ?_)
  obtain ⟨rfl, b22, rfl, rfl⟩ := hp
  refine g_as rfl rfl rfl (show _ = ((h0, .inr (7, [.ref (b9 0), .null, .null, .null])) :: (wCa E (b9 0) (b9 1) (b9 2) (b9 3) (b9 4) z0X0.1 z0X0.2.1 z0X0.2.2.1 z0X0.2.2.2 ++ wPr E (b22 0) (b22 1) (b22 2) 20 z0X3.1 z0X3.2.1 z0X3.2.2)) from gmerge_last rfl) ?_
  refine g_putF (ws' := ((h0, .inr (7, [.ref (b9 0), .ref (b22 0), .null, .null])) :: (wCa E (b9 0) (b9 1) (b9 2) (b9 3) (b9 4) z0X0.1 z0X0.2.1 z0X0.2.2.1 z0X0.2.2.2 ++ wPr E (b22 0) (b22 1) (b22 2) 20 z0X3.1 z0X3.2.1 z0X3.2.2))) (ty := (.object "WatchBench$Pairs")) h rfl flX8_23 gftX8 rfl rfl (by decide +kernel) dX8_init_25 0 rfl rfl rfl (Nat.le_of_ble_eq_true rfl) rfl ?_
  refine g_aload_n h dX8_init_28 rfl ?_
  refine g_new (ci := 2) (fs := [.null, .null, .int 0]) (C := RX3) (T := TX3) (N := 3) h tyX3 rfl gin3 tyX3_ok (gtm (by decide +kernel)) (gtm (by decide +kernel)) (gtm (by decide +kernel)) dX8_init_29 dvX3 (Nat.le_of_ble_eq_true rfl) (Nat.le_of_ble_eq_true rfl) (fun q29 => ?_)
  refine g_as rfl rfl rfl (show _ = ((h0, .inr (7, [.ref (b9 0), .ref (b22 0), .null, .null])) :: ((wCa E (b9 0) (b9 1) (b9 2) (b9 3) (b9 4) z0X0.1 z0X0.2.1 z0X0.2.2.1 z0X0.2.2.2 ++ wPr E (b22 0) (b22 1) (b22 2) 20 z0X3.1 z0X3.2.1 z0X3.2.2) ++ [(q29, .inr (2, [.null, .null, .int 0]))])) from rfl) ?_
  refine g_dup h dX8_init_32 rfl ?_
  refine g_bipush (v := 8) h dX8_init_33 (by decide) ?_
  refine g_callI h (kX3_init (cap := 8) (by decide)) mX3_init lkX8_20 dX8_init_35 rfl rfl ⟨Nat.le_of_ble_eq_true rfl, Nat.le_of_ble_eq_true rfl⟩ ⟨Nat.le_of_ble_eq_true rfl, Nat.le_of_ble_eq_true rfl⟩ (Nat.le_of_ble_eq_true rfl) [9] rfl rfl (fun v w1 hp => ?_)
  obtain ⟨rfl, b35, rfl, rfl⟩ := hp
  refine g_as rfl rfl rfl (show _ = ((h0, .inr (7, [.ref (b9 0), .ref (b22 0), .null, .null])) :: ((wCa E (b9 0) (b9 1) (b9 2) (b9 3) (b9 4) z0X0.1 z0X0.2.1 z0X0.2.2.1 z0X0.2.2.2 ++ wPr E (b22 0) (b22 1) (b22 2) 20 z0X3.1 z0X3.2.1 z0X3.2.2) ++ wPr E (b35 0) (b35 1) (b35 2) 8 z0X3.1 z0X3.2.1 z0X3.2.2)) from gmerge_last rfl) ?_
  refine g_putF (ws' := ((h0, .inr (7, [.ref (b9 0), .ref (b22 0), .ref (b35 0), .null])) :: ((wCa E (b9 0) (b9 1) (b9 2) (b9 3) (b9 4) z0X0.1 z0X0.2.1 z0X0.2.2.1 z0X0.2.2.2 ++ wPr E (b22 0) (b22 1) (b22 2) 20 z0X3.1 z0X3.2.1 z0X3.2.2) ++ wPr E (b35 0) (b35 1) (b35 2) 8 z0X3.1 z0X3.2.1 z0X3.2.2))) (ty := (.object "WatchBench$Pairs")) h rfl flX8_27 gftX8 rfl rfl (by decide +kernel) dX8_init_38 0 rfl rfl rfl (Nat.le_of_ble_eq_true rfl) rfl ?_
  refine g_aload_n h dX8_init_41 rfl ?_
  refine g_new (ci := 6) (fs := [.null, .null, .null]) (C := RX7) (T := TX7) (N := 3) h tyX7 rfl gin7 tyX7_ok (gtm (by decide +kernel)) (gtm (by decide +kernel)) (gtm (by decide +kernel)) dX8_init_42 dvX7 (Nat.le_of_ble_eq_true rfl) (Nat.le_of_ble_eq_true rfl) (fun q42 => ?_)
  refine g_as rfl rfl rfl (show _ = ((h0, .inr (7, [.ref (b9 0), .ref (b22 0), .ref (b35 0), .null])) :: (((wCa E (b9 0) (b9 1) (b9 2) (b9 3) (b9 4) z0X0.1 z0X0.2.1 z0X0.2.2.1 z0X0.2.2.2 ++ wPr E (b22 0) (b22 1) (b22 2) 20 z0X3.1 z0X3.2.1 z0X3.2.2) ++ wPr E (b35 0) (b35 1) (b35 2) 8 z0X3.1 z0X3.2.1 z0X3.2.2) ++ [(q42, .inr (6, [.null, .null, .null]))])) from rfl) ?_
  refine g_dup h dX8_init_45 rfl ?_
  refine g_callIN h kX7_init mX7_init lkX8_32 dX8_init_46 rfl rfl ⟨Nat.le_of_ble_eq_true rfl, Nat.le_of_ble_eq_true rfl⟩ ⟨Nat.le_of_ble_eq_true rfl, Nat.le_of_ble_eq_true rfl⟩ (Nat.le_of_ble_eq_true rfl) [12] rfl rfl (fun v w1 hp => ?_)
  obtain ⟨rfl, b46, rfl, rfl⟩ := hp
  refine g_as rfl rfl rfl (show _ = ((h0, .inr (7, [.ref (b9 0), .ref (b22 0), .ref (b35 0), .null])) :: (((wCa E (b9 0) (b9 1) (b9 2) (b9 3) (b9 4) z0X0.1 z0X0.2.1 z0X0.2.2.1 z0X0.2.2.2 ++ wPr E (b22 0) (b22 1) (b22 2) 20 z0X3.1 z0X3.2.1 z0X3.2.2) ++ wPr E (b35 0) (b35 1) (b35 2) 8 z0X3.1 z0X3.2.1 z0X3.2.2) ++ wSp E (b46 0) (b46 1) (b46 2) (b46 3) z0X7.1 z0X7.2.1 z0X7.2.2)) from gmerge_last rfl) ?_
  refine g_putF (ws' := ((h0, .inr (7, [.ref (b9 0), .ref (b22 0), .ref (b35 0), .ref (b46 0)])) :: (((wCa E (b9 0) (b9 1) (b9 2) (b9 3) (b9 4) z0X0.1 z0X0.2.1 z0X0.2.2.1 z0X0.2.2.2 ++ wPr E (b22 0) (b22 1) (b22 2) 20 z0X3.1 z0X3.2.1 z0X3.2.2) ++ wPr E (b35 0) (b35 1) (b35 2) 8 z0X3.1 z0X3.2.1 z0X3.2.2) ++ wSp E (b46 0) (b46 1) (b46 2) (b46 3) z0X7.1 z0X7.2.1 z0X7.2.2))) (ty := (.object "WatchBench$Spans")) h rfl flX8_33 gftX8 rfl rfl (by decide +kernel) dX8_init_49 0 rfl rfl rfl (Nat.le_of_ble_eq_true rfl) rfl ?_
  refine g_return h dX8_init_52 rfl ⟨(Nat.le_of_ble_eq_true rfl), (Nat.le_of_ble_eq_true rfl), rfl, rfl, fun k => if k = 0 then h0 else if k < 6 then b9 (k - 1) else if k = 6 then (b22 0) else if k = 7 then (b22 1) else if k = 8 then (b22 2) else if k = 9 then (b35 0) else if k = 10 then (b35 1) else if k = 11 then (b35 2) else if k = 12 then (b46 0) else if k = 13 then (b46 1) else if k = 14 then (b46 2) else if k = 15 then (b46 3) else h0, rfl, ?_⟩
  rfl
set_option maxHeartbeats 4000000 in
set_option maxRecDepth 100000 in
theorem kX9_init {l : Launch} {E : gE} {h0 : Nat}  : Ctr l yX9_init cX9_init 1 none (gRI 2 3 123 43) E [.ref h0] [(h0, .inr (8, [.null]))] (fun v w => v = none ∧ ∃ a : Nat → Nat, a 0 = h0 ∧ w = wTr E (a 0) (a 1) (a 2) (a 3) z0X9.1 z0X9.2.1 z0X9.2.2) := by
  refine ctr_of true (plainFor_of_name (by decide)) (Nat.le_of_ble_eq_true rfl) (fun _ => rfl) (fun Γ h => ?_)
  refine g_lv [some _] rfl ?_
  refine g_aload_n h dX9_init_0 rfl ?_
  refine g_objInit h dX9_init_1 lkX9_3 goi1 goi2 (Nat.le_of_ble_eq_true rfl) (Nat.le_of_ble_eq_true rfl) (Nat.le_of_ble_eq_true rfl) ?_
  refine g_aload_n h dX9_init_4 rfl ?_
  refine g_new (ci := 2) (fs := [.null, .null, .int 0]) (C := RX3) (T := TX3) (N := 3) h tyX3 rfl gin3 tyX3_ok (gtm (by decide +kernel)) (gtm (by decide +kernel)) (gtm (by decide +kernel)) dX9_init_5 dvX3 (Nat.le_of_ble_eq_true rfl) (Nat.le_of_ble_eq_true rfl) (fun q5 => ?_)
  refine g_as rfl rfl rfl (show _ = ((h0, .inr (8, [.null])) :: [(q5, .inr (2, [.null, .null, .int 0]))]) from rfl) ?_
  refine g_dup h dX9_init_8 rfl ?_
  refine g_bipush (v := 60) h dX9_init_9 (by decide) ?_
  refine g_callI h (kX3_init (cap := 60) (by decide)) mX3_init lkX9_11 dX9_init_11 rfl rfl ⟨Nat.le_of_ble_eq_true rfl, Nat.le_of_ble_eq_true rfl⟩ ⟨Nat.le_of_ble_eq_true rfl, Nat.le_of_ble_eq_true rfl⟩ (Nat.le_of_ble_eq_true rfl) [1] rfl rfl (fun v w1 hp => ?_)
  obtain ⟨rfl, b11, rfl, rfl⟩ := hp
  refine g_as rfl rfl rfl (show _ = ((h0, .inr (8, [.null])) :: wPr E (b11 0) (b11 1) (b11 2) 60 z0X3.1 z0X3.2.1 z0X3.2.2) from gmerge_first) ?_
  refine g_putF (ws' := ((h0, .inr (8, [.ref (b11 0)])) :: wPr E (b11 0) (b11 1) (b11 2) 60 z0X3.1 z0X3.2.1 z0X3.2.2)) (ty := (.object "WatchBench$Pairs")) h rfl flX9_14 gftX9 rfl rfl (by decide +kernel) dX9_init_14 0 rfl rfl rfl (Nat.le_of_ble_eq_true rfl) rfl ?_
  refine g_return h dX9_init_17 rfl ⟨(Nat.le_of_ble_eq_true rfl), (Nat.le_of_ble_eq_true rfl), rfl, rfl, fun k => if k = 0 then h0 else if k = 1 then (b11 0) else if k = 2 then (b11 1) else if k = 3 then (b11 2) else h0, rfl, ?_⟩
  rfl
set_option maxHeartbeats 4000000 in
set_option maxRecDepth 100000 in
theorem kX4_init {l : Launch} {E : gE} {h0 : Nat}  : Ctr l yX4_init cX4_init 1 none (gRI 1 4 127 20) E [.ref h0] [(h0, .inr (3, [.null, .null, .null, .int 0, .null]))] (fun v w => v = none ∧ ∃ a : Nat → Nat, a 0 = h0 ∧ w = wPd E (a 0) (a 1) (a 2) (a 3) (a 4) z0X4.1 z0X4.2.1 z0X4.2.2.1 z0X4.2.2.2.1 z0X4.2.2.2.2) := by
  refine ctr_of true (plainFor_of_name (by decide)) (Nat.le_of_ble_eq_true rfl) (fun _ => rfl) (fun Γ h => ?_)
  refine g_lv [some _] rfl ?_
  refine g_aload_n h dX4_init_0 rfl ?_
  refine g_objInit h dX4_init_1 lkX4_3 goi1 goi2 (Nat.le_of_ble_eq_true rfl) (Nat.le_of_ble_eq_true rfl) (Nat.le_of_ble_eq_true rfl) ?_
  refine g_aload_n h dX4_init_4 rfl ?_
  refine g_bipush (v := 9) h dX4_init_5 (by decide) ?_
  refine g_newaJ (N := 9) h dX4_init_7 gar_long rfl (by decide) (Nat.le_of_ble_eq_true rfl) (Nat.le_of_ble_eq_true rfl) (fun q7 => ?_)
  refine g_as rfl rfl rfl (show _ = ((h0, .inr (3, [.null, .null, .null, .int 0, .null])) :: [(q7, .inl (E.2 1, 9, .inr (.inl (fun _ => 0))))]) from rfl) ?_
  refine g_putF (ws' := ((h0, .inr (3, [.ref q7, .null, .null, .int 0, .null])) :: [(q7, .inl (E.2 1, 9, .inr (.inl (fun _ => 0))))])) (ty := (.array .long)) h rfl flX4_11 gftX4 rfl rfl (by decide +kernel) dX4_init_9 0 rfl rfl rfl (Nat.le_of_ble_eq_true rfl) rfl ?_
  refine g_aload_n h dX4_init_12 rfl ?_
  refine g_bipush (v := 81) h dX4_init_13 (by decide) ?_
  refine g_newaJ (N := 81) h dX4_init_15 gar_long rfl (by decide) (Nat.le_of_ble_eq_true rfl) (Nat.le_of_ble_eq_true rfl) (fun q15 => ?_)
  refine g_as rfl rfl rfl (show _ = ((h0, .inr (3, [.ref q7, .null, .null, .int 0, .null])) :: ([(q7, .inl (E.2 1, 9, .inr (.inl (fun _ => 0))))] ++ [(q15, .inl (E.2 1, 81, .inr (.inl (fun _ => 0))))])) from rfl) ?_
  refine g_putF (ws' := ((h0, .inr (3, [.ref q7, .ref q15, .null, .int 0, .null])) :: ([(q7, .inl (E.2 1, 9, .inr (.inl (fun _ => 0))))] ++ [(q15, .inl (E.2 1, 81, .inr (.inl (fun _ => 0))))]))) (ty := (.array .long)) h rfl flX4_15 gftX4 rfl rfl (by decide +kernel) dX4_init_17 0 rfl rfl rfl (Nat.le_of_ble_eq_true rfl) rfl ?_
  refine g_aload_n h dX4_init_20 rfl ?_
  refine g_iconst (v := 5) h dX4_init_21 (by decide) ?_
  refine g_newaI (N := 5) h dX4_init_22 gar_int rfl (by decide) (Nat.le_of_ble_eq_true rfl) (Nat.le_of_ble_eq_true rfl) (fun q22 => ?_)
  refine g_as rfl rfl rfl (show _ = ((h0, .inr (3, [.ref q7, .ref q15, .null, .int 0, .null])) :: (([(q7, .inl (E.2 1, 9, .inr (.inl (fun _ => 0))))] ++ [(q15, .inl (E.2 1, 81, .inr (.inl (fun _ => 0))))]) ++ [(q22, .inl (E.2 0, 5, .inl (fun _ => 0)))])) from rfl) ?_
  refine g_putF (ws' := ((h0, .inr (3, [.ref q7, .ref q15, .ref q22, .int 0, .null])) :: (([(q7, .inl (E.2 1, 9, .inr (.inl (fun _ => 0))))] ++ [(q15, .inl (E.2 1, 81, .inr (.inl (fun _ => 0))))]) ++ [(q22, .inl (E.2 0, 5, .inl (fun _ => 0)))]))) (ty := (.array .int)) h rfl flX4_18 gftX4 rfl rfl (by decide +kernel) dX4_init_24 0 rfl rfl rfl (Nat.le_of_ble_eq_true rfl) rfl ?_
  refine g_aload_n h dX4_init_27 rfl ?_
  refine g_bipush (v := 32) h dX4_init_28 (by decide) ?_
  refine g_newaJ (N := 32) h dX4_init_30 gar_long rfl (by decide) (Nat.le_of_ble_eq_true rfl) (Nat.le_of_ble_eq_true rfl) (fun q30 => ?_)
  refine g_as rfl rfl rfl (show _ = ((h0, .inr (3, [.ref q7, .ref q15, .ref q22, .int 0, .null])) :: ((([(q7, .inl (E.2 1, 9, .inr (.inl (fun _ => 0))))] ++ [(q15, .inl (E.2 1, 81, .inr (.inl (fun _ => 0))))]) ++ [(q22, .inl (E.2 0, 5, .inl (fun _ => 0)))]) ++ [(q30, .inl (E.2 1, 32, .inr (.inl (fun _ => 0))))])) from rfl) ?_
  refine g_putF (ws' := ((h0, .inr (3, [.ref q7, .ref q15, .ref q22, .int 0, .ref q30])) :: ((([(q7, .inl (E.2 1, 9, .inr (.inl (fun _ => 0))))] ++ [(q15, .inl (E.2 1, 81, .inr (.inl (fun _ => 0))))]) ++ [(q22, .inl (E.2 0, 5, .inl (fun _ => 0)))]) ++ [(q30, .inl (E.2 1, 32, .inr (.inl (fun _ => 0))))]))) (ty := (.array .long)) h rfl flX4_22 gftX4 rfl rfl (by decide +kernel) dX4_init_32 0 rfl rfl rfl (Nat.le_of_ble_eq_true rfl) rfl ?_
  refine g_return h dX4_init_35 rfl ⟨(Nat.le_of_ble_eq_true rfl), (Nat.le_of_ble_eq_true rfl), rfl, rfl, fun k => if k = 0 then h0 else if k = 1 then q7 else if k = 2 then q15 else if k = 3 then q22 else if k = 4 then q30 else h0, rfl, ?_⟩
  rfl
set_option maxHeartbeats 4000000 in
set_option maxRecDepth 100000 in
theorem kX6_init {l : Launch} {E : gE} {h0 : Nat}  : Ctr l yX6_init cX6_init 1 none (gRI 1 1 8 20) E [.ref h0] [(h0, .inr (5, [.int 0, .int 0, .int 0, .null, .long 0, .long 0]))] (fun v w => v = none ∧ ∃ a : Nat → Nat, a 0 = h0 ∧ w = wSz E (a 0) (a 1) z0X6.1 z0X6.2.1 z0X6.2.2.1 z0X6.2.2.2.1 z0X6.2.2.2.2.1 z0X6.2.2.2.2.2) := by
  refine ctr_of true (plainFor_of_name (by decide)) (Nat.le_of_ble_eq_true rfl) (fun _ => rfl) (fun Γ h => ?_)
  refine g_lv [some _] rfl ?_
  refine g_aload_n h dX6_init_0 rfl ?_
  refine g_objInit h dX6_init_1 lkX6_3 goi1 goi2 (Nat.le_of_ble_eq_true rfl) (Nat.le_of_ble_eq_true rfl) (Nat.le_of_ble_eq_true rfl) ?_
  refine g_aload_n h dX6_init_4 rfl ?_
  refine g_bipush (v := 8) h dX6_init_5 (by decide) ?_
  refine g_newaJ (N := 8) h dX6_init_7 gar_long rfl (by decide) (Nat.le_of_ble_eq_true rfl) (Nat.le_of_ble_eq_true rfl) (fun q7 => ?_)
  refine g_as rfl rfl rfl (show _ = ((h0, .inr (5, [.int 0, .int 0, .int 0, .null, .long 0, .long 0])) :: [(q7, .inl (E.2 1, 8, .inr (.inl (fun _ => 0))))]) from rfl) ?_
  refine g_putF (ws' := ((h0, .inr (5, [.int 0, .int 0, .int 0, .ref q7, .long 0, .long 0])) :: [(q7, .inl (E.2 1, 8, .inr (.inl (fun _ => 0))))])) (ty := (.array .long)) h rfl flX6_9 gftX6 rfl rfl (by decide +kernel) dX6_init_9 0 rfl rfl rfl (Nat.le_of_ble_eq_true rfl) rfl ?_
  refine g_aload_n h dX6_init_12 rfl ?_
  refine g_lconst (v := 1) h dX6_init_13 (by decide) ?_
  refine g_put (ws' := ((h0, .inr (5, [.int 0, .int 0, .int 0, .ref q7, .long 1, .long 0])) :: [(q7, .inl (E.2 1, 8, .inr (.inl (fun _ => 0))))])) (ty := .long) h flX6_15 gftX6 rfl (by decide +kernel) dX6_init_14 0 rfl rfl rfl (Nat.le_of_ble_eq_true rfl) rfl ?_
  refine g_return h dX6_init_17 rfl ⟨(Nat.le_of_ble_eq_true rfl), (Nat.le_of_ble_eq_true rfl), rfl, rfl, fun k => if k = 0 then h0 else if k = 1 then q7 else h0, rfl, ?_⟩
  rfl
set_option maxHeartbeats 4000000 in
set_option maxRecDepth 100000 in
theorem kX1_init {l : Launch} {E : gE} {h0 : Nat}  : Ctr l yX1_init cX1_init 1 none (gRI 1 2 324 20) E [.ref h0] [(h0, .inr (1, [.null, .null, .int 0, .int 0, .long 0, .long 0]))] (fun v w => v = none ∧ ∃ a : Nat → Nat, a 0 = h0 ∧ w = wMs E (a 0) (a 1) (a 2) z0X1.1 z0X1.2.1 z0X1.2.2.1 z0X1.2.2.2.1 z0X1.2.2.2.2.1 z0X1.2.2.2.2.2) := by
  refine ctr_of true (plainFor_of_name (by decide)) (Nat.le_of_ble_eq_true rfl) (fun _ => rfl) (fun Γ h => ?_)
  refine g_lv [some _] rfl ?_
  refine g_aload_n h dX1_init_0 rfl ?_
  refine g_objInit h dX1_init_1 lkX1_3 goi1 goi2 (Nat.le_of_ble_eq_true rfl) (Nat.le_of_ble_eq_true rfl) (Nat.le_of_ble_eq_true rfl) ?_
  refine g_aload_n h dX1_init_4 rfl ?_
  refine g_bipush (v := 36) h dX1_init_5 (by decide) ?_
  refine g_newaJ (N := 36) h dX1_init_7 gar_long rfl (by decide) (Nat.le_of_ble_eq_true rfl) (Nat.le_of_ble_eq_true rfl) (fun q7 => ?_)
  refine g_as rfl rfl rfl (show _ = ((h0, .inr (1, [.null, .null, .int 0, .int 0, .long 0, .long 0])) :: [(q7, .inl (E.2 1, 36, .inr (.inl (fun _ => 0))))]) from rfl) ?_
  refine g_putF (ws' := ((h0, .inr (1, [.ref q7, .null, .int 0, .int 0, .long 0, .long 0])) :: [(q7, .inl (E.2 1, 36, .inr (.inl (fun _ => 0))))])) (ty := (.array .long)) h rfl flX1_9 gftX1 rfl rfl (by decide +kernel) dX1_init_9 0 rfl rfl rfl (Nat.le_of_ble_eq_true rfl) rfl ?_
  refine g_aload_n h dX1_init_12 rfl ?_
  refine g_sipush (v := 288) h dX1_init_13 (by decide) ?_
  refine g_newaJ (N := 288) h dX1_init_16 gar_long rfl (by decide) (Nat.le_of_ble_eq_true rfl) (Nat.le_of_ble_eq_true rfl) (fun q16 => ?_)
  refine g_as rfl rfl rfl (show _ = ((h0, .inr (1, [.ref q7, .null, .int 0, .int 0, .long 0, .long 0])) :: ([(q7, .inl (E.2 1, 36, .inr (.inl (fun _ => 0))))] ++ [(q16, .inl (E.2 1, 288, .inr (.inl (fun _ => 0))))])) from rfl) ?_
  refine g_putF (ws' := ((h0, .inr (1, [.ref q7, .ref q16, .int 0, .int 0, .long 0, .long 0])) :: ([(q7, .inl (E.2 1, 36, .inr (.inl (fun _ => 0))))] ++ [(q16, .inl (E.2 1, 288, .inr (.inl (fun _ => 0))))]))) (ty := (.array .long)) h rfl flX1_15 gftX1 rfl rfl (by decide +kernel) dX1_init_18 0 rfl rfl rfl (Nat.le_of_ble_eq_true rfl) rfl ?_
  refine g_return h dX1_init_21 rfl ⟨(Nat.le_of_ble_eq_true rfl), (Nat.le_of_ble_eq_true rfl), rfl, rfl, fun k => if k = 0 then h0 else if k = 1 then q7 else if k = 2 then q16 else h0, rfl, ?_⟩
  rfl
set_option maxHeartbeats 4000000 in
set_option maxRecDepth 100000 in
theorem kX5_init {l : Launch} {E : gE} {h0 : Nat}  : Ctr2 l yX5_init cX5_init 1 none (gRI 1 5 114 23) E [.ref h0] [(h0, .inr (4, [.null, .null]))] (fun v w => v = none ∧ ∃ a : Nat → Nat, a 0 = h0 ∧ w = wSh E (a 0) (a 1) (a 2) (a 3) (a 4) (a 5) z0X5.1 z0X5.2) := by
  refine ctr2_of true (plainFor_of_name (by decide)) (Nat.le_of_ble_eq_true rfl) (fun _ => rfl) (fun Γ h => ?_)
  refine g_lv [some _] rfl ?_
  refine g_aload_n h.to dX5_init_0 rfl ?_
  refine g_objInit h.to dX5_init_1 lkX5_3 goi1 goi2 (Nat.le_of_ble_eq_true rfl) (Nat.le_of_ble_eq_true rfl) (Nat.le_of_ble_eq_true rfl) ?_
  refine g_aload_n h.to dX5_init_4 rfl ?_
  refine g_iconst (v := 3) h.to dX5_init_5 (by decide) ?_
  refine g_newaI (N := 3) h.to dX5_init_6 gar_int rfl (by decide) (Nat.le_of_ble_eq_true rfl) (Nat.le_of_ble_eq_true rfl) (fun q6 => ?_)
  refine g_as rfl rfl rfl (show _ = ((h0, .inr (4, [.null, .null])) :: [(q6, .inl (E.2 0, 3, .inl (fun _ => 0)))]) from rfl) ?_
  refine g_putF (ws' := ((h0, .inr (4, [.ref q6, .null])) :: [(q6, .inl (E.2 0, 3, .inl (fun _ => 0)))])) (ty := (.array .int)) h.to rfl flX5_11 gftX5 rfl rfl (by decide +kernel) dX5_init_8 0 rfl rfl rfl (Nat.le_of_ble_eq_true rfl) rfl ?_
  refine g_aload_n h.to dX5_init_11 rfl ?_
  refine g_iconst (v := 3) h.to dX5_init_12 (by decide) ?_
  refine g_bipush (v := 36) h.to dX5_init_13 (by decide) ?_
  refine g_mna h dX5_init_15 (gtm (by decide +kernel)) gar_short (Nat.le_of_ble_eq_true rfl) (Nat.le_of_ble_eq_true rfl) (fun q15 q15a q15b q15c => ?_)
  refine g_as rfl rfl rfl (show _ = ((h0, .inr (4, [.ref q6, .null])) :: ([(q6, .inl (E.2 0, 3, .inl (fun _ => 0)))] ++ [(q15, .inl (E.2 4, 3, .inr (.inr (.inr (.inr (shO q15a q15b q15c)))))), (q15a, .inl (E.2 2, 36, .inl (fun _ => 0))), (q15b, .inl (E.2 2, 36, .inl (fun _ => 0))), (q15c, .inl (E.2 2, 36, .inl (fun _ => 0)))])) from rfl) ?_
  refine g_putF (ws' := ((h0, .inr (4, [.ref q6, .ref q15])) :: ([(q6, .inl (E.2 0, 3, .inl (fun _ => 0)))] ++ [(q15, .inl (E.2 4, 3, .inr (.inr (.inr (.inr (shO q15a q15b q15c)))))), (q15a, .inl (E.2 2, 36, .inl (fun _ => 0))), (q15b, .inl (E.2 2, 36, .inl (fun _ => 0))), (q15c, .inl (E.2 2, 36, .inl (fun _ => 0)))]))) (ty := (.array (.array .short))) h.to rfl flX5_17 gftX5 rfl rfl (by decide +kernel) dX5_init_19 0 rfl rfl rfl (Nat.le_of_ble_eq_true rfl) rfl ?_
  refine g_aload_n h.to dX5_init_22 rfl ?_
  refine g_get h.to flX5_11 dX5_init_23 0 rfl rfl ?_
  refine g_iconst (v := (-1)) h.to dX5_init_26 (by decide) ?_
  refine g_cSv (ws' := ((h0, .inr (4, [.ref q6, .ref q15])) :: ([(q6, .inl (E.2 0, 3, .inl (fillI (-1) (fun _ => 0) 3)))] ++ [(q15, .inl (E.2 4, 3, .inr (.inr (.inr (.inr (shO q15a q15b q15c)))))), (q15a, .inl (E.2 2, 36, .inl (fun _ => 0))), (q15b, .inl (E.2 2, 36, .inl (fun _ => 0))), (q15c, .inl (E.2 2, 36, .inl (fun _ => 0)))]))) h.to (kJ7_fill_53178 (h0 := q6) (m := 3) (f := fun _ => 0) (v := -1) (by decide)) mJ7_fill_53178 lkX5_20 dX5_init_27 rfl rfl ⟨Nat.le_of_ble_eq_true rfl, Nat.le_of_ble_eq_true rfl⟩ ⟨by decide, by decide⟩ (Nat.le_of_ble_eq_true rfl) [1] rfl rfl rfl ?_
  refine g_return h.to dX5_init_30 rfl ⟨(Nat.le_of_ble_eq_true rfl), (Nat.le_of_ble_eq_true rfl), rfl, rfl, fun k => if k = 0 then h0 else if k = 1 then q6 else if k = 2 then q15 else if k = 3 then q15a else if k = 4 then q15b else if k = 5 then q15c else h0, rfl, ?_⟩
  rfl
set_option maxHeartbeats 4000000 in
set_option maxRecDepth 100000 in
theorem kX10_init {l : Launch} {E : gE} {h0 : Nat}  : Ctr2 l yX10_init cX10_init 1 none (gRI 4 54 1152 83) E [.ref h0] [(h0, .inr (9, [.null, .null, .int 0, .null, .null, .null, .int 0, .null, .null, .null, .int 0, .null]))] (fun v w => v = none ∧ ∃ a : Nat → Nat, a 0 = h0 ∧ w = wWB E a z0X10) := by
  refine ctr2_of true (plainFor_of_name (by decide)) (Nat.le_of_ble_eq_true rfl) (fun _ => rfl) (fun Γ h => ?_)
  refine g_lv [some _] rfl ?_
  refine g_aload_n h.to dX10_init_0 rfl ?_
  refine g_objInit h.to dX10_init_1 lkX10_1 goi1 goi2 (Nat.le_of_ble_eq_true rfl) (Nat.le_of_ble_eq_true rfl) (Nat.le_of_ble_eq_true rfl) ?_
  refine g_aload_n h.to dX10_init_4 rfl ?_
  refine g_new (ci := 7) (fs := [.null, .null, .null, .null]) (C := RX8) (T := TX8) (N := 4) h.to tyX8 rfl gin8 tyX8_ok (gtm (by decide +kernel)) (gtm (by decide +kernel)) (gtm (by decide +kernel)) dX10_init_5 dvX8 (Nat.le_of_ble_eq_true rfl) (Nat.le_of_ble_eq_true rfl) (fun q5 => ?_)
  refine g_as rfl rfl rfl (show _ = ((h0, .inr (9, [.null, .null, .int 0, .null, .null, .null, .int 0, .null, .null, .null, .int 0, .null])) :: [(q5, .inr (7, [.null, .null, .null, .null]))]) from rfl) ?_
  refine g_dup h.to dX10_init_8 rfl ?_
  refine g_callIN h.to kX8_init mX8_init lkX10_9 dX10_init_9 rfl rfl ⟨Nat.le_of_ble_eq_true rfl, Nat.le_of_ble_eq_true rfl⟩ ⟨Nat.le_of_ble_eq_true rfl, Nat.le_of_ble_eq_true rfl⟩ (Nat.le_of_ble_eq_true rfl) [1] rfl rfl (fun v w1 hp => ?_)
  obtain ⟨rfl, b9, rfl, rfl⟩ := hp
  refine g_as rfl rfl rfl (show _ = ((h0, .inr (9, [.null, .null, .int 0, .null, .null, .null, .int 0, .null, .null, .null, .int 0, .null])) :: wSt E (b9 0) (b9 1) (b9 2) (b9 3) (b9 4) (b9 5) (b9 6) (b9 7) (b9 8) (b9 9) (b9 10) (b9 11) (b9 12) (b9 13) (b9 14) (b9 15) z0X8.1.1 z0X8.1.2.1 z0X8.1.2.2.1 z0X8.1.2.2.2 z0X8.2.1.1 z0X8.2.1.2.1 z0X8.2.1.2.2 z0X8.2.2.1.1 z0X8.2.2.1.2.1 z0X8.2.2.1.2.2 z0X8.2.2.2.1 z0X8.2.2.2.2.1 z0X8.2.2.2.2.2) from gmerge_first) ?_
  refine g_putF (ws' := ((h0, .inr (9, [.ref (b9 0), .null, .int 0, .null, .null, .null, .int 0, .null, .null, .null, .int 0, .null])) :: wSt E (b9 0) (b9 1) (b9 2) (b9 3) (b9 4) (b9 5) (b9 6) (b9 7) (b9 8) (b9 9) (b9 10) (b9 11) (b9 12) (b9 13) (b9 14) (b9 15) z0X8.1.1 z0X8.1.2.1 z0X8.1.2.2.1 z0X8.1.2.2.2 z0X8.2.1.1 z0X8.2.1.2.1 z0X8.2.1.2.2 z0X8.2.2.1.1 z0X8.2.2.1.2.1 z0X8.2.2.1.2.2 z0X8.2.2.2.1 z0X8.2.2.2.2.1 z0X8.2.2.2.2.2)) (ty := (.object "WatchBench$Stock")) h.to rfl flX10_10 gftX10 rfl rfl (by decide +kernel) dX10_init_12 0 rfl rfl rfl (Nat.le_of_ble_eq_true rfl) rfl ?_
  refine g_aload_n h.to dX10_init_15 rfl ?_
  refine g_new (ci := 7) (fs := [.null, .null, .null, .null]) (C := RX8) (T := TX8) (N := 4) h.to tyX8 rfl gin8 tyX8_ok (gtm (by decide +kernel)) (gtm (by decide +kernel)) (gtm (by decide +kernel)) dX10_init_16 dvX8 (Nat.le_of_ble_eq_true rfl) (Nat.le_of_ble_eq_true rfl) (fun q16 => ?_)
  refine g_as rfl rfl rfl (show _ = ((h0, .inr (9, [.ref (b9 0), .null, .int 0, .null, .null, .null, .int 0, .null, .null, .null, .int 0, .null])) :: (wSt E (b9 0) (b9 1) (b9 2) (b9 3) (b9 4) (b9 5) (b9 6) (b9 7) (b9 8) (b9 9) (b9 10) (b9 11) (b9 12) (b9 13) (b9 14) (b9 15) z0X8.1.1 z0X8.1.2.1 z0X8.1.2.2.1 z0X8.1.2.2.2 z0X8.2.1.1 z0X8.2.1.2.1 z0X8.2.1.2.2 z0X8.2.2.1.1 z0X8.2.2.1.2.1 z0X8.2.2.1.2.2 z0X8.2.2.2.1 z0X8.2.2.2.2.1 z0X8.2.2.2.2.2 ++ [(q16, .inr (7, [.null, .null, .null, .null]))])) from rfl) ?_
  refine g_dup h.to dX10_init_19 rfl ?_
  refine g_callIN h.to kX8_init mX8_init lkX10_9 dX10_init_20 rfl rfl ⟨Nat.le_of_ble_eq_true rfl, Nat.le_of_ble_eq_true rfl⟩ ⟨Nat.le_of_ble_eq_true rfl, Nat.le_of_ble_eq_true rfl⟩ (Nat.le_of_ble_eq_true rfl) [17] rfl rfl (fun v w1 hp => ?_)
  obtain ⟨rfl, b20, rfl, rfl⟩ := hp
  refine g_as rfl rfl rfl (show _ = ((h0, .inr (9, [.ref (b9 0), .null, .int 0, .null, .null, .null, .int 0, .null, .null, .null, .int 0, .null])) :: (wSt E (b9 0) (b9 1) (b9 2) (b9 3) (b9 4) (b9 5) (b9 6) (b9 7) (b9 8) (b9 9) (b9 10) (b9 11) (b9 12) (b9 13) (b9 14) (b9 15) z0X8.1.1 z0X8.1.2.1 z0X8.1.2.2.1 z0X8.1.2.2.2 z0X8.2.1.1 z0X8.2.1.2.1 z0X8.2.1.2.2 z0X8.2.2.1.1 z0X8.2.2.1.2.1 z0X8.2.2.1.2.2 z0X8.2.2.2.1 z0X8.2.2.2.2.1 z0X8.2.2.2.2.2 ++ wSt E (b20 0) (b20 1) (b20 2) (b20 3) (b20 4) (b20 5) (b20 6) (b20 7) (b20 8) (b20 9) (b20 10) (b20 11) (b20 12) (b20 13) (b20 14) (b20 15) z0X8.1.1 z0X8.1.2.1 z0X8.1.2.2.1 z0X8.1.2.2.2 z0X8.2.1.1 z0X8.2.1.2.1 z0X8.2.1.2.2 z0X8.2.2.1.1 z0X8.2.2.1.2.1 z0X8.2.2.1.2.2 z0X8.2.2.2.1 z0X8.2.2.2.2.1 z0X8.2.2.2.2.2)) from gmerge_last rfl) ?_
  refine g_putF (ws' := ((h0, .inr (9, [.ref (b9 0), .ref (b20 0), .int 0, .null, .null, .null, .int 0, .null, .null, .null, .int 0, .null])) :: (wSt E (b9 0) (b9 1) (b9 2) (b9 3) (b9 4) (b9 5) (b9 6) (b9 7) (b9 8) (b9 9) (b9 10) (b9 11) (b9 12) (b9 13) (b9 14) (b9 15) z0X8.1.1 z0X8.1.2.1 z0X8.1.2.2.1 z0X8.1.2.2.2 z0X8.2.1.1 z0X8.2.1.2.1 z0X8.2.1.2.2 z0X8.2.2.1.1 z0X8.2.2.1.2.1 z0X8.2.2.1.2.2 z0X8.2.2.2.1 z0X8.2.2.2.2.1 z0X8.2.2.2.2.2 ++ wSt E (b20 0) (b20 1) (b20 2) (b20 3) (b20 4) (b20 5) (b20 6) (b20 7) (b20 8) (b20 9) (b20 10) (b20 11) (b20 12) (b20 13) (b20 14) (b20 15) z0X8.1.1 z0X8.1.2.1 z0X8.1.2.2.1 z0X8.1.2.2.2 z0X8.2.1.1 z0X8.2.1.2.1 z0X8.2.1.2.2 z0X8.2.2.1.1 z0X8.2.2.1.2.1 z0X8.2.2.1.2.2 z0X8.2.2.2.1 z0X8.2.2.2.2.1 z0X8.2.2.2.2.2))) (ty := (.object "WatchBench$Stock")) h.to rfl flX10_16 gftX10 rfl rfl (by decide +kernel) dX10_init_23 0 rfl rfl rfl (Nat.le_of_ble_eq_true rfl) rfl ?_
  refine g_aload_n h.to dX10_init_26 rfl ?_
  refine g_new (ci := 4) (fs := [.null, .null]) (C := RX5) (T := TX5) (N := 2) h.to tyX5 rfl gin5 tyX5_ok (gtm (by decide +kernel)) (gtm (by decide +kernel)) (gtm (by decide +kernel)) dX10_init_27 dvX5 (Nat.le_of_ble_eq_true rfl) (Nat.le_of_ble_eq_true rfl) (fun q27 => ?_)
  refine g_as rfl rfl rfl (show _ = ((h0, .inr (9, [.ref (b9 0), .ref (b20 0), .int 0, .null, .null, .null, .int 0, .null, .null, .null, .int 0, .null])) :: ((wSt E (b9 0) (b9 1) (b9 2) (b9 3) (b9 4) (b9 5) (b9 6) (b9 7) (b9 8) (b9 9) (b9 10) (b9 11) (b9 12) (b9 13) (b9 14) (b9 15) z0X8.1.1 z0X8.1.2.1 z0X8.1.2.2.1 z0X8.1.2.2.2 z0X8.2.1.1 z0X8.2.1.2.1 z0X8.2.1.2.2 z0X8.2.2.1.1 z0X8.2.2.1.2.1 z0X8.2.2.1.2.2 z0X8.2.2.2.1 z0X8.2.2.2.2.1 z0X8.2.2.2.2.2 ++ wSt E (b20 0) (b20 1) (b20 2) (b20 3) (b20 4) (b20 5) (b20 6) (b20 7) (b20 8) (b20 9) (b20 10) (b20 11) (b20 12) (b20 13) (b20 14) (b20 15) z0X8.1.1 z0X8.1.2.1 z0X8.1.2.2.1 z0X8.1.2.2.2 z0X8.2.1.1 z0X8.2.1.2.1 z0X8.2.1.2.2 z0X8.2.2.1.1 z0X8.2.2.1.2.1 z0X8.2.2.1.2.2 z0X8.2.2.2.1 z0X8.2.2.2.2.1 z0X8.2.2.2.2.2) ++ [(q27, .inr (4, [.null, .null]))])) from rfl) ?_
  refine g_dup h.to dX10_init_30 rfl ?_
  refine g_callI2 h (fun _ _ q => q) kX5_init mX5_init lkX10_21 dX10_init_31 rfl rfl ⟨Nat.le_of_ble_eq_true rfl, Nat.le_of_ble_eq_true rfl⟩ ⟨Nat.le_of_ble_eq_true rfl, Nat.le_of_ble_eq_true rfl⟩ (Nat.le_of_ble_eq_true rfl) [33] rfl rfl (fun v w1 hp => ?_)
  obtain ⟨rfl, b31, rfl, rfl⟩ := hp
  refine g_as rfl rfl rfl (show _ = ((h0, .inr (9, [.ref (b9 0), .ref (b20 0), .int 0, .null, .null, .null, .int 0, .null, .null, .null, .int 0, .null])) :: ((wSt E (b9 0) (b9 1) (b9 2) (b9 3) (b9 4) (b9 5) (b9 6) (b9 7) (b9 8) (b9 9) (b9 10) (b9 11) (b9 12) (b9 13) (b9 14) (b9 15) z0X8.1.1 z0X8.1.2.1 z0X8.1.2.2.1 z0X8.1.2.2.2 z0X8.2.1.1 z0X8.2.1.2.1 z0X8.2.1.2.2 z0X8.2.2.1.1 z0X8.2.2.1.2.1 z0X8.2.2.1.2.2 z0X8.2.2.2.1 z0X8.2.2.2.2.1 z0X8.2.2.2.2.2 ++ wSt E (b20 0) (b20 1) (b20 2) (b20 3) (b20 4) (b20 5) (b20 6) (b20 7) (b20 8) (b20 9) (b20 10) (b20 11) (b20 12) (b20 13) (b20 14) (b20 15) z0X8.1.1 z0X8.1.2.1 z0X8.1.2.2.1 z0X8.1.2.2.2 z0X8.2.1.1 z0X8.2.1.2.1 z0X8.2.1.2.2 z0X8.2.2.1.1 z0X8.2.2.1.2.1 z0X8.2.2.1.2.2 z0X8.2.2.2.1 z0X8.2.2.2.2.1 z0X8.2.2.2.2.2) ++ wSh E (b31 0) (b31 1) (b31 2) (b31 3) (b31 4) (b31 5) z0X5.1 z0X5.2)) from gmerge_last rfl) ?_
  refine g_putF (ws' := ((h0, .inr (9, [.ref (b9 0), .ref (b20 0), .int 0, .ref (b31 0), .null, .null, .int 0, .null, .null, .null, .int 0, .null])) :: ((wSt E (b9 0) (b9 1) (b9 2) (b9 3) (b9 4) (b9 5) (b9 6) (b9 7) (b9 8) (b9 9) (b9 10) (b9 11) (b9 12) (b9 13) (b9 14) (b9 15) z0X8.1.1 z0X8.1.2.1 z0X8.1.2.2.1 z0X8.1.2.2.2 z0X8.2.1.1 z0X8.2.1.2.1 z0X8.2.1.2.2 z0X8.2.2.1.1 z0X8.2.2.1.2.1 z0X8.2.2.1.2.2 z0X8.2.2.2.1 z0X8.2.2.2.2.1 z0X8.2.2.2.2.2 ++ wSt E (b20 0) (b20 1) (b20 2) (b20 3) (b20 4) (b20 5) (b20 6) (b20 7) (b20 8) (b20 9) (b20 10) (b20 11) (b20 12) (b20 13) (b20 14) (b20 15) z0X8.1.1 z0X8.1.2.1 z0X8.1.2.2.1 z0X8.1.2.2.2 z0X8.2.1.1 z0X8.2.1.2.1 z0X8.2.1.2.2 z0X8.2.2.1.1 z0X8.2.2.1.2.1 z0X8.2.2.1.2.2 z0X8.2.2.2.1 z0X8.2.2.2.2.1 z0X8.2.2.2.2.2) ++ wSh E (b31 0) (b31 1) (b31 2) (b31 3) (b31 4) (b31 5) z0X5.1 z0X5.2))) (ty := (.object "WatchBench$Sheets")) h.to rfl flX10_22 gftX10 rfl rfl (by decide +kernel) dX10_init_34 0 rfl rfl rfl (Nat.le_of_ble_eq_true rfl) rfl ?_
  refine g_aload_n h.to dX10_init_37 rfl ?_
  refine g_new (ci := 3) (fs := [.null, .null, .null, .int 0, .null]) (C := RX4) (T := TX4) (N := 5) h.to tyX4 rfl gin4 tyX4_ok (gtm (by decide +kernel)) (gtm (by decide +kernel)) (gtm (by decide +kernel)) dX10_init_38 dvX4 (Nat.le_of_ble_eq_true rfl) (Nat.le_of_ble_eq_true rfl) (fun q38 => ?_)
  refine g_as rfl rfl rfl (show _ = ((h0, .inr (9, [.ref (b9 0), .ref (b20 0), .int 0, .ref (b31 0), .null, .null, .int 0, .null, .null, .null, .int 0, .null])) :: (((wSt E (b9 0) (b9 1) (b9 2) (b9 3) (b9 4) (b9 5) (b9 6) (b9 7) (b9 8) (b9 9) (b9 10) (b9 11) (b9 12) (b9 13) (b9 14) (b9 15) z0X8.1.1 z0X8.1.2.1 z0X8.1.2.2.1 z0X8.1.2.2.2 z0X8.2.1.1 z0X8.2.1.2.1 z0X8.2.1.2.2 z0X8.2.2.1.1 z0X8.2.2.1.2.1 z0X8.2.2.1.2.2 z0X8.2.2.2.1 z0X8.2.2.2.2.1 z0X8.2.2.2.2.2 ++ wSt E (b20 0) (b20 1) (b20 2) (b20 3) (b20 4) (b20 5) (b20 6) (b20 7) (b20 8) (b20 9) (b20 10) (b20 11) (b20 12) (b20 13) (b20 14) (b20 15) z0X8.1.1 z0X8.1.2.1 z0X8.1.2.2.1 z0X8.1.2.2.2 z0X8.2.1.1 z0X8.2.1.2.1 z0X8.2.1.2.2 z0X8.2.2.1.1 z0X8.2.2.1.2.1 z0X8.2.2.1.2.2 z0X8.2.2.2.1 z0X8.2.2.2.2.1 z0X8.2.2.2.2.2) ++ wSh E (b31 0) (b31 1) (b31 2) (b31 3) (b31 4) (b31 5) z0X5.1 z0X5.2) ++ [(q38, .inr (3, [.null, .null, .null, .int 0, .null]))])) from rfl) ?_
  refine g_dup h.to dX10_init_41 rfl ?_
  refine g_callIN h.to kX4_init mX4_init lkX10_28 dX10_init_42 rfl rfl ⟨Nat.le_of_ble_eq_true rfl, Nat.le_of_ble_eq_true rfl⟩ ⟨Nat.le_of_ble_eq_true rfl, Nat.le_of_ble_eq_true rfl⟩ (Nat.le_of_ble_eq_true rfl) [39] rfl rfl (fun v w1 hp => ?_)
  obtain ⟨rfl, b42, rfl, rfl⟩ := hp
  refine g_as rfl rfl rfl (show _ = ((h0, .inr (9, [.ref (b9 0), .ref (b20 0), .int 0, .ref (b31 0), .null, .null, .int 0, .null, .null, .null, .int 0, .null])) :: (((wSt E (b9 0) (b9 1) (b9 2) (b9 3) (b9 4) (b9 5) (b9 6) (b9 7) (b9 8) (b9 9) (b9 10) (b9 11) (b9 12) (b9 13) (b9 14) (b9 15) z0X8.1.1 z0X8.1.2.1 z0X8.1.2.2.1 z0X8.1.2.2.2 z0X8.2.1.1 z0X8.2.1.2.1 z0X8.2.1.2.2 z0X8.2.2.1.1 z0X8.2.2.1.2.1 z0X8.2.2.1.2.2 z0X8.2.2.2.1 z0X8.2.2.2.2.1 z0X8.2.2.2.2.2 ++ wSt E (b20 0) (b20 1) (b20 2) (b20 3) (b20 4) (b20 5) (b20 6) (b20 7) (b20 8) (b20 9) (b20 10) (b20 11) (b20 12) (b20 13) (b20 14) (b20 15) z0X8.1.1 z0X8.1.2.1 z0X8.1.2.2.1 z0X8.1.2.2.2 z0X8.2.1.1 z0X8.2.1.2.1 z0X8.2.1.2.2 z0X8.2.2.1.1 z0X8.2.2.1.2.1 z0X8.2.2.1.2.2 z0X8.2.2.2.1 z0X8.2.2.2.2.1 z0X8.2.2.2.2.2) ++ wSh E (b31 0) (b31 1) (b31 2) (b31 3) (b31 4) (b31 5) z0X5.1 z0X5.2) ++ wPd E (b42 0) (b42 1) (b42 2) (b42 3) (b42 4) z0X4.1 z0X4.2.1 z0X4.2.2.1 z0X4.2.2.2.1 z0X4.2.2.2.2)) from gmerge_last rfl) ?_
  refine g_putF (ws' := ((h0, .inr (9, [.ref (b9 0), .ref (b20 0), .int 0, .ref (b31 0), .ref (b42 0), .null, .int 0, .null, .null, .null, .int 0, .null])) :: (((wSt E (b9 0) (b9 1) (b9 2) (b9 3) (b9 4) (b9 5) (b9 6) (b9 7) (b9 8) (b9 9) (b9 10) (b9 11) (b9 12) (b9 13) (b9 14) (b9 15) z0X8.1.1 z0X8.1.2.1 z0X8.1.2.2.1 z0X8.1.2.2.2 z0X8.2.1.1 z0X8.2.1.2.1 z0X8.2.1.2.2 z0X8.2.2.1.1 z0X8.2.2.1.2.1 z0X8.2.2.1.2.2 z0X8.2.2.2.1 z0X8.2.2.2.2.1 z0X8.2.2.2.2.2 ++ wSt E (b20 0) (b20 1) (b20 2) (b20 3) (b20 4) (b20 5) (b20 6) (b20 7) (b20 8) (b20 9) (b20 10) (b20 11) (b20 12) (b20 13) (b20 14) (b20 15) z0X8.1.1 z0X8.1.2.1 z0X8.1.2.2.1 z0X8.1.2.2.2 z0X8.2.1.1 z0X8.2.1.2.1 z0X8.2.1.2.2 z0X8.2.2.1.1 z0X8.2.2.1.2.1 z0X8.2.2.1.2.2 z0X8.2.2.2.1 z0X8.2.2.2.2.1 z0X8.2.2.2.2.2) ++ wSh E (b31 0) (b31 1) (b31 2) (b31 3) (b31 4) (b31 5) z0X5.1 z0X5.2) ++ wPd E (b42 0) (b42 1) (b42 2) (b42 3) (b42 4) z0X4.1 z0X4.2.1 z0X4.2.2.1 z0X4.2.2.2.1 z0X4.2.2.2.2))) (ty := (.object "WatchBench$Products")) h.to rfl flX10_29 gftX10 rfl rfl (by decide +kernel) dX10_init_45 0 rfl rfl rfl (Nat.le_of_ble_eq_true rfl) rfl ?_
  refine g_aload_n h.to dX10_init_48 rfl ?_
  refine g_new (ci := 5) (fs := [.int 0, .int 0, .int 0, .null, .long 0, .long 0]) (C := RX6) (T := TX6) (N := 6) h.to tyX6 rfl gin6 tyX6_ok (gtm (by decide +kernel)) (gtm (by decide +kernel)) (gtm (by decide +kernel)) dX10_init_49 dvX6 (Nat.le_of_ble_eq_true rfl) (Nat.le_of_ble_eq_true rfl) (fun q49 => ?_)
  refine g_as rfl rfl rfl (show _ = ((h0, .inr (9, [.ref (b9 0), .ref (b20 0), .int 0, .ref (b31 0), .ref (b42 0), .null, .int 0, .null, .null, .null, .int 0, .null])) :: ((((wSt E (b9 0) (b9 1) (b9 2) (b9 3) (b9 4) (b9 5) (b9 6) (b9 7) (b9 8) (b9 9) (b9 10) (b9 11) (b9 12) (b9 13) (b9 14) (b9 15) z0X8.1.1 z0X8.1.2.1 z0X8.1.2.2.1 z0X8.1.2.2.2 z0X8.2.1.1 z0X8.2.1.2.1 z0X8.2.1.2.2 z0X8.2.2.1.1 z0X8.2.2.1.2.1 z0X8.2.2.1.2.2 z0X8.2.2.2.1 z0X8.2.2.2.2.1 z0X8.2.2.2.2.2 ++ wSt E (b20 0) (b20 1) (b20 2) (b20 3) (b20 4) (b20 5) (b20 6) (b20 7) (b20 8) (b20 9) (b20 10) (b20 11) (b20 12) (b20 13) (b20 14) (b20 15) z0X8.1.1 z0X8.1.2.1 z0X8.1.2.2.1 z0X8.1.2.2.2 z0X8.2.1.1 z0X8.2.1.2.1 z0X8.2.1.2.2 z0X8.2.2.1.1 z0X8.2.2.1.2.1 z0X8.2.2.1.2.2 z0X8.2.2.2.1 z0X8.2.2.2.2.1 z0X8.2.2.2.2.2) ++ wSh E (b31 0) (b31 1) (b31 2) (b31 3) (b31 4) (b31 5) z0X5.1 z0X5.2) ++ wPd E (b42 0) (b42 1) (b42 2) (b42 3) (b42 4) z0X4.1 z0X4.2.1 z0X4.2.2.1 z0X4.2.2.2.1 z0X4.2.2.2.2) ++ [(q49, .inr (5, [.int 0, .int 0, .int 0, .null, .long 0, .long 0]))])) from rfl) ?_
  refine g_dup h.to dX10_init_52 rfl ?_
  refine g_callIN h.to kX6_init mX6_init lkX10_35 dX10_init_53 rfl rfl ⟨Nat.le_of_ble_eq_true rfl, Nat.le_of_ble_eq_true rfl⟩ ⟨Nat.le_of_ble_eq_true rfl, Nat.le_of_ble_eq_true rfl⟩ (Nat.le_of_ble_eq_true rfl) [44] rfl rfl (fun v w1 hp => ?_)
  obtain ⟨rfl, b53, rfl, rfl⟩ := hp
  refine g_as rfl rfl rfl (show _ = ((h0, .inr (9, [.ref (b9 0), .ref (b20 0), .int 0, .ref (b31 0), .ref (b42 0), .null, .int 0, .null, .null, .null, .int 0, .null])) :: ((((wSt E (b9 0) (b9 1) (b9 2) (b9 3) (b9 4) (b9 5) (b9 6) (b9 7) (b9 8) (b9 9) (b9 10) (b9 11) (b9 12) (b9 13) (b9 14) (b9 15) z0X8.1.1 z0X8.1.2.1 z0X8.1.2.2.1 z0X8.1.2.2.2 z0X8.2.1.1 z0X8.2.1.2.1 z0X8.2.1.2.2 z0X8.2.2.1.1 z0X8.2.2.1.2.1 z0X8.2.2.1.2.2 z0X8.2.2.2.1 z0X8.2.2.2.2.1 z0X8.2.2.2.2.2 ++ wSt E (b20 0) (b20 1) (b20 2) (b20 3) (b20 4) (b20 5) (b20 6) (b20 7) (b20 8) (b20 9) (b20 10) (b20 11) (b20 12) (b20 13) (b20 14) (b20 15) z0X8.1.1 z0X8.1.2.1 z0X8.1.2.2.1 z0X8.1.2.2.2 z0X8.2.1.1 z0X8.2.1.2.1 z0X8.2.1.2.2 z0X8.2.2.1.1 z0X8.2.2.1.2.1 z0X8.2.2.1.2.2 z0X8.2.2.2.1 z0X8.2.2.2.2.1 z0X8.2.2.2.2.2) ++ wSh E (b31 0) (b31 1) (b31 2) (b31 3) (b31 4) (b31 5) z0X5.1 z0X5.2) ++ wPd E (b42 0) (b42 1) (b42 2) (b42 3) (b42 4) z0X4.1 z0X4.2.1 z0X4.2.2.1 z0X4.2.2.2.1 z0X4.2.2.2.2) ++ wSz E (b53 0) (b53 1) z0X6.1 z0X6.2.1 z0X6.2.2.1 z0X6.2.2.2.1 z0X6.2.2.2.2.1 z0X6.2.2.2.2.2)) from gmerge_last rfl) ?_
  refine g_putF (ws' := ((h0, .inr (9, [.ref (b9 0), .ref (b20 0), .int 0, .ref (b31 0), .ref (b42 0), .ref (b53 0), .int 0, .null, .null, .null, .int 0, .null])) :: ((((wSt E (b9 0) (b9 1) (b9 2) (b9 3) (b9 4) (b9 5) (b9 6) (b9 7) (b9 8) (b9 9) (b9 10) (b9 11) (b9 12) (b9 13) (b9 14) (b9 15) z0X8.1.1 z0X8.1.2.1 z0X8.1.2.2.1 z0X8.1.2.2.2 z0X8.2.1.1 z0X8.2.1.2.1 z0X8.2.1.2.2 z0X8.2.2.1.1 z0X8.2.2.1.2.1 z0X8.2.2.1.2.2 z0X8.2.2.2.1 z0X8.2.2.2.2.1 z0X8.2.2.2.2.2 ++ wSt E (b20 0) (b20 1) (b20 2) (b20 3) (b20 4) (b20 5) (b20 6) (b20 7) (b20 8) (b20 9) (b20 10) (b20 11) (b20 12) (b20 13) (b20 14) (b20 15) z0X8.1.1 z0X8.1.2.1 z0X8.1.2.2.1 z0X8.1.2.2.2 z0X8.2.1.1 z0X8.2.1.2.1 z0X8.2.1.2.2 z0X8.2.2.1.1 z0X8.2.2.1.2.1 z0X8.2.2.1.2.2 z0X8.2.2.2.1 z0X8.2.2.2.2.1 z0X8.2.2.2.2.2) ++ wSh E (b31 0) (b31 1) (b31 2) (b31 3) (b31 4) (b31 5) z0X5.1 z0X5.2) ++ wPd E (b42 0) (b42 1) (b42 2) (b42 3) (b42 4) z0X4.1 z0X4.2.1 z0X4.2.2.1 z0X4.2.2.2.1 z0X4.2.2.2.2) ++ wSz E (b53 0) (b53 1) z0X6.1 z0X6.2.1 z0X6.2.2.1 z0X6.2.2.2.1 z0X6.2.2.2.2.1 z0X6.2.2.2.2.2))) (ty := (.object "WatchBench$Sizes")) h.to rfl flX10_36 gftX10 rfl rfl (by decide +kernel) dX10_init_56 0 rfl rfl rfl (Nat.le_of_ble_eq_true rfl) rfl ?_
  refine g_aload_n h.to dX10_init_59 rfl ?_
  refine g_new (ci := 1) (fs := [.null, .null, .int 0, .int 0, .long 0, .long 0]) (C := RX1) (T := TX1) (N := 6) h.to tyX1 rfl gin1 tyX1_ok (gtm (by decide +kernel)) (gtm (by decide +kernel)) (gtm (by decide +kernel)) dX10_init_60 dvX1 (Nat.le_of_ble_eq_true rfl) (Nat.le_of_ble_eq_true rfl) (fun q60 => ?_)
  refine g_as rfl rfl rfl (show _ = ((h0, .inr (9, [.ref (b9 0), .ref (b20 0), .int 0, .ref (b31 0), .ref (b42 0), .ref (b53 0), .int 0, .null, .null, .null, .int 0, .null])) :: (((((wSt E (b9 0) (b9 1) (b9 2) (b9 3) (b9 4) (b9 5) (b9 6) (b9 7) (b9 8) (b9 9) (b9 10) (b9 11) (b9 12) (b9 13) (b9 14) (b9 15) z0X8.1.1 z0X8.1.2.1 z0X8.1.2.2.1 z0X8.1.2.2.2 z0X8.2.1.1 z0X8.2.1.2.1 z0X8.2.1.2.2 z0X8.2.2.1.1 z0X8.2.2.1.2.1 z0X8.2.2.1.2.2 z0X8.2.2.2.1 z0X8.2.2.2.2.1 z0X8.2.2.2.2.2 ++ wSt E (b20 0) (b20 1) (b20 2) (b20 3) (b20 4) (b20 5) (b20 6) (b20 7) (b20 8) (b20 9) (b20 10) (b20 11) (b20 12) (b20 13) (b20 14) (b20 15) z0X8.1.1 z0X8.1.2.1 z0X8.1.2.2.1 z0X8.1.2.2.2 z0X8.2.1.1 z0X8.2.1.2.1 z0X8.2.1.2.2 z0X8.2.2.1.1 z0X8.2.2.1.2.1 z0X8.2.2.1.2.2 z0X8.2.2.2.1 z0X8.2.2.2.2.1 z0X8.2.2.2.2.2) ++ wSh E (b31 0) (b31 1) (b31 2) (b31 3) (b31 4) (b31 5) z0X5.1 z0X5.2) ++ wPd E (b42 0) (b42 1) (b42 2) (b42 3) (b42 4) z0X4.1 z0X4.2.1 z0X4.2.2.1 z0X4.2.2.2.1 z0X4.2.2.2.2) ++ wSz E (b53 0) (b53 1) z0X6.1 z0X6.2.1 z0X6.2.2.1 z0X6.2.2.2.1 z0X6.2.2.2.2.1 z0X6.2.2.2.2.2) ++ [(q60, .inr (1, [.null, .null, .int 0, .int 0, .long 0, .long 0]))])) from rfl) ?_
  refine g_dup h.to dX10_init_63 rfl ?_
  refine g_callIN h.to kX1_init mX1_init lkX10_42 dX10_init_64 rfl rfl ⟨Nat.le_of_ble_eq_true rfl, Nat.le_of_ble_eq_true rfl⟩ ⟨Nat.le_of_ble_eq_true rfl, Nat.le_of_ble_eq_true rfl⟩ (Nat.le_of_ble_eq_true rfl) [46] rfl rfl (fun v w1 hp => ?_)
  obtain ⟨rfl, b64, rfl, rfl⟩ := hp
  refine g_as rfl rfl rfl (show _ = ((h0, .inr (9, [.ref (b9 0), .ref (b20 0), .int 0, .ref (b31 0), .ref (b42 0), .ref (b53 0), .int 0, .null, .null, .null, .int 0, .null])) :: (((((wSt E (b9 0) (b9 1) (b9 2) (b9 3) (b9 4) (b9 5) (b9 6) (b9 7) (b9 8) (b9 9) (b9 10) (b9 11) (b9 12) (b9 13) (b9 14) (b9 15) z0X8.1.1 z0X8.1.2.1 z0X8.1.2.2.1 z0X8.1.2.2.2 z0X8.2.1.1 z0X8.2.1.2.1 z0X8.2.1.2.2 z0X8.2.2.1.1 z0X8.2.2.1.2.1 z0X8.2.2.1.2.2 z0X8.2.2.2.1 z0X8.2.2.2.2.1 z0X8.2.2.2.2.2 ++ wSt E (b20 0) (b20 1) (b20 2) (b20 3) (b20 4) (b20 5) (b20 6) (b20 7) (b20 8) (b20 9) (b20 10) (b20 11) (b20 12) (b20 13) (b20 14) (b20 15) z0X8.1.1 z0X8.1.2.1 z0X8.1.2.2.1 z0X8.1.2.2.2 z0X8.2.1.1 z0X8.2.1.2.1 z0X8.2.1.2.2 z0X8.2.2.1.1 z0X8.2.2.1.2.1 z0X8.2.2.1.2.2 z0X8.2.2.2.1 z0X8.2.2.2.2.1 z0X8.2.2.2.2.2) ++ wSh E (b31 0) (b31 1) (b31 2) (b31 3) (b31 4) (b31 5) z0X5.1 z0X5.2) ++ wPd E (b42 0) (b42 1) (b42 2) (b42 3) (b42 4) z0X4.1 z0X4.2.1 z0X4.2.2.1 z0X4.2.2.2.1 z0X4.2.2.2.2) ++ wSz E (b53 0) (b53 1) z0X6.1 z0X6.2.1 z0X6.2.2.1 z0X6.2.2.2.1 z0X6.2.2.2.2.1 z0X6.2.2.2.2.2) ++ wMs E (b64 0) (b64 1) (b64 2) z0X1.1 z0X1.2.1 z0X1.2.2.1 z0X1.2.2.2.1 z0X1.2.2.2.2.1 z0X1.2.2.2.2.2)) from gmerge_last rfl) ?_
  refine g_putF (ws' := ((h0, .inr (9, [.ref (b9 0), .ref (b20 0), .int 0, .ref (b31 0), .ref (b42 0), .ref (b53 0), .int 0, .ref (b64 0), .null, .null, .int 0, .null])) :: (((((wSt E (b9 0) (b9 1) (b9 2) (b9 3) (b9 4) (b9 5) (b9 6) (b9 7) (b9 8) (b9 9) (b9 10) (b9 11) (b9 12) (b9 13) (b9 14) (b9 15) z0X8.1.1 z0X8.1.2.1 z0X8.1.2.2.1 z0X8.1.2.2.2 z0X8.2.1.1 z0X8.2.1.2.1 z0X8.2.1.2.2 z0X8.2.2.1.1 z0X8.2.2.1.2.1 z0X8.2.2.1.2.2 z0X8.2.2.2.1 z0X8.2.2.2.2.1 z0X8.2.2.2.2.2 ++ wSt E (b20 0) (b20 1) (b20 2) (b20 3) (b20 4) (b20 5) (b20 6) (b20 7) (b20 8) (b20 9) (b20 10) (b20 11) (b20 12) (b20 13) (b20 14) (b20 15) z0X8.1.1 z0X8.1.2.1 z0X8.1.2.2.1 z0X8.1.2.2.2 z0X8.2.1.1 z0X8.2.1.2.1 z0X8.2.1.2.2 z0X8.2.2.1.1 z0X8.2.2.1.2.1 z0X8.2.2.1.2.2 z0X8.2.2.2.1 z0X8.2.2.2.2.1 z0X8.2.2.2.2.2) ++ wSh E (b31 0) (b31 1) (b31 2) (b31 3) (b31 4) (b31 5) z0X5.1 z0X5.2) ++ wPd E (b42 0) (b42 1) (b42 2) (b42 3) (b42 4) z0X4.1 z0X4.2.1 z0X4.2.2.1 z0X4.2.2.2.1 z0X4.2.2.2.2) ++ wSz E (b53 0) (b53 1) z0X6.1 z0X6.2.1 z0X6.2.2.1 z0X6.2.2.2.1 z0X6.2.2.2.2.1 z0X6.2.2.2.2.2) ++ wMs E (b64 0) (b64 1) (b64 2) z0X1.1 z0X1.2.1 z0X1.2.2.1 z0X1.2.2.2.1 z0X1.2.2.2.2.1 z0X1.2.2.2.2.2))) (ty := (.object "WatchBench$MendSearch")) h.to rfl flX10_43 gftX10 rfl rfl (by decide +kernel) dX10_init_67 0 rfl rfl rfl (Nat.le_of_ble_eq_true rfl) rfl ?_
  refine g_aload_n h.to dX10_init_70 rfl ?_
  refine g_new (ci := 8) (fs := [.null]) (C := RX9) (T := TX9) (N := 1) h.to tyX9 rfl gin9 tyX9_ok (gtm (by decide +kernel)) (gtm (by decide +kernel)) (gtm (by decide +kernel)) dX10_init_71 dvX9 (Nat.le_of_ble_eq_true rfl) (Nat.le_of_ble_eq_true rfl) (fun q71 => ?_)
  refine g_as rfl rfl rfl (show _ = ((h0, .inr (9, [.ref (b9 0), .ref (b20 0), .int 0, .ref (b31 0), .ref (b42 0), .ref (b53 0), .int 0, .ref (b64 0), .null, .null, .int 0, .null])) :: ((((((wSt E (b9 0) (b9 1) (b9 2) (b9 3) (b9 4) (b9 5) (b9 6) (b9 7) (b9 8) (b9 9) (b9 10) (b9 11) (b9 12) (b9 13) (b9 14) (b9 15) z0X8.1.1 z0X8.1.2.1 z0X8.1.2.2.1 z0X8.1.2.2.2 z0X8.2.1.1 z0X8.2.1.2.1 z0X8.2.1.2.2 z0X8.2.2.1.1 z0X8.2.2.1.2.1 z0X8.2.2.1.2.2 z0X8.2.2.2.1 z0X8.2.2.2.2.1 z0X8.2.2.2.2.2 ++ wSt E (b20 0) (b20 1) (b20 2) (b20 3) (b20 4) (b20 5) (b20 6) (b20 7) (b20 8) (b20 9) (b20 10) (b20 11) (b20 12) (b20 13) (b20 14) (b20 15) z0X8.1.1 z0X8.1.2.1 z0X8.1.2.2.1 z0X8.1.2.2.2 z0X8.2.1.1 z0X8.2.1.2.1 z0X8.2.1.2.2 z0X8.2.2.1.1 z0X8.2.2.1.2.1 z0X8.2.2.1.2.2 z0X8.2.2.2.1 z0X8.2.2.2.2.1 z0X8.2.2.2.2.2) ++ wSh E (b31 0) (b31 1) (b31 2) (b31 3) (b31 4) (b31 5) z0X5.1 z0X5.2) ++ wPd E (b42 0) (b42 1) (b42 2) (b42 3) (b42 4) z0X4.1 z0X4.2.1 z0X4.2.2.1 z0X4.2.2.2.1 z0X4.2.2.2.2) ++ wSz E (b53 0) (b53 1) z0X6.1 z0X6.2.1 z0X6.2.2.1 z0X6.2.2.2.1 z0X6.2.2.2.2.1 z0X6.2.2.2.2.2) ++ wMs E (b64 0) (b64 1) (b64 2) z0X1.1 z0X1.2.1 z0X1.2.2.1 z0X1.2.2.2.1 z0X1.2.2.2.2.1 z0X1.2.2.2.2.2) ++ [(q71, .inr (8, [.null]))])) from rfl) ?_
  refine g_dup h.to dX10_init_74 rfl ?_
  refine g_callIN h.to kX9_init mX9_init lkX10_49 dX10_init_75 rfl rfl ⟨Nat.le_of_ble_eq_true rfl, Nat.le_of_ble_eq_true rfl⟩ ⟨Nat.le_of_ble_eq_true rfl, Nat.le_of_ble_eq_true rfl⟩ (Nat.le_of_ble_eq_true rfl) [49] rfl rfl (fun v w1 hp => ?_)
  obtain ⟨rfl, b75, rfl, rfl⟩ := hp
  refine g_as rfl rfl rfl (show _ = ((h0, .inr (9, [.ref (b9 0), .ref (b20 0), .int 0, .ref (b31 0), .ref (b42 0), .ref (b53 0), .int 0, .ref (b64 0), .null, .null, .int 0, .null])) :: ((((((wSt E (b9 0) (b9 1) (b9 2) (b9 3) (b9 4) (b9 5) (b9 6) (b9 7) (b9 8) (b9 9) (b9 10) (b9 11) (b9 12) (b9 13) (b9 14) (b9 15) z0X8.1.1 z0X8.1.2.1 z0X8.1.2.2.1 z0X8.1.2.2.2 z0X8.2.1.1 z0X8.2.1.2.1 z0X8.2.1.2.2 z0X8.2.2.1.1 z0X8.2.2.1.2.1 z0X8.2.2.1.2.2 z0X8.2.2.2.1 z0X8.2.2.2.2.1 z0X8.2.2.2.2.2 ++ wSt E (b20 0) (b20 1) (b20 2) (b20 3) (b20 4) (b20 5) (b20 6) (b20 7) (b20 8) (b20 9) (b20 10) (b20 11) (b20 12) (b20 13) (b20 14) (b20 15) z0X8.1.1 z0X8.1.2.1 z0X8.1.2.2.1 z0X8.1.2.2.2 z0X8.2.1.1 z0X8.2.1.2.1 z0X8.2.1.2.2 z0X8.2.2.1.1 z0X8.2.2.1.2.1 z0X8.2.2.1.2.2 z0X8.2.2.2.1 z0X8.2.2.2.2.1 z0X8.2.2.2.2.2) ++ wSh E (b31 0) (b31 1) (b31 2) (b31 3) (b31 4) (b31 5) z0X5.1 z0X5.2) ++ wPd E (b42 0) (b42 1) (b42 2) (b42 3) (b42 4) z0X4.1 z0X4.2.1 z0X4.2.2.1 z0X4.2.2.2.1 z0X4.2.2.2.2) ++ wSz E (b53 0) (b53 1) z0X6.1 z0X6.2.1 z0X6.2.2.1 z0X6.2.2.2.1 z0X6.2.2.2.2.1 z0X6.2.2.2.2.2) ++ wMs E (b64 0) (b64 1) (b64 2) z0X1.1 z0X1.2.1 z0X1.2.2.1 z0X1.2.2.2.1 z0X1.2.2.2.2.1 z0X1.2.2.2.2.2) ++ wTr E (b75 0) (b75 1) (b75 2) (b75 3) z0X9.1 z0X9.2.1 z0X9.2.2)) from gmerge_last rfl) ?_
  refine g_putF (ws' := ((h0, .inr (9, [.ref (b9 0), .ref (b20 0), .int 0, .ref (b31 0), .ref (b42 0), .ref (b53 0), .int 0, .ref (b64 0), .ref (b75 0), .null, .int 0, .null])) :: ((((((wSt E (b9 0) (b9 1) (b9 2) (b9 3) (b9 4) (b9 5) (b9 6) (b9 7) (b9 8) (b9 9) (b9 10) (b9 11) (b9 12) (b9 13) (b9 14) (b9 15) z0X8.1.1 z0X8.1.2.1 z0X8.1.2.2.1 z0X8.1.2.2.2 z0X8.2.1.1 z0X8.2.1.2.1 z0X8.2.1.2.2 z0X8.2.2.1.1 z0X8.2.2.1.2.1 z0X8.2.2.1.2.2 z0X8.2.2.2.1 z0X8.2.2.2.2.1 z0X8.2.2.2.2.2 ++ wSt E (b20 0) (b20 1) (b20 2) (b20 3) (b20 4) (b20 5) (b20 6) (b20 7) (b20 8) (b20 9) (b20 10) (b20 11) (b20 12) (b20 13) (b20 14) (b20 15) z0X8.1.1 z0X8.1.2.1 z0X8.1.2.2.1 z0X8.1.2.2.2 z0X8.2.1.1 z0X8.2.1.2.1 z0X8.2.1.2.2 z0X8.2.2.1.1 z0X8.2.2.1.2.1 z0X8.2.2.1.2.2 z0X8.2.2.2.1 z0X8.2.2.2.2.1 z0X8.2.2.2.2.2) ++ wSh E (b31 0) (b31 1) (b31 2) (b31 3) (b31 4) (b31 5) z0X5.1 z0X5.2) ++ wPd E (b42 0) (b42 1) (b42 2) (b42 3) (b42 4) z0X4.1 z0X4.2.1 z0X4.2.2.1 z0X4.2.2.2.1 z0X4.2.2.2.2) ++ wSz E (b53 0) (b53 1) z0X6.1 z0X6.2.1 z0X6.2.2.1 z0X6.2.2.2.1 z0X6.2.2.2.2.1 z0X6.2.2.2.2.2) ++ wMs E (b64 0) (b64 1) (b64 2) z0X1.1 z0X1.2.1 z0X1.2.2.1 z0X1.2.2.2.1 z0X1.2.2.2.2.1 z0X1.2.2.2.2.2) ++ wTr E (b75 0) (b75 1) (b75 2) (b75 3) z0X9.1 z0X9.2.1 z0X9.2.2))) (ty := (.object "WatchBench$Trial")) h.to rfl flX10_50 gftX10 rfl rfl (by decide +kernel) dX10_init_78 0 rfl rfl rfl (Nat.le_of_ble_eq_true rfl) rfl ?_
  refine g_aload_n h.to dX10_init_81 rfl ?_
  refine g_bipush (v := 16) h.to dX10_init_82 (by decide) ?_
  refine g_newaI (N := 16) h.to dX10_init_84 gar_int rfl (by decide) (Nat.le_of_ble_eq_true rfl) (Nat.le_of_ble_eq_true rfl) (fun q84 => ?_)
  refine g_as rfl rfl rfl (show _ = ((h0, .inr (9, [.ref (b9 0), .ref (b20 0), .int 0, .ref (b31 0), .ref (b42 0), .ref (b53 0), .int 0, .ref (b64 0), .ref (b75 0), .null, .int 0, .null])) :: (((((((wSt E (b9 0) (b9 1) (b9 2) (b9 3) (b9 4) (b9 5) (b9 6) (b9 7) (b9 8) (b9 9) (b9 10) (b9 11) (b9 12) (b9 13) (b9 14) (b9 15) z0X8.1.1 z0X8.1.2.1 z0X8.1.2.2.1 z0X8.1.2.2.2 z0X8.2.1.1 z0X8.2.1.2.1 z0X8.2.1.2.2 z0X8.2.2.1.1 z0X8.2.2.1.2.1 z0X8.2.2.1.2.2 z0X8.2.2.2.1 z0X8.2.2.2.2.1 z0X8.2.2.2.2.2 ++ wSt E (b20 0) (b20 1) (b20 2) (b20 3) (b20 4) (b20 5) (b20 6) (b20 7) (b20 8) (b20 9) (b20 10) (b20 11) (b20 12) (b20 13) (b20 14) (b20 15) z0X8.1.1 z0X8.1.2.1 z0X8.1.2.2.1 z0X8.1.2.2.2 z0X8.2.1.1 z0X8.2.1.2.1 z0X8.2.1.2.2 z0X8.2.2.1.1 z0X8.2.2.1.2.1 z0X8.2.2.1.2.2 z0X8.2.2.2.1 z0X8.2.2.2.2.1 z0X8.2.2.2.2.2) ++ wSh E (b31 0) (b31 1) (b31 2) (b31 3) (b31 4) (b31 5) z0X5.1 z0X5.2) ++ wPd E (b42 0) (b42 1) (b42 2) (b42 3) (b42 4) z0X4.1 z0X4.2.1 z0X4.2.2.1 z0X4.2.2.2.1 z0X4.2.2.2.2) ++ wSz E (b53 0) (b53 1) z0X6.1 z0X6.2.1 z0X6.2.2.1 z0X6.2.2.2.1 z0X6.2.2.2.2.1 z0X6.2.2.2.2.2) ++ wMs E (b64 0) (b64 1) (b64 2) z0X1.1 z0X1.2.1 z0X1.2.2.1 z0X1.2.2.2.1 z0X1.2.2.2.2.1 z0X1.2.2.2.2.2) ++ wTr E (b75 0) (b75 1) (b75 2) (b75 3) z0X9.1 z0X9.2.1 z0X9.2.2) ++ [(q84, .inl (E.2 0, 16, .inl (fun _ => 0)))])) from rfl) ?_
  refine g_putF (ws' := ((h0, .inr (9, [.ref (b9 0), .ref (b20 0), .int 0, .ref (b31 0), .ref (b42 0), .ref (b53 0), .int 0, .ref (b64 0), .ref (b75 0), .ref q84, .int 0, .null])) :: (((((((wSt E (b9 0) (b9 1) (b9 2) (b9 3) (b9 4) (b9 5) (b9 6) (b9 7) (b9 8) (b9 9) (b9 10) (b9 11) (b9 12) (b9 13) (b9 14) (b9 15) z0X8.1.1 z0X8.1.2.1 z0X8.1.2.2.1 z0X8.1.2.2.2 z0X8.2.1.1 z0X8.2.1.2.1 z0X8.2.1.2.2 z0X8.2.2.1.1 z0X8.2.2.1.2.1 z0X8.2.2.1.2.2 z0X8.2.2.2.1 z0X8.2.2.2.2.1 z0X8.2.2.2.2.2 ++ wSt E (b20 0) (b20 1) (b20 2) (b20 3) (b20 4) (b20 5) (b20 6) (b20 7) (b20 8) (b20 9) (b20 10) (b20 11) (b20 12) (b20 13) (b20 14) (b20 15) z0X8.1.1 z0X8.1.2.1 z0X8.1.2.2.1 z0X8.1.2.2.2 z0X8.2.1.1 z0X8.2.1.2.1 z0X8.2.1.2.2 z0X8.2.2.1.1 z0X8.2.2.1.2.1 z0X8.2.2.1.2.2 z0X8.2.2.2.1 z0X8.2.2.2.2.1 z0X8.2.2.2.2.2) ++ wSh E (b31 0) (b31 1) (b31 2) (b31 3) (b31 4) (b31 5) z0X5.1 z0X5.2) ++ wPd E (b42 0) (b42 1) (b42 2) (b42 3) (b42 4) z0X4.1 z0X4.2.1 z0X4.2.2.1 z0X4.2.2.2.1 z0X4.2.2.2.2) ++ wSz E (b53 0) (b53 1) z0X6.1 z0X6.2.1 z0X6.2.2.1 z0X6.2.2.2.1 z0X6.2.2.2.2.1 z0X6.2.2.2.2.2) ++ wMs E (b64 0) (b64 1) (b64 2) z0X1.1 z0X1.2.1 z0X1.2.2.1 z0X1.2.2.2.1 z0X1.2.2.2.2.1 z0X1.2.2.2.2.2) ++ wTr E (b75 0) (b75 1) (b75 2) (b75 3) z0X9.1 z0X9.2.1 z0X9.2.2) ++ [(q84, .inl (E.2 0, 16, .inl (fun _ => 0)))]))) (ty := (.array .int)) h.to rfl flX10_54 gftX10 rfl rfl (by decide +kernel) dX10_init_86 0 rfl rfl rfl (Nat.le_of_ble_eq_true rfl) rfl ?_
  refine g_aload_n h.to dX10_init_89 rfl ?_
  refine g_bipush (v := 8) h.to dX10_init_90 (by decide) ?_
  refine g_newaI (N := 8) h.to dX10_init_92 gar_int rfl (by decide) (Nat.le_of_ble_eq_true rfl) (Nat.le_of_ble_eq_true rfl) (fun q92 => ?_)
  refine g_as rfl rfl rfl (show _ = ((h0, .inr (9, [.ref (b9 0), .ref (b20 0), .int 0, .ref (b31 0), .ref (b42 0), .ref (b53 0), .int 0, .ref (b64 0), .ref (b75 0), .ref q84, .int 0, .null])) :: ((((((((wSt E (b9 0) (b9 1) (b9 2) (b9 3) (b9 4) (b9 5) (b9 6) (b9 7) (b9 8) (b9 9) (b9 10) (b9 11) (b9 12) (b9 13) (b9 14) (b9 15) z0X8.1.1 z0X8.1.2.1 z0X8.1.2.2.1 z0X8.1.2.2.2 z0X8.2.1.1 z0X8.2.1.2.1 z0X8.2.1.2.2 z0X8.2.2.1.1 z0X8.2.2.1.2.1 z0X8.2.2.1.2.2 z0X8.2.2.2.1 z0X8.2.2.2.2.1 z0X8.2.2.2.2.2 ++ wSt E (b20 0) (b20 1) (b20 2) (b20 3) (b20 4) (b20 5) (b20 6) (b20 7) (b20 8) (b20 9) (b20 10) (b20 11) (b20 12) (b20 13) (b20 14) (b20 15) z0X8.1.1 z0X8.1.2.1 z0X8.1.2.2.1 z0X8.1.2.2.2 z0X8.2.1.1 z0X8.2.1.2.1 z0X8.2.1.2.2 z0X8.2.2.1.1 z0X8.2.2.1.2.1 z0X8.2.2.1.2.2 z0X8.2.2.2.1 z0X8.2.2.2.2.1 z0X8.2.2.2.2.2) ++ wSh E (b31 0) (b31 1) (b31 2) (b31 3) (b31 4) (b31 5) z0X5.1 z0X5.2) ++ wPd E (b42 0) (b42 1) (b42 2) (b42 3) (b42 4) z0X4.1 z0X4.2.1 z0X4.2.2.1 z0X4.2.2.2.1 z0X4.2.2.2.2) ++ wSz E (b53 0) (b53 1) z0X6.1 z0X6.2.1 z0X6.2.2.1 z0X6.2.2.2.1 z0X6.2.2.2.2.1 z0X6.2.2.2.2.2) ++ wMs E (b64 0) (b64 1) (b64 2) z0X1.1 z0X1.2.1 z0X1.2.2.1 z0X1.2.2.2.1 z0X1.2.2.2.2.1 z0X1.2.2.2.2.2) ++ wTr E (b75 0) (b75 1) (b75 2) (b75 3) z0X9.1 z0X9.2.1 z0X9.2.2) ++ [(q84, .inl (E.2 0, 16, .inl (fun _ => 0)))]) ++ [(q92, .inl (E.2 0, 8, .inl (fun _ => 0)))])) from rfl) ?_
  refine g_putF (ws' := ((h0, .inr (9, [.ref (b9 0), .ref (b20 0), .int 0, .ref (b31 0), .ref (b42 0), .ref (b53 0), .int 0, .ref (b64 0), .ref (b75 0), .ref q84, .int 0, .ref q92])) :: ((((((((wSt E (b9 0) (b9 1) (b9 2) (b9 3) (b9 4) (b9 5) (b9 6) (b9 7) (b9 8) (b9 9) (b9 10) (b9 11) (b9 12) (b9 13) (b9 14) (b9 15) z0X8.1.1 z0X8.1.2.1 z0X8.1.2.2.1 z0X8.1.2.2.2 z0X8.2.1.1 z0X8.2.1.2.1 z0X8.2.1.2.2 z0X8.2.2.1.1 z0X8.2.2.1.2.1 z0X8.2.2.1.2.2 z0X8.2.2.2.1 z0X8.2.2.2.2.1 z0X8.2.2.2.2.2 ++ wSt E (b20 0) (b20 1) (b20 2) (b20 3) (b20 4) (b20 5) (b20 6) (b20 7) (b20 8) (b20 9) (b20 10) (b20 11) (b20 12) (b20 13) (b20 14) (b20 15) z0X8.1.1 z0X8.1.2.1 z0X8.1.2.2.1 z0X8.1.2.2.2 z0X8.2.1.1 z0X8.2.1.2.1 z0X8.2.1.2.2 z0X8.2.2.1.1 z0X8.2.2.1.2.1 z0X8.2.2.1.2.2 z0X8.2.2.2.1 z0X8.2.2.2.2.1 z0X8.2.2.2.2.2) ++ wSh E (b31 0) (b31 1) (b31 2) (b31 3) (b31 4) (b31 5) z0X5.1 z0X5.2) ++ wPd E (b42 0) (b42 1) (b42 2) (b42 3) (b42 4) z0X4.1 z0X4.2.1 z0X4.2.2.1 z0X4.2.2.2.1 z0X4.2.2.2.2) ++ wSz E (b53 0) (b53 1) z0X6.1 z0X6.2.1 z0X6.2.2.1 z0X6.2.2.2.1 z0X6.2.2.2.2.1 z0X6.2.2.2.2.2) ++ wMs E (b64 0) (b64 1) (b64 2) z0X1.1 z0X1.2.1 z0X1.2.2.1 z0X1.2.2.2.1 z0X1.2.2.2.2.1 z0X1.2.2.2.2.2) ++ wTr E (b75 0) (b75 1) (b75 2) (b75 3) z0X9.1 z0X9.2.1 z0X9.2.2) ++ [(q84, .inl (E.2 0, 16, .inl (fun _ => 0)))]) ++ [(q92, .inl (E.2 0, 8, .inl (fun _ => 0)))]))) (ty := (.array .int)) h.to rfl flX10_58 gftX10 rfl rfl (by decide +kernel) dX10_init_94 0 rfl rfl rfl (Nat.le_of_ble_eq_true rfl) rfl ?_
  refine g_return h.to dX10_init_97 rfl ⟨(Nat.le_of_ble_eq_true rfl), (Nat.le_of_ble_eq_true rfl), rfl, rfl, fun k => if k = 0 then h0 else if k < 17 then b9 (k - 1) else if k < 33 then b20 (k - 17) else if k < 39 then b31 (k - 33) else if k < 44 then b42 (k - 39) else if k = 44 then (b53 0) else if k = 45 then (b53 1) else if k = 46 then (b64 0) else if k = 47 then (b64 1) else if k = 48 then (b64 2) else if k = 49 then (b75 0) else if k = 50 then (b75 1) else if k = 51 then (b75 2) else if k = 52 then (b75 3) else if k = 53 then q84 else if k = 54 then q92 else h0, rfl, ?_⟩
  rfl
