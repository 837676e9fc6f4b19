def lX11_init_142  (fu : Nat)  : Nat → (Int32) → (gS) → Option (gS)
  | 0, _, _ => none
  | j + 1, v1, S0 => (if (36 : Int32) ≤ v1 then (some S0) else ((gIx ((88 : Int32) + v1) 160).bind fun k157 => ((some (sAu S0 0 k157 (1 : Int32))).bind fun S0x157 => ((gIx ((124 : Int32) + v1) 160).bind fun k167 => ((some (sAu S0x157 0 k167 (0 : Int32))).bind fun S0x167 => ((lX11_init_142  fu  j) (v1 + 1) S0x167))))))
def lX11_init_122  (fu : Nat)  : Nat → (Int32) → (gS) → Option (gS)
  | 0, _, _ => none
  | j + 1, v1, S0 => (if (3 : Int32) ≤ v1 then (lX11_init_142  fu  fu (0 : Int32) S0) else ((gIx v1 3).bind fun k133 => ((some (sAu S0 4 k133 (-1 : Int32))).bind fun S0x133 => ((lX11_init_122  fu  j) (v1 + 1) S0x133))))
def fX11_init (fu : Nat) (S0 : gS) : Option gS := (lX11_init_122  fu  fu (0 : Int32) S0)
set_option maxHeartbeats 4000000 in
set_option maxRecDepth 100000 in
theorem kX11_init {l : Launch} {E : gE} {h0 fu : Nat} {r : gS} (hf : fX11_init fu z0X11 = some r) : Ctr l yX11_init cX11_init 2 none (gRI 1 15 691 20) E [.ref h0] [(h0, .inr (10, [.null, .null, .int 0, .null, .null, .int 0, .null, .null, .int 0, .null, .null, .long 0, .int 0, .int 0, .int 0, .int 0, .null, .null, .long 0, .long 0, .int 0, .null, .null, .null, .null, .long 0, .null]))] (fun v w => v = none ∧ ∃ a : Nat → Nat, a 0 = h0 ∧ w = wRf E a r) := by
  rw [fX11_init] at hf
  refine ctr_of true (plainFor_of_name (by decide)) (Nat.le_of_ble_eq_true rfl) (fun _ => rfl) (fun Γ h => ?_)
  refine g_lv [some _, _] rfl ?_
  refine g_aload_n h dX11_init_0 rfl ?_
  refine g_objInit h dX11_init_1 lkX11_3 goi1 goi2 (Nat.le_of_ble_eq_true rfl) (Nat.le_of_ble_eq_true rfl) (Nat.le_of_ble_eq_true rfl) ?_
  refine g_aload_n h dX11_init_4 rfl ?_
  refine g_sipush (v := 160) h dX11_init_5 (by decide) ?_
  refine g_newaI (N := 160) h dX11_init_8 gar_int rfl (by decide) (Nat.le_of_ble_eq_true rfl) (Nat.le_of_ble_eq_true rfl) (fun q8 => ?_)
  refine g_as rfl rfl rfl (show _ = [(h0, .inr (10, [.null, .null, .int 0, .null, .null, .int 0, .null, .null, .int 0, .null, .null, .long 0, .int 0, .int 0, .int 0, .int 0, .null, .null, .long 0, .long 0, .int 0, .null, .null, .null, .null, .long 0, .null])), (q8, .inl (E.2 0, 160, .inl (fun _ => 0)))] from rfl) ?_
  refine g_putF (ws' := [(h0, .inr (10, [.ref q8, .null, .int 0, .null, .null, .int 0, .null, .null, .int 0, .null, .null, .long 0, .int 0, .int 0, .int 0, .int 0, .null, .null, .long 0, .long 0, .int 0, .null, .null, .null, .null, .long 0, .null])), (q8, .inl (E.2 0, 160, .inl (fun _ => 0)))]) (ty := (.array .int)) h rfl flX11_9 gftX11 rfl rfl (by decide +kernel) dX11_init_10 0 rfl rfl rfl (Nat.le_of_ble_eq_true rfl) rfl ?_
  refine g_aload_n h dX11_init_13 rfl ?_
  refine g_sipush (v := 160) h dX11_init_14 (by decide) ?_
  refine g_newaI (N := 160) h dX11_init_17 gar_int rfl (by decide) (Nat.le_of_ble_eq_true rfl) (Nat.le_of_ble_eq_true rfl) (fun q17 => ?_)
  refine g_as rfl rfl rfl (show _ = [(h0, .inr (10, [.ref q8, .null, .int 0, .null, .null, .int 0, .null, .null, .int 0, .null, .null, .long 0, .int 0, .int 0, .int 0, .int 0, .null, .null, .long 0, .long 0, .int 0, .null, .null, .null, .null, .long 0, .null])), (q8, .inl (E.2 0, 160, .inl (fun _ => 0))), (q17, .inl (E.2 0, 160, .inl (fun _ => 0)))] from rfl) ?_
  refine g_putF (ws' := [(h0, .inr (10, [.ref q8, .ref q17, .int 0, .null, .null, .int 0, .null, .null, .int 0, .null, .null, .long 0, .int 0, .int 0, .int 0, .int 0, .null, .null, .long 0, .long 0, .int 0, .null, .null, .null, .null, .long 0, .null])), (q8, .inl (E.2 0, 160, .inl (fun _ => 0))), (q17, .inl (E.2 0, 160, .inl (fun _ => 0)))]) (ty := (.array .int)) h rfl flX11_13 gftX11 rfl rfl (by decide +kernel) dX11_init_19 0 rfl rfl rfl (Nat.le_of_ble_eq_true rfl) rfl ?_
  refine g_aload_n h dX11_init_22 rfl ?_
  refine g_bipush (v := 108) h dX11_init_23 (by decide) ?_
  refine g_newaI (N := 108) h dX11_init_25 gar_int rfl (by decide) (Nat.le_of_ble_eq_true rfl) (Nat.le_of_ble_eq_true rfl) (fun q25 => ?_)
  refine g_as rfl rfl rfl (show _ = [(h0, .inr (10, [.ref q8, .ref q17, .int 0, .null, .null, .int 0, .null, .null, .int 0, .null, .null, .long 0, .int 0, .int 0, .int 0, .int 0, .null, .null, .long 0, .long 0, .int 0, .null, .null, .null, .null, .long 0, .null])), (q8, .inl (E.2 0, 160, .inl (fun _ => 0))), (q17, .inl (E.2 0, 160, .inl (fun _ => 0))), (q25, .inl (E.2 0, 108, .inl (fun _ => 0)))] from rfl) ?_
  refine g_putF (ws' := [(h0, .inr (10, [.ref q8, .ref q17, .int 0, .ref q25, .null, .int 0, .null, .null, .int 0, .null, .null, .long 0, .int 0, .int 0, .int 0, .int 0, .null, .null, .long 0, .long 0, .int 0, .null, .null, .null, .null, .long 0, .null])), (q8, .inl (E.2 0, 160, .inl (fun _ => 0))), (q17, .inl (E.2 0, 160, .inl (fun _ => 0))), (q25, .inl (E.2 0, 108, .inl (fun _ => 0)))]) (ty := (.array .int)) h rfl flX11_16 gftX11 rfl rfl (by decide +kernel) dX11_init_27 0 rfl rfl rfl (Nat.le_of_ble_eq_true rfl) rfl ?_
  refine g_aload_n h dX11_init_30 rfl ?_
  refine g_iconst (v := 3) h dX11_init_31 (by decide) ?_
  refine g_newaI (N := 3) h dX11_init_32 gar_int rfl (by decide) (Nat.le_of_ble_eq_true rfl) (Nat.le_of_ble_eq_true rfl) (fun q32 => ?_)
  refine g_as rfl rfl rfl (show _ = [(h0, .inr (10, [.ref q8, .ref q17, .int 0, .ref q25, .null, .int 0, .null, .null, .int 0, .null, .null, .long 0, .int 0, .int 0, .int 0, .int 0, .null, .null, .long 0, .long 0, .int 0, .null, .null, .null, .null, .long 0, .null])), (q8, .inl (E.2 0, 160, .inl (fun _ => 0))), (q17, .inl (E.2 0, 160, .inl (fun _ => 0))), (q25, .inl (E.2 0, 108, .inl (fun _ => 0))), (q32, .inl (E.2 0, 3, .inl (fun _ => 0)))] from rfl) ?_
  refine g_putF (ws' := [(h0, .inr (10, [.ref q8, .ref q17, .int 0, .ref q25, .ref q32, .int 0, .null, .null, .int 0, .null, .null, .long 0, .int 0, .int 0, .int 0, .int 0, .null, .null, .long 0, .long 0, .int 0, .null, .null, .null, .null, .long 0, .null])), (q8, .inl (E.2 0, 160, .inl (fun _ => 0))), (q17, .inl (E.2 0, 160, .inl (fun _ => 0))), (q25, .inl (E.2 0, 108, .inl (fun _ => 0))), (q32, .inl (E.2 0, 3, .inl (fun _ => 0)))]) (ty := (.array .int)) h rfl flX11_19 gftX11 rfl rfl (by decide +kernel) dX11_init_34 0 rfl rfl rfl (Nat.le_of_ble_eq_true rfl) rfl ?_
  refine g_aload_n h dX11_init_37 rfl ?_
  refine g_bipush (v := 60) h dX11_init_38 (by decide) ?_
  refine g_newaI (N := 60) h dX11_init_40 gar_int rfl (by decide) (Nat.le_of_ble_eq_true rfl) (Nat.le_of_ble_eq_true rfl) (fun q40 => ?_)
  refine g_as rfl rfl rfl (show _ = [(h0, .inr (10, [.ref q8, .ref q17, .int 0, .ref q25, .ref q32, .int 0, .null, .null, .int 0, .null, .null, .long 0, .int 0, .int 0, .int 0, .int 0, .null, .null, .long 0, .long 0, .int 0, .null, .null, .null, .null, .long 0, .null])), (q8, .inl (E.2 0, 160, .inl (fun _ => 0))), (q17, .inl (E.2 0, 160, .inl (fun _ => 0))), (q25, .inl (E.2 0, 108, .inl (fun _ => 0))), (q32, .inl (E.2 0, 3, .inl (fun _ => 0))), (q40, .inl (E.2 0, 60, .inl (fun _ => 0)))] from rfl) ?_
  refine g_putF (ws' := [(h0, .inr (10, [.ref q8, .ref q17, .int 0, .ref q25, .ref q32, .int 0, .ref q40, .null, .int 0, .null, .null, .long 0, .int 0, .int 0, .int 0, .int 0, .null, .null, .long 0, .long 0, .int 0, .null, .null, .null, .null, .long 0, .null])), (q8, .inl (E.2 0, 160, .inl (fun _ => 0))), (q17, .inl (E.2 0, 160, .inl (fun _ => 0))), (q25, .inl (E.2 0, 108, .inl (fun _ => 0))), (q32, .inl (E.2 0, 3, .inl (fun _ => 0))), (q40, .inl (E.2 0, 60, .inl (fun _ => 0)))]) (ty := (.array .int)) h rfl flX11_22 gftX11 rfl rfl (by decide +kernel) dX11_init_42 0 rfl rfl rfl (Nat.le_of_ble_eq_true rfl) rfl ?_
  refine g_aload_n h dX11_init_45 rfl ?_
  refine g_bipush (v := 60) h dX11_init_46 (by decide) ?_
  refine g_newaI (N := 60) h dX11_init_48 gar_int rfl (by decide) (Nat.le_of_ble_eq_true rfl) (Nat.le_of_ble_eq_true rfl) (fun q48 => ?_)
  refine g_as rfl rfl rfl (show _ = [(h0, .inr (10, [.ref q8, .ref q17, .int 0, .ref q25, .ref q32, .int 0, .ref q40, .null, .int 0, .null, .null, .long 0, .int 0, .int 0, .int 0, .int 0, .null, .null, .long 0, .long 0, .int 0, .null, .null, .null, .null, .long 0, .null])), (q8, .inl (E.2 0, 160, .inl (fun _ => 0))), (q17, .inl (E.2 0, 160, .inl (fun _ => 0))), (q25, .inl (E.2 0, 108, .inl (fun _ => 0))), (q32, .inl (E.2 0, 3, .inl (fun _ => 0))), (q40, .inl (E.2 0, 60, .inl (fun _ => 0))), (q48, .inl (E.2 0, 60, .inl (fun _ => 0)))] from rfl) ?_
  refine g_putF (ws' := [(h0, .inr (10, [.ref q8, .ref q17, .int 0, .ref q25, .ref q32, .int 0, .ref q40, .ref q48, .int 0, .null, .null, .long 0, .int 0, .int 0, .int 0, .int 0, .null, .null, .long 0, .long 0, .int 0, .null, .null, .null, .null, .long 0, .null])), (q8, .inl (E.2 0, 160, .inl (fun _ => 0))), (q17, .inl (E.2 0, 160, .inl (fun _ => 0))), (q25, .inl (E.2 0, 108, .inl (fun _ => 0))), (q32, .inl (E.2 0, 3, .inl (fun _ => 0))), (q40, .inl (E.2 0, 60, .inl (fun _ => 0))), (q48, .inl (E.2 0, 60, .inl (fun _ => 0)))]) (ty := (.array .int)) h rfl flX11_25 gftX11 rfl rfl (by decide +kernel) dX11_init_50 0 rfl rfl rfl (Nat.le_of_ble_eq_true rfl) rfl ?_
  refine g_aload_n h dX11_init_53 rfl ?_
  refine g_bipush (v := 16) h dX11_init_54 (by decide) ?_
  refine g_newaI (N := 16) h dX11_init_56 gar_int rfl (by decide) (Nat.le_of_ble_eq_true rfl) (Nat.le_of_ble_eq_true rfl) (fun q56 => ?_)
  refine g_as rfl rfl rfl (show _ = [(h0, .inr (10, [.ref q8, .ref q17, .int 0, .ref q25, .ref q32, .int 0, .ref q40, .ref q48, .int 0, .null, .null, .long 0, .int 0, .int 0, .int 0, .int 0, .null, .null, .long 0, .long 0, .int 0, .null, .null, .null, .null, .long 0, .null])), (q8, .inl (E.2 0, 160, .inl (fun _ => 0))), (q17, .inl (E.2 0, 160, .inl (fun _ => 0))), (q25, .inl (E.2 0, 108, .inl (fun _ => 0))), (q32, .inl (E.2 0, 3, .inl (fun _ => 0))), (q40, .inl (E.2 0, 60, .inl (fun _ => 0))), (q48, .inl (E.2 0, 60, .inl (fun _ => 0))), (q56, .inl (E.2 0, 16, .inl (fun _ => 0)))] from rfl) ?_
  refine g_putF (ws' := [(h0, .inr (10, [.ref q8, .ref q17, .int 0, .ref q25, .ref q32, .int 0, .ref q40, .ref q48, .int 0, .ref q56, .null, .long 0, .int 0, .int 0, .int 0, .int 0, .null, .null, .long 0, .long 0, .int 0, .null, .null, .null, .null, .long 0, .null])), (q8, .inl (E.2 0, 160, .inl (fun _ => 0))), (q17, .inl (E.2 0, 160, .inl (fun _ => 0))), (q25, .inl (E.2 0, 108, .inl (fun _ => 0))), (q32, .inl (E.2 0, 3, .inl (fun _ => 0))), (q40, .inl (E.2 0, 60, .inl (fun _ => 0))), (q48, .inl (E.2 0, 60, .inl (fun _ => 0))), (q56, .inl (E.2 0, 16, .inl (fun _ => 0)))]) (ty := (.array .int)) h rfl flX11_28 gftX11 rfl rfl (by decide +kernel) dX11_init_58 0 rfl rfl rfl (Nat.le_of_ble_eq_true rfl) rfl ?_
  refine g_aload_n h dX11_init_61 rfl ?_
  refine g_bipush (v := 8) h dX11_init_62 (by decide) ?_
  refine g_newaJ (N := 8) h dX11_init_64 gar_long rfl (by decide) (Nat.le_of_ble_eq_true rfl) (Nat.le_of_ble_eq_true rfl) (fun q64 => ?_)
  refine g_as rfl rfl rfl (show _ = [(h0, .inr (10, [.ref q8, .ref q17, .int 0, .ref q25, .ref q32, .int 0, .ref q40, .ref q48, .int 0, .ref q56, .null, .long 0, .int 0, .int 0, .int 0, .int 0, .null, .null, .long 0, .long 0, .int 0, .null, .null, .null, .null, .long 0, .null])), (q8, .inl (E.2 0, 160, .inl (fun _ => 0))), (q17, .inl (E.2 0, 160, .inl (fun _ => 0))), (q25, .inl (E.2 0, 108, .inl (fun _ => 0))), (q32, .inl (E.2 0, 3, .inl (fun _ => 0))), (q40, .inl (E.2 0, 60, .inl (fun _ => 0))), (q48, .inl (E.2 0, 60, .inl (fun _ => 0))), (q56, .inl (E.2 0, 16, .inl (fun _ => 0))), (q64, .inl (E.2 1, 8, .inr (.inl (fun _ => 0))))] from rfl) ?_
  refine g_putF (ws' := [(h0, .inr (10, [.ref q8, .ref q17, .int 0, .ref q25, .ref q32, .int 0, .ref q40, .ref q48, .int 0, .ref q56, .ref q64, .long 0, .int 0, .int 0, .int 0, .int 0, .null, .null, .long 0, .long 0, .int 0, .null, .null, .null, .null, .long 0, .null])), (q8, .inl (E.2 0, 160, .inl (fun _ => 0))), (q17, .inl (E.2 0, 160, .inl (fun _ => 0))), (q25, .inl (E.2 0, 108, .inl (fun _ => 0))), (q32, .inl (E.2 0, 3, .inl (fun _ => 0))), (q40, .inl (E.2 0, 60, .inl (fun _ => 0))), (q48, .inl (E.2 0, 60, .inl (fun _ => 0))), (q56, .inl (E.2 0, 16, .inl (fun _ => 0))), (q64, .inl (E.2 1, 8, .inr (.inl (fun _ => 0))))]) (ty := (.array .long)) h rfl flX11_31 gftX11 rfl rfl (by decide +kernel) dX11_init_66 0 rfl rfl rfl (Nat.le_of_ble_eq_true rfl) rfl ?_
  refine g_aload_n h dX11_init_69 rfl ?_
  refine g_iconst (v := 4) h dX11_init_70 (by decide) ?_
  refine g_newaI (N := 4) h dX11_init_71 gar_int rfl (by decide) (Nat.le_of_ble_eq_true rfl) (Nat.le_of_ble_eq_true rfl) (fun q71 => ?_)
  refine g_as rfl rfl rfl (show _ = [(h0, .inr (10, [.ref q8, .ref q17, .int 0, .ref q25, .ref q32, .int 0, .ref q40, .ref q48, .int 0, .ref q56, .ref q64, .long 0, .int 0, .int 0, .int 0, .int 0, .null, .null, .long 0, .long 0, .int 0, .null, .null, .null, .null, .long 0, .null])), (q8, .inl (E.2 0, 160, .inl (fun _ => 0))), (q17, .inl (E.2 0, 160, .inl (fun _ => 0))), (q25, .inl (E.2 0, 108, .inl (fun _ => 0))), (q32, .inl (E.2 0, 3, .inl (fun _ => 0))), (q40, .inl (E.2 0, 60, .inl (fun _ => 0))), (q48, .inl (E.2 0, 60, .inl (fun _ => 0))), (q56, .inl (E.2 0, 16, .inl (fun _ => 0))), (q64, .inl (E.2 1, 8, .inr (.inl (fun _ => 0)))), (q71, .inl (E.2 0, 4, .inl (fun _ => 0)))] from rfl) ?_
  refine g_putF (ws' := [(h0, .inr (10, [.ref q8, .ref q17, .int 0, .ref q25, .ref q32, .int 0, .ref q40, .ref q48, .int 0, .ref q56, .ref q64, .long 0, .int 0, .int 0, .int 0, .int 0, .ref q71, .null, .long 0, .long 0, .int 0, .null, .null, .null, .null, .long 0, .null])), (q8, .inl (E.2 0, 160, .inl (fun _ => 0))), (q17, .inl (E.2 0, 160, .inl (fun _ => 0))), (q25, .inl (E.2 0, 108, .inl (fun _ => 0))), (q32, .inl (E.2 0, 3, .inl (fun _ => 0))), (q40, .inl (E.2 0, 60, .inl (fun _ => 0))), (q48, .inl (E.2 0, 60, .inl (fun _ => 0))), (q56, .inl (E.2 0, 16, .inl (fun _ => 0))), (q64, .inl (E.2 1, 8, .inr (.inl (fun _ => 0)))), (q71, .inl (E.2 0, 4, .inl (fun _ => 0)))]) (ty := (.array .int)) h rfl flX11_35 gftX11 rfl rfl (by decide +kernel) dX11_init_73 0 rfl rfl rfl (Nat.le_of_ble_eq_true rfl) rfl ?_
  refine g_aload_n h dX11_init_76 rfl ?_
  refine g_iconst (v := 4) h dX11_init_77 (by decide) ?_
  refine g_newaJ (N := 4) h dX11_init_78 gar_long rfl (by decide) (Nat.le_of_ble_eq_true rfl) (Nat.le_of_ble_eq_true rfl) (fun q78 => ?_)
  refine g_as rfl rfl rfl (show _ = [(h0, .inr (10, [.ref q8, .ref q17, .int 0, .ref q25, .ref q32, .int 0, .ref q40, .ref q48, .int 0, .ref q56, .ref q64, .long 0, .int 0, .int 0, .int 0, .int 0, .ref q71, .null, .long 0, .long 0, .int 0, .null, .null, .null, .null, .long 0, .null])), (q8, .inl (E.2 0, 160, .inl (fun _ => 0))), (q17, .inl (E.2 0, 160, .inl (fun _ => 0))), (q25, .inl (E.2 0, 108, .inl (fun _ => 0))), (q32, .inl (E.2 0, 3, .inl (fun _ => 0))), (q40, .inl (E.2 0, 60, .inl (fun _ => 0))), (q48, .inl (E.2 0, 60, .inl (fun _ => 0))), (q56, .inl (E.2 0, 16, .inl (fun _ => 0))), (q64, .inl (E.2 1, 8, .inr (.inl (fun _ => 0)))), (q71, .inl (E.2 0, 4, .inl (fun _ => 0))), (q78, .inl (E.2 1, 4, .inr (.inl (fun _ => 0))))] from rfl) ?_
  refine g_putF (ws' := [(h0, .inr (10, [.ref q8, .ref q17, .int 0, .ref q25, .ref q32, .int 0, .ref q40, .ref q48, .int 0, .ref q56, .ref q64, .long 0, .int 0, .int 0, .int 0, .int 0, .ref q71, .ref q78, .long 0, .long 0, .int 0, .null, .null, .null, .null, .long 0, .null])), (q8, .inl (E.2 0, 160, .inl (fun _ => 0))), (q17, .inl (E.2 0, 160, .inl (fun _ => 0))), (q25, .inl (E.2 0, 108, .inl (fun _ => 0))), (q32, .inl (E.2 0, 3, .inl (fun _ => 0))), (q40, .inl (E.2 0, 60, .inl (fun _ => 0))), (q48, .inl (E.2 0, 60, .inl (fun _ => 0))), (q56, .inl (E.2 0, 16, .inl (fun _ => 0))), (q64, .inl (E.2 1, 8, .inr (.inl (fun _ => 0)))), (q71, .inl (E.2 0, 4, .inl (fun _ => 0))), (q78, .inl (E.2 1, 4, .inr (.inl (fun _ => 0))))]) (ty := (.array .long)) h rfl flX11_38 gftX11 rfl rfl (by decide +kernel) dX11_init_80 0 rfl rfl rfl (Nat.le_of_ble_eq_true rfl) rfl ?_
  refine g_aload_n h dX11_init_83 rfl ?_
  refine g_iconst (v := 4) h dX11_init_84 (by decide) ?_
  refine g_newaI (N := 4) h dX11_init_85 gar_int rfl (by decide) (Nat.le_of_ble_eq_true rfl) (Nat.le_of_ble_eq_true rfl) (fun q85 => ?_)
  refine g_as rfl rfl rfl (show _ = [(h0, .inr (10, [.ref q8, .ref q17, .int 0, .ref q25, .ref q32, .int 0, .ref q40, .ref q48, .int 0, .ref q56, .ref q64, .long 0, .int 0, .int 0, .int 0, .int 0, .ref q71, .ref q78, .long 0, .long 0, .int 0, .null, .null, .null, .null, .long 0, .null])), (q8, .inl (E.2 0, 160, .inl (fun _ => 0))), (q17, .inl (E.2 0, 160, .inl (fun _ => 0))), (q25, .inl (E.2 0, 108, .inl (fun _ => 0))), (q32, .inl (E.2 0, 3, .inl (fun _ => 0))), (q40, .inl (E.2 0, 60, .inl (fun _ => 0))), (q48, .inl (E.2 0, 60, .inl (fun _ => 0))), (q56, .inl (E.2 0, 16, .inl (fun _ => 0))), (q64, .inl (E.2 1, 8, .inr (.inl (fun _ => 0)))), (q71, .inl (E.2 0, 4, .inl (fun _ => 0))), (q78, .inl (E.2 1, 4, .inr (.inl (fun _ => 0)))), (q85, .inl (E.2 0, 4, .inl (fun _ => 0)))] from rfl) ?_
  refine g_putF (ws' := [(h0, .inr (10, [.ref q8, .ref q17, .int 0, .ref q25, .ref q32, .int 0, .ref q40, .ref q48, .int 0, .ref q56, .ref q64, .long 0, .int 0, .int 0, .int 0, .int 0, .ref q71, .ref q78, .long 0, .long 0, .int 0, .ref q85, .null, .null, .null, .long 0, .null])), (q8, .inl (E.2 0, 160, .inl (fun _ => 0))), (q17, .inl (E.2 0, 160, .inl (fun _ => 0))), (q25, .inl (E.2 0, 108, .inl (fun _ => 0))), (q32, .inl (E.2 0, 3, .inl (fun _ => 0))), (q40, .inl (E.2 0, 60, .inl (fun _ => 0))), (q48, .inl (E.2 0, 60, .inl (fun _ => 0))), (q56, .inl (E.2 0, 16, .inl (fun _ => 0))), (q64, .inl (E.2 1, 8, .inr (.inl (fun _ => 0)))), (q71, .inl (E.2 0, 4, .inl (fun _ => 0))), (q78, .inl (E.2 1, 4, .inr (.inl (fun _ => 0)))), (q85, .inl (E.2 0, 4, .inl (fun _ => 0)))]) (ty := (.array .int)) h rfl flX11_41 gftX11 rfl rfl (by decide +kernel) dX11_init_87 0 rfl rfl rfl (Nat.le_of_ble_eq_true rfl) rfl ?_
  refine g_aload_n h dX11_init_90 rfl ?_
  refine g_bipush (v := 16) h dX11_init_91 (by decide) ?_
  refine g_newaJ (N := 16) h dX11_init_93 gar_long rfl (by decide) (Nat.le_of_ble_eq_true rfl) (Nat.le_of_ble_eq_true rfl) (fun q93 => ?_)
  refine g_as rfl rfl rfl (show _ = [(h0, .inr (10, [.ref q8, .ref q17, .int 0, .ref q25, .ref q32, .int 0, .ref q40, .ref q48, .int 0, .ref q56, .ref q64, .long 0, .int 0, .int 0, .int 0, .int 0, .ref q71, .ref q78, .long 0, .long 0, .int 0, .ref q85, .null, .null, .null, .long 0, .null])), (q8, .inl (E.2 0, 160, .inl (fun _ => 0))), (q17, .inl (E.2 0, 160, .inl (fun _ => 0))), (q25, .inl (E.2 0, 108, .inl (fun _ => 0))), (q32, .inl (E.2 0, 3, .inl (fun _ => 0))), (q40, .inl (E.2 0, 60, .inl (fun _ => 0))), (q48, .inl (E.2 0, 60, .inl (fun _ => 0))), (q56, .inl (E.2 0, 16, .inl (fun _ => 0))), (q64, .inl (E.2 1, 8, .inr (.inl (fun _ => 0)))), (q71, .inl (E.2 0, 4, .inl (fun _ => 0))), (q78, .inl (E.2 1, 4, .inr (.inl (fun _ => 0)))), (q85, .inl (E.2 0, 4, .inl (fun _ => 0))), (q93, .inl (E.2 1, 16, .inr (.inl (fun _ => 0))))] from rfl) ?_
  refine g_putF (ws' := [(h0, .inr (10, [.ref q8, .ref q17, .int 0, .ref q25, .ref q32, .int 0, .ref q40, .ref q48, .int 0, .ref q56, .ref q64, .long 0, .int 0, .int 0, .int 0, .int 0, .ref q71, .ref q78, .long 0, .long 0, .int 0, .ref q85, .ref q93, .null, .null, .long 0, .null])), (q8, .inl (E.2 0, 160, .inl (fun _ => 0))), (q17, .inl (E.2 0, 160, .inl (fun _ => 0))), (q25, .inl (E.2 0, 108, .inl (fun _ => 0))), (q32, .inl (E.2 0, 3, .inl (fun _ => 0))), (q40, .inl (E.2 0, 60, .inl (fun _ => 0))), (q48, .inl (E.2 0, 60, .inl (fun _ => 0))), (q56, .inl (E.2 0, 16, .inl (fun _ => 0))), (q64, .inl (E.2 1, 8, .inr (.inl (fun _ => 0)))), (q71, .inl (E.2 0, 4, .inl (fun _ => 0))), (q78, .inl (E.2 1, 4, .inr (.inl (fun _ => 0)))), (q85, .inl (E.2 0, 4, .inl (fun _ => 0))), (q93, .inl (E.2 1, 16, .inr (.inl (fun _ => 0))))]) (ty := (.array .long)) h rfl flX11_44 gftX11 rfl rfl (by decide +kernel) dX11_init_95 0 rfl rfl rfl (Nat.le_of_ble_eq_true rfl) rfl ?_
  refine g_aload_n h dX11_init_98 rfl ?_
  refine g_iconst (v := 4) h dX11_init_99 (by decide) ?_
  refine g_newaJ (N := 4) h dX11_init_100 gar_long rfl (by decide) (Nat.le_of_ble_eq_true rfl) (Nat.le_of_ble_eq_true rfl) (fun q100 => ?_)
  refine g_as rfl rfl rfl (show _ = [(h0, .inr (10, [.ref q8, .ref q17, .int 0, .ref q25, .ref q32, .int 0, .ref q40, .ref q48, .int 0, .ref q56, .ref q64, .long 0, .int 0, .int 0, .int 0, .int 0, .ref q71, .ref q78, .long 0, .long 0, .int 0, .ref q85, .ref q93, .null, .null, .long 0, .null])), (q8, .inl (E.2 0, 160, .inl (fun _ => 0))), (q17, .inl (E.2 0, 160, .inl (fun _ => 0))), (q25, .inl (E.2 0, 108, .inl (fun _ => 0))), (q32, .inl (E.2 0, 3, .inl (fun _ => 0))), (q40, .inl (E.2 0, 60, .inl (fun _ => 0))), (q48, .inl (E.2 0, 60, .inl (fun _ => 0))), (q56, .inl (E.2 0, 16, .inl (fun _ => 0))), (q64, .inl (E.2 1, 8, .inr (.inl (fun _ => 0)))), (q71, .inl (E.2 0, 4, .inl (fun _ => 0))), (q78, .inl (E.2 1, 4, .inr (.inl (fun _ => 0)))), (q85, .inl (E.2 0, 4, .inl (fun _ => 0))), (q93, .inl (E.2 1, 16, .inr (.inl (fun _ => 0)))), (q100, .inl (E.2 1, 4, .inr (.inl (fun _ => 0))))] from rfl) ?_
  refine g_putF (ws' := [(h0, .inr (10, [.ref q8, .ref q17, .int 0, .ref q25, .ref q32, .int 0, .ref q40, .ref q48, .int 0, .ref q56, .ref q64, .long 0, .int 0, .int 0, .int 0, .int 0, .ref q71, .ref q78, .long 0, .long 0, .int 0, .ref q85, .ref q93, .ref q100, .null, .long 0, .null])), (q8, .inl (E.2 0, 160, .inl (fun _ => 0))), (q17, .inl (E.2 0, 160, .inl (fun _ => 0))), (q25, .inl (E.2 0, 108, .inl (fun _ => 0))), (q32, .inl (E.2 0, 3, .inl (fun _ => 0))), (q40, .inl (E.2 0, 60, .inl (fun _ => 0))), (q48, .inl (E.2 0, 60, .inl (fun _ => 0))), (q56, .inl (E.2 0, 16, .inl (fun _ => 0))), (q64, .inl (E.2 1, 8, .inr (.inl (fun _ => 0)))), (q71, .inl (E.2 0, 4, .inl (fun _ => 0))), (q78, .inl (E.2 1, 4, .inr (.inl (fun _ => 0)))), (q85, .inl (E.2 0, 4, .inl (fun _ => 0))), (q93, .inl (E.2 1, 16, .inr (.inl (fun _ => 0)))), (q100, .inl (E.2 1, 4, .inr (.inl (fun _ => 0))))]) (ty := (.array .long)) h rfl flX11_47 gftX11 rfl rfl (by decide +kernel) dX11_init_102 0 rfl rfl rfl (Nat.le_of_ble_eq_true rfl) rfl ?_
  refine g_aload_n h dX11_init_105 rfl ?_
  refine g_iconst (v := 4) h dX11_init_106 (by decide) ?_
  refine g_newaJ (N := 4) h dX11_init_107 gar_long rfl (by decide) (Nat.le_of_ble_eq_true rfl) (Nat.le_of_ble_eq_true rfl) (fun q107 => ?_)
  refine g_as rfl rfl rfl (show _ = [(h0, .inr (10, [.ref q8, .ref q17, .int 0, .ref q25, .ref q32, .int 0, .ref q40, .ref q48, .int 0, .ref q56, .ref q64, .long 0, .int 0, .int 0, .int 0, .int 0, .ref q71, .ref q78, .long 0, .long 0, .int 0, .ref q85, .ref q93, .ref q100, .null, .long 0, .null])), (q8, .inl (E.2 0, 160, .inl (fun _ => 0))), (q17, .inl (E.2 0, 160, .inl (fun _ => 0))), (q25, .inl (E.2 0, 108, .inl (fun _ => 0))), (q32, .inl (E.2 0, 3, .inl (fun _ => 0))), (q40, .inl (E.2 0, 60, .inl (fun _ => 0))), (q48, .inl (E.2 0, 60, .inl (fun _ => 0))), (q56, .inl (E.2 0, 16, .inl (fun _ => 0))), (q64, .inl (E.2 1, 8, .inr (.inl (fun _ => 0)))), (q71, .inl (E.2 0, 4, .inl (fun _ => 0))), (q78, .inl (E.2 1, 4, .inr (.inl (fun _ => 0)))), (q85, .inl (E.2 0, 4, .inl (fun _ => 0))), (q93, .inl (E.2 1, 16, .inr (.inl (fun _ => 0)))), (q100, .inl (E.2 1, 4, .inr (.inl (fun _ => 0)))), (q107, .inl (E.2 1, 4, .inr (.inl (fun _ => 0))))] from rfl) ?_
  refine g_putF (ws' := [(h0, .inr (10, [.ref q8, .ref q17, .int 0, .ref q25, .ref q32, .int 0, .ref q40, .ref q48, .int 0, .ref q56, .ref q64, .long 0, .int 0, .int 0, .int 0, .int 0, .ref q71, .ref q78, .long 0, .long 0, .int 0, .ref q85, .ref q93, .ref q100, .ref q107, .long 0, .null])), (q8, .inl (E.2 0, 160, .inl (fun _ => 0))), (q17, .inl (E.2 0, 160, .inl (fun _ => 0))), (q25, .inl (E.2 0, 108, .inl (fun _ => 0))), (q32, .inl (E.2 0, 3, .inl (fun _ => 0))), (q40, .inl (E.2 0, 60, .inl (fun _ => 0))), (q48, .inl (E.2 0, 60, .inl (fun _ => 0))), (q56, .inl (E.2 0, 16, .inl (fun _ => 0))), (q64, .inl (E.2 1, 8, .inr (.inl (fun _ => 0)))), (q71, .inl (E.2 0, 4, .inl (fun _ => 0))), (q78, .inl (E.2 1, 4, .inr (.inl (fun _ => 0)))), (q85, .inl (E.2 0, 4, .inl (fun _ => 0))), (q93, .inl (E.2 1, 16, .inr (.inl (fun _ => 0)))), (q100, .inl (E.2 1, 4, .inr (.inl (fun _ => 0)))), (q107, .inl (E.2 1, 4, .inr (.inl (fun _ => 0))))]) (ty := (.array .long)) h rfl flX11_50 gftX11 rfl rfl (by decide +kernel) dX11_init_109 0 rfl rfl rfl (Nat.le_of_ble_eq_true rfl) rfl ?_
  refine g_aload_n h dX11_init_112 rfl ?_
  refine g_bipush (v := 80) h dX11_init_113 (by decide) ?_
  refine g_newaJ (N := 80) h dX11_init_115 gar_long rfl (by decide) (Nat.le_of_ble_eq_true rfl) (Nat.le_of_ble_eq_true rfl) (fun q115 => ?_)
  refine g_as rfl rfl rfl (show _ = [(h0, .inr (10, [.ref q8, .ref q17, .int 0, .ref q25, .ref q32, .int 0, .ref q40, .ref q48, .int 0, .ref q56, .ref q64, .long 0, .int 0, .int 0, .int 0, .int 0, .ref q71, .ref q78, .long 0, .long 0, .int 0, .ref q85, .ref q93, .ref q100, .ref q107, .long 0, .null])), (q8, .inl (E.2 0, 160, .inl (fun _ => 0))), (q17, .inl (E.2 0, 160, .inl (fun _ => 0))), (q25, .inl (E.2 0, 108, .inl (fun _ => 0))), (q32, .inl (E.2 0, 3, .inl (fun _ => 0))), (q40, .inl (E.2 0, 60, .inl (fun _ => 0))), (q48, .inl (E.2 0, 60, .inl (fun _ => 0))), (q56, .inl (E.2 0, 16, .inl (fun _ => 0))), (q64, .inl (E.2 1, 8, .inr (.inl (fun _ => 0)))), (q71, .inl (E.2 0, 4, .inl (fun _ => 0))), (q78, .inl (E.2 1, 4, .inr (.inl (fun _ => 0)))), (q85, .inl (E.2 0, 4, .inl (fun _ => 0))), (q93, .inl (E.2 1, 16, .inr (.inl (fun _ => 0)))), (q100, .inl (E.2 1, 4, .inr (.inl (fun _ => 0)))), (q107, .inl (E.2 1, 4, .inr (.inl (fun _ => 0)))), (q115, .inl (E.2 1, 80, .inr (.inl (fun _ => 0))))] from rfl) ?_
  refine g_putF (ws' := [(h0, .inr (10, [.ref q8, .ref q17, .int 0, .ref q25, .ref q32, .int 0, .ref q40, .ref q48, .int 0, .ref q56, .ref q64, .long 0, .int 0, .int 0, .int 0, .int 0, .ref q71, .ref q78, .long 0, .long 0, .int 0, .ref q85, .ref q93, .ref q100, .ref q107, .long 0, .ref q115])), (q8, .inl (E.2 0, 160, .inl (fun _ => 0))), (q17, .inl (E.2 0, 160, .inl (fun _ => 0))), (q25, .inl (E.2 0, 108, .inl (fun _ => 0))), (q32, .inl (E.2 0, 3, .inl (fun _ => 0))), (q40, .inl (E.2 0, 60, .inl (fun _ => 0))), (q48, .inl (E.2 0, 60, .inl (fun _ => 0))), (q56, .inl (E.2 0, 16, .inl (fun _ => 0))), (q64, .inl (E.2 1, 8, .inr (.inl (fun _ => 0)))), (q71, .inl (E.2 0, 4, .inl (fun _ => 0))), (q78, .inl (E.2 1, 4, .inr (.inl (fun _ => 0)))), (q85, .inl (E.2 0, 4, .inl (fun _ => 0))), (q93, .inl (E.2 1, 16, .inr (.inl (fun _ => 0)))), (q100, .inl (E.2 1, 4, .inr (.inl (fun _ => 0)))), (q107, .inl (E.2 1, 4, .inr (.inl (fun _ => 0)))), (q115, .inl (E.2 1, 80, .inr (.inl (fun _ => 0))))]) (ty := (.array .long)) h rfl flX11_53 gftX11 rfl rfl (by decide +kernel) dX11_init_117 0 rfl rfl rfl (Nat.le_of_ble_eq_true rfl) rfl ?_
  obtain ⟨a0, ha0, hW⟩ : ∃ a0 : Nat → Nat, a0 0 = h0 ∧ [(h0, .inr (10, [.ref q8, .ref q17, .int 0, .ref q25, .ref q32, .int 0, .ref q40, .ref q48, .int 0, .ref q56, .ref q64, .long 0, .int 0, .int 0, .int 0, .int 0, .ref q71, .ref q78, .long 0, .long 0, .int 0, .ref q85, .ref q93, .ref q100, .ref q107, .long 0, .ref q115])), (q8, .inl (E.2 0, 160, .inl (fun _ => 0))), (q17, .inl (E.2 0, 160, .inl (fun _ => 0))), (q25, .inl (E.2 0, 108, .inl (fun _ => 0))), (q32, .inl (E.2 0, 3, .inl (fun _ => 0))), (q40, .inl (E.2 0, 60, .inl (fun _ => 0))), (q48, .inl (E.2 0, 60, .inl (fun _ => 0))), (q56, .inl (E.2 0, 16, .inl (fun _ => 0))), (q64, .inl (E.2 1, 8, .inr (.inl (fun _ => 0)))), (q71, .inl (E.2 0, 4, .inl (fun _ => 0))), (q78, .inl (E.2 1, 4, .inr (.inl (fun _ => 0)))), (q85, .inl (E.2 0, 4, .inl (fun _ => 0))), (q93, .inl (E.2 1, 16, .inr (.inl (fun _ => 0)))), (q100, .inl (E.2 1, 4, .inr (.inl (fun _ => 0)))), (q107, .inl (E.2 1, 4, .inr (.inl (fun _ => 0)))), (q115, .inl (E.2 1, 80, .inr (.inl (fun _ => 0))))] = wRf E a0 z0X11 := ⟨fun k => if k = 0 then h0 else if k = 1 then q8 else if k = 2 then q17 else if k = 3 then q25 else if k = 4 then q32 else if k = 5 then q40 else if k = 6 then q48 else if k = 7 then q56 else if k = 8 then q64 else if k = 9 then q71 else if k = 10 then q78 else if k = 11 then q85 else if k = 12 then q93 else if k = 13 then q100 else if k = 14 then q107 else if k = 15 then q115 else h0, rfl, rfl⟩
  subst ha0
  refine g_as rfl rfl rfl hW ?_
  refine g_uz (u' := 15) (z' := 691) rfl rfl ?_
  have loop142 : ∀ (j142 : Nat) (v1 : Int32) (S0 : gS) , lX11_init_142  fu  j142 v1 S0 = some r → Γ 15 691 142 [some (.ref (a0 0)), some (.int v1)] [] (wRf E a0 S0) := by
    intro j142
    induction j142 with
    | zero => intro v1 S0 hf; exact gno hf
    | succ j142 ih142 =>
      intro v1 S0 hf
      rw [lX11_init_142] at hf
      refine g_iload_n h dX11_init_142 rfl ?_
      refine g_bipush (v := 36) h dX11_init_143 (by decide) ?_
      refine g_ic_ge h dX11_init_145 rfl (fun c145 => ?_) (fun c145 => ?_)
      · replace hf := ifp_t c145 hf
        have er := Option.some.inj hf
        subst er
        exact g_return h dX11_init_174 rfl ⟨Nat.le_of_ble_eq_true rfl, Nat.le_of_ble_eq_true rfl, rfl, rfl, a0, rfl, rfl⟩
      · replace hf := ifp_f c145 hf
        refine g_aload_n h dX11_init_148 rfl ?_
        refine g_get h flX11_9 dX11_init_149 0 rfl rfl ?_
        refine g_bipush (v := 88) h dX11_init_152 (by decide) ?_
        refine g_iload_n h dX11_init_154 rfl ?_
        refine g_iadd h dX11_init_155 ?_
        refine g_iconst (v := 1) h dX11_init_156 (by decide) ?_
        obtain ⟨k157, q157, hf⟩ := gbind hf
        have e157 := (gIx_s q157).1
        have b157 := (gIx_s q157).2
        obtain ⟨S0x157, w157, hf⟩ := gbind hf
        refine g_iast (ws' := wRf E a0 S0x157) h dX11_init_157 1 k157 rfl e157 b157 (by decide) (by cases w157; rfl) ?_
        refine g_aload_n h dX11_init_158 rfl ?_
        refine g_get h flX11_9 dX11_init_159 0 rfl rfl ?_
        refine g_bipush (v := 124) h dX11_init_162 (by decide) ?_
        refine g_iload_n h dX11_init_164 rfl ?_
        refine g_iadd h dX11_init_165 ?_
        refine g_iconst (v := 0) h dX11_init_166 (by decide) ?_
        obtain ⟨k167, q167, hf⟩ := gbind hf
        have e167 := (gIx_s q167).1
        have b167 := (gIx_s q167).2
        obtain ⟨S0x167, w167, hf⟩ := gbind hf
        refine g_iast (ws' := wRf E a0 S0x167) h dX11_init_167 1 k167 rfl e167 b167 (by decide) (by cases w167; rfl) ?_
        refine g_iinc (v := (v1 + 1)) (lv' := [some _, some _]) h dX11_init_168 rfl rfl (by decide) rfl ?_
        refine g_goto h dX11_init_171 rfl ?_
        exact ih142 _ _ hf
  have loop122 : ∀ (j122 : Nat) (v1 : Int32) (S0 : gS) , lX11_init_122  fu  j122 v1 S0 = some r → Γ 15 691 122 [some (.ref (a0 0)), some (.int v1)] [] (wRf E a0 S0) := by
    intro j122
    induction j122 with
    | zero => intro v1 S0 hf; exact gno hf
    | succ j122 ih122 =>
      intro v1 S0 hf
      rw [lX11_init_122] at hf
      refine g_iload_n h dX11_init_122 rfl ?_
      refine g_iconst (v := 3) h dX11_init_123 (by decide) ?_
      refine g_ic_ge h dX11_init_124 rfl (fun c124 => ?_) (fun c124 => ?_)
      · replace hf := ifp_t c124 hf
        refine g_iconst (v := 0) h dX11_init_140 (by decide) ?_
        refine g_istore_n (lv' := [some _, some _]) h dX11_init_141 (by decide) rfl ?_
        exact loop142 _ _ _  hf
      · replace hf := ifp_f c124 hf
        refine g_aload_n h dX11_init_127 rfl ?_
        refine g_get h flX11_19 dX11_init_128 0 rfl rfl ?_
        refine g_iload_n h dX11_init_131 rfl ?_
        refine g_iconst (v := (-1)) h dX11_init_132 (by decide) ?_
        obtain ⟨k133, q133, hf⟩ := gbind hf
        have e133 := (gIx_s q133).1
        have b133 := (gIx_s q133).2
        obtain ⟨S0x133, w133, hf⟩ := gbind hf
        refine g_iast (ws' := wRf E a0 S0x133) h dX11_init_133 4 k133 rfl e133 b133 (by decide) (by cases w133; rfl) ?_
        refine g_iinc (v := (v1 + 1)) (lv' := [some _, some _]) h dX11_init_134 rfl rfl (by decide) rfl ?_
        refine g_goto h dX11_init_137 rfl ?_
        exact ih122 _ _ hf
  refine g_iconst (v := 0) h dX11_init_120 (by decide) ?_
  refine g_istore_n (lv' := [some _, some _]) h dX11_init_121 (by decide) rfl ?_
  exact loop122 _ _ _  hf
