set_option maxHeartbeats 4000000 in
set_option maxRecDepth 100000 in
theorem kJ7_fill_53178 {l : Launch} {E : gE} {h0 m : Nat} {f : Nat → Int32} {v : Int32} (hm : m < 2 ^ 31) : CtrF l yJ7_fill_53178 cJ7_fill_53178 4 none (gR 0 0) E [.ref h0, .int v] ([(h0, .inl (E.2 0, m, .inl (f)))]) none ([(h0, .inl (E.2 0, m, .inl (fillI v f m)))]) := by
  refine ctr_of false (by decide +kernel) (Nat.le_of_ble_eq_true rfl) (fun q => by cases q) (fun Γ h => ?_)
  refine g_lv [some _, some _, _, _] rfl ?_
  refine g_iconst (v := 0) h dJ7_fill_53178_0 (by decide) ?_
  refine g_istore_n (lv' := [some _, some _, some _, _]) h dJ7_fill_53178_1 (by decide) rfl ?_
  refine g_aload_n h dJ7_fill_53178_2 rfl ?_
  refine g_alen0 h dJ7_fill_53178_3 0 rfl ?_
  refine g_istore_n (lv' := [some _, some _, some _, some _]) h dJ7_fill_53178_4 (by decide) rfl ?_
  have loop5 : ∀ (j : Nat) (t : Nat) (_ : t ≤ m), m - t < j → Γ 0 0 5 [some (.ref h0), some (.int v), some (.int (nI t)), some (.int (nI m))] [] ([(h0, .inl (E.2 0, m, .inl (fillI v f t)))]) := by
    intro j
    induction j with
    | zero => intro t ht hj; exact absurd hj (Nat.not_lt_zero _)
    | succ j ih =>
      intro t ht hj
      refine g_iload_n h dJ7_fill_53178_5 rfl ?_
      refine g_iload_n h dJ7_fill_53178_6 rfl ?_
      refine g_ic_ge h dJ7_fill_53178_7 rfl (fun c7 => ?_) (fun c7 => ?_)
      · replace c7 := (nI_leI (by omega) (by omega)).mp c7
        refine g_return h dJ7_fill_53178_20 rfl ⟨Nat.zero_le _, Nat.zero_le _, rfl, ?_, ?_⟩
        · rfl
        · rw [show t = m by omega]
      · replace c7 := (not_congr (nI_leI (by omega) (by omega))).mp c7
        refine g_aload_n h dJ7_fill_53178_10 rfl ?_
        refine g_iload_n h dJ7_fill_53178_11 rfl ?_
        refine g_iload_n h dJ7_fill_53178_12 rfl ?_
        refine g_iast (ws' := [_]) h dJ7_fill_53178_13 0 _ rfl rfl (by omega) (by omega) rfl ?_
        refine g_iinc (lv' := [some _, some _, some _, some _]) h dJ7_fill_53178_14 rfl (nI_inc1 _) (by decide) rfl ?_
        refine g_goto h dJ7_fill_53178_17 rfl ?_
        refine g_as rfl rfl rfl (show _ = [(h0, .inl (E.2 0, m, .inl (fillI v f (t + 1))))] by rw [← fillI_s] <;> rfl) ?_
        exact ih (t + 1) (by omega) (by omega)
  refine g_as rfl rfl rfl (show _ = [(h0, .inl (E.2 0, m, .inl (fillI v f 0)))] by rw [fillI_0]) ?_
  exact loop5 _ 0 (Nat.zero_le _) (Nat.lt_succ_self _)
set_option maxHeartbeats 4000000 in
set_option maxRecDepth 100000 in
theorem kJ7_fill_d0a16 {l : Launch} {E : gE} {h0 m : Nat} {f : Nat → Int64} {v : Int64} (hm : m < 2 ^ 31) : CtrF l yJ7_fill_d0a16 cJ7_fill_d0a16 5 none (gR 0 0) E [.ref h0, .long v] ([(h0, .inl (E.2 1, m, .inr (.inl (f))))]) none ([(h0, .inl (E.2 1, m, .inr (.inl (fillL v f m))))]) := by
  refine ctr_of false (by decide +kernel) (Nat.le_of_ble_eq_true rfl) (fun q => by cases q) (fun Γ h => ?_)
  refine g_lv [some _, some _, none, _, _] rfl ?_
  refine g_iconst (v := 0) h dJ7_fill_d0a16_0 (by decide) ?_
  refine g_istore_n (lv' := [some _, some _, none, some _, _]) h dJ7_fill_d0a16_1 (by decide) rfl ?_
  refine g_aload_n h dJ7_fill_d0a16_2 rfl ?_
  refine g_alen1 h dJ7_fill_d0a16_3 0 rfl ?_
  refine g_istore (lv' := [some _, some _, none, some _, some _]) h dJ7_fill_d0a16_4 (by decide) rfl ?_
  have loop6 : ∀ (j : Nat) (t : Nat) (_ : t ≤ m), m - t < j → Γ 0 0 6 [some (.ref h0), some (.long v), none, some (.int (nI t)), some (.int (nI m))] [] ([(h0, .inl (E.2 1, m, .inr (.inl (fillL v f t))))]) := by
    intro j
    induction j with
    | zero => intro t ht hj; exact absurd hj (Nat.not_lt_zero _)
    | succ j ih =>
      intro t ht hj
      refine g_iload_n h dJ7_fill_d0a16_6 rfl ?_
      refine g_iload h dJ7_fill_d0a16_7 rfl ?_
      refine g_ic_ge h dJ7_fill_d0a16_9 rfl (fun c9 => ?_) (fun c9 => ?_)
      · replace c9 := (nI_leI (by omega) (by omega)).mp c9
        refine g_return h dJ7_fill_d0a16_22 rfl ⟨Nat.zero_le _, Nat.zero_le _, rfl, ?_, ?_⟩
        · rfl
        · rw [show t = m by omega]
      · replace c9 := (not_congr (nI_leI (by omega) (by omega))).mp c9
        refine g_aload_n h dJ7_fill_d0a16_12 rfl ?_
        refine g_iload_n h dJ7_fill_d0a16_13 rfl ?_
        refine g_lload_n h dJ7_fill_d0a16_14 rfl ?_
        refine g_last (ws' := [_]) h dJ7_fill_d0a16_15 0 _ rfl rfl (by omega) (by omega) rfl ?_
        refine g_iinc (lv' := [some _, some _, none, some _, some _]) h dJ7_fill_d0a16_16 rfl (nI_inc1 _) (by decide) rfl ?_
        refine g_goto h dJ7_fill_d0a16_19 rfl ?_
        refine g_as rfl rfl rfl (show _ = [(h0, .inl (E.2 1, m, .inr (.inl (fillL v f (t + 1)))))] by rw [← fillL_s] <;> rfl) ?_
        exact ih (t + 1) (by omega) (by omega)
  refine g_as rfl rfl rfl (show _ = [(h0, .inl (E.2 1, m, .inr (.inl (fillL v f 0))))] by rw [fillL_0]) ?_
  exact loop6 _ 0 (Nat.zero_le _) (Nat.lt_succ_self _)
set_option maxHeartbeats 4000000 in
set_option maxRecDepth 100000 in
theorem kJ7_fill_fb410 {l : Launch} {E : gE} {h0 m : Nat} {f : Nat → Int32} {v : Int32} (hm : m < 2 ^ 31) (hv : vp_nar .short v = v) : CtrF l yJ7_fill_fb410 cJ7_fill_fb410 4 none (gR 0 0) E [.ref h0, .int v] ([(h0, .inl (E.2 2, m, .inl (f)))]) none ([(h0, .inl (E.2 2, m, .inl (fillI v f m)))]) := by
  refine ctr_of false (by decide +kernel) (Nat.le_of_ble_eq_true rfl) (fun q => by cases q) (fun Γ h => ?_)
  refine g_lv [some _, some _, _, _] rfl ?_
  refine g_iconst (v := 0) h dJ7_fill_fb410_0 (by decide) ?_
  refine g_istore_n (lv' := [some _, some _, some _, _]) h dJ7_fill_fb410_1 (by decide) rfl ?_
  refine g_aload_n h dJ7_fill_fb410_2 rfl ?_
  refine g_alen2 h dJ7_fill_fb410_3 0 rfl ?_
  refine g_istore_n (lv' := [some _, some _, some _, some _]) h dJ7_fill_fb410_4 (by decide) rfl ?_
  have loop5 : ∀ (j : Nat) (t : Nat) (_ : t ≤ m), m - t < j → Γ 0 0 5 [some (.ref h0), some (.int v), some (.int (nI t)), some (.int (nI m))] [] ([(h0, .inl (E.2 2, m, .inl (fillI v f t)))]) := by
    intro j
    induction j with
    | zero => intro t ht hj; exact absurd hj (Nat.not_lt_zero _)
    | succ j ih =>
      intro t ht hj
      refine g_iload_n h dJ7_fill_fb410_5 rfl ?_
      refine g_iload_n h dJ7_fill_fb410_6 rfl ?_
      refine g_ic_ge h dJ7_fill_fb410_7 rfl (fun c7 => ?_) (fun c7 => ?_)
      · replace c7 := (nI_leI (by omega) (by omega)).mp c7
        refine g_return h dJ7_fill_fb410_20 rfl ⟨Nat.zero_le _, Nat.zero_le _, rfl, ?_, ?_⟩
        · rfl
        · rw [show t = m by omega]
      · replace c7 := (not_congr (nI_leI (by omega) (by omega))).mp c7
        refine g_aload_n h dJ7_fill_fb410_10 rfl ?_
        refine g_iload_n h dJ7_fill_fb410_11 rfl ?_
        refine g_iload_n h dJ7_fill_fb410_12 rfl ?_
        refine g_sast (ws' := [_]) h dJ7_fill_fb410_13 0 _ rfl rfl (by omega) (by omega) rfl ?_
        refine g_iinc (lv' := [some _, some _, some _, some _]) h dJ7_fill_fb410_14 rfl (nI_inc1 _) (by decide) rfl ?_
        refine g_goto h dJ7_fill_fb410_17 rfl ?_
        refine g_as rfl rfl rfl (show _ = [(h0, .inl (E.2 2, m, .inl (fillI v f (t + 1))))] by rw [← fillI_s] <;> first | rfl | (rw [hv] <;> rfl)) ?_
        exact ih (t + 1) (by omega) (by omega)
  refine g_as rfl rfl rfl (show _ = [(h0, .inl (E.2 2, m, .inl (fillI v f 0)))] by rw [fillI_0]) ?_
  exact loop5 _ 0 (Nat.zero_le _) (Nat.lt_succ_self _)
