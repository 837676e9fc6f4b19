/-! THE CLAIM OUT OF ONE WALK OF THE LAW'S BODY. Your part is whole_start (and what it stands on); all else here is the same for every law, but numbers. -/
def R_law : String := "WatchBenchLaw"
def lw_P (b : Addr) (xs : List Int32) (args : Array Value) (s : State) : Prop := args = #[.ref b] ∧ s.IntsAt b xs ∧ xs.length ≤ 3584 ∧ (Jvm.Cond.and given_1 narrow_1).before args s = true
def lw_Q (_ : Array Value) (s : State) (o : Outcome) (t : State) : Prop := o = .returned (some (.int 1)) ∧ Framed s o t [] 600000 7302250
def lw_Z (below : List Frame) (a : Array Value) (s : State) : State → Prop := fun t => ∃ o, t.status = .running ∧ Ended t below o ∧ lw_Q a s o t
/-- the law's own end, with 1 on the stack, nothing written that was there before, its room as the claim has it -/
theorem lw_ret {p : Program} {l : Launch} {e : Env} {s : State} {m : MethodId} {below : List Frame} {meth : Method} {c : Code} {b : Nat} (hx : p.tables.exec = Jvm.exec) (hb : c.code = code) (hr : meth.sig.returnType = ret) (hlocks : meth.locks = false) {pc : Nat} {H : Heap} {ls : Array Slot} (hdg : decode code pc = .ok (.ireturn, 1)) : W p l e room_1 s m #[Value.ref b] below meth c H [] 600000 7302250 (lw_Z below #[Value.ref b] s) (F0 m pc ls [.int 1]) := by
  intro T hT X
  obtain ⟨fs, hret, hrun, hended, hW, hframe⟩ := X.leave (v := some (.int 1)) (hlocks := hlocks) (fun h => by rw [hr] at h; cases h)
  have hmeth' : T.vm.method? m = some meth := X.method'
  refine ⟨T.setFrames fs, ?_, .returned (some (.int 1)), hrun, hended, rfl, ⟨_, rfl⟩, hW, hframe⟩
  jvm_step X.here [X.here.top, hx, hb, hdg, hmeth', hr, ret, narrow_b1]
  (try refine ⟨rfl, ?_⟩); (try refine ⟨rfl, ?_⟩)
  first | (intro acts; rw [hret _ acts rfl rfl rfl]) | rw [hret _ _ rfl rfl rfl]
  exact Steps.refl _
/-- what holds at the law's entry: the machine, the code, the tables' words (any of lw_tbl by 'hts w (by decide +kernel)'), the script of L ints xs at the cell b, what the Statement gives of the start (any of its parts by flat_of_before) -/
def lw_At (p : Program) (s : State) (m : MethodId) (meth : Method) (c : Code) (b L : Nat) (xs : Nat → Int32) : Prop :=
  p.tables.exec = Jvm.exec ∧ c.code = code ∧ meth.sig.returnType = ret ∧ c.maxLocals = 4 ∧ s.vm.findClass R_law = some m.cls ∧ (∀ w ∈ lw_tbl, w.before #[Value.ref b] s = true) ∧ va_X b L xs s s.heap ∧ b < s.heap.size ∧ meth.locks = false ∧ (Jvm.Cond.and given_1 narrow_1).before #[Value.ref b] s = true

theorem gm0 {w1 : va_W} {y : Nat × va_E} (h : w1 ≠ []) : gmerge [0] w1 [y] = w1 := by
  cases w1 with
  | nil => exact absurd rfl h
  | cons x w => rfl
theorem arr_of {args : Array Value} {s : State} {ty : FieldType} (h : (Cond.arrayClass ty).before args s = true) : ∃ cA : ClassId, ArrOfT s cA ty ∧ s.vm.findClass ("[" ++ ty.toString) = some cA := by
  obtain ⟨c, k, comp, h1, h2, h3⟩ := Cond.arrayClass_spec h
  exact ⟨c, fun n z => ⟨(fun x q => by cases q), k, h2, comp, h3⟩, h1⟩
set_option maxHeartbeats 8000000 in
set_option maxRecDepth 100000 in
theorem start_known {args : Array Value} {s : State} (hts : ∀ w ∈ lw_tbl, w.before args s = true) : ∃ E : gE, va_K E.1 vwCl (gty E) s := by
  have hT : ∀ w ∈ gTT, w.before args s = true := fun w hw => hts w (List.mem_filter.mp hw).1
  obtain ⟨c0, i0, k0⟩ := u_known (C := RX0) (T := TX0) (N := 2) (n := 2) hT gin0 (hT _ (gtm (by decide +kernel)))
  obtain ⟨c1, i1, k1⟩ := u_known (C := RX1) (T := TX1) (N := 6) (n := 6) hT gin1 (hT _ (gtm (by decide +kernel)))
  obtain ⟨c2, i2, k2⟩ := u_known (C := RX3) (T := TX3) (N := 3) (n := 3) hT gin3 (hT _ (gtm (by decide +kernel)))
  obtain ⟨c3, i3, k3⟩ := u_known (C := RX4) (T := TX4) (N := 5) (n := 5) hT gin4 (hT _ (gtm (by decide +kernel)))
  obtain ⟨c4, i4, k4⟩ := u_known (C := RX5) (T := TX5) (N := 2) (n := 2) hT gin5 (hT _ (gtm (by decide +kernel)))
  obtain ⟨c5, i5, k5⟩ := u_known (C := RX6) (T := TX6) (N := 6) (n := 6) hT gin6 (hT _ (gtm (by decide +kernel)))
  obtain ⟨c6, i6, k6⟩ := u_known (C := RX7) (T := TX7) (N := 3) (n := 3) hT gin7 (hT _ (gtm (by decide +kernel)))
  obtain ⟨c7, i7, k7⟩ := u_known (C := RX8) (T := TX8) (N := 4) (n := 4) hT gin8 (hT _ (gtm (by decide +kernel)))
  obtain ⟨c8, i8, k8⟩ := u_known (C := RX9) (T := TX9) (N := 1) (n := 1) hT gin9 (hT _ (gtm (by decide +kernel)))
  obtain ⟨c9, i9, k9⟩ := u_known (C := RX10) (T := TX10) (N := 12) (n := 12) hT gin10 (hT _ (gtm (by decide +kernel)))
  obtain ⟨c10, i10, k10⟩ := u_known (C := RX11) (T := TX11) (N := 27) (n := 27) hT gin11 (hT _ (gtm (by decide +kernel)))
  obtain ⟨aI, xI, yI⟩ := arr_of (hT _ gar_int)
  obtain ⟨aJ, xJ, yJ⟩ := arr_of (hT _ gar_long)
  obtain ⟨aS, xS, yS⟩ := arr_of (hT _ gar_short)
  obtain ⟨aZ, xZ, yZ⟩ := arr_of (hT _ gar_boolean)
  obtain ⟨comp, aQ, kQ, q1, q2, q3, q4, q5⟩ := Jvm.Stand.arrayOver_specB (hts (Cond.arrayOver (.array .short)) (gn1 115 rfl))
  refine ⟨((fun k => if k = 0 then c0 else if k = 1 then c1 else if k = 2 then c2 else if k = 3 then c3 else if k = 4 then c4 else if k = 5 then c5 else if k = 6 then c6 else if k = 7 then c7 else if k = 8 then c8 else if k = 9 then c9 else c10, fun k => if k = 0 then i0 else if k = 1 then i1 else if k = 2 then i2 else if k = 3 then i3 else if k = 4 then i4 else if k = 5 then i5 else if k = 6 then i6 else if k = 7 then i7 else if k = 8 then i8 else if k = 9 then i9 else i10), fun k => if k = 0 then aI else if k = 1 then aJ else if k = 2 then aS else if k = 3 then aZ else aQ), fun k q hq => ?_, fun k q hq => ?_⟩
  · match k, hq with
    | 0, hq => cases hq; exact k0
    | 1, hq => cases hq; exact k1
    | 2, hq => cases hq; exact k2
    | 3, hq => cases hq; exact k3
    | 4, hq => cases hq; exact k4
    | 5, hq => cases hq; exact k5
    | 6, hq => cases hq; exact k6
    | 7, hq => cases hq; exact k7
    | 8, hq => cases hq; exact k8
    | 9, hq => cases hq; exact k9
    | 10, hq => cases hq; exact k10
    | k + 11, hq => simp [vwCl] at hq
  · match k, hq with
    | 0, hq => cases hq; exact ⟨xI, yI⟩
    | 1, hq => cases hq; exact ⟨xJ, yJ⟩
    | 2, hq => cases hq; exact ⟨xS, yS⟩
    | 3, hq => cases hq; exact ⟨xZ, yZ⟩
    | 4, hq => cases hq; exact ⟨fun n z => ⟨(fun x q => by cases q), kQ, q3, comp, q4⟩, q5⟩
    | k + 5, hq => simp at hq
theorem start_over {args : Array Value} {s : State} (hts : ∀ w ∈ lw_tbl, w.before args s = true) (hgv : (Jvm.Cond.and given_1 narrow_1).before args s = true) {A : Nat → Prop} (hA : ∀ a : Nat, a < s.heap.size → ¬ A a) : gOv A s s.heap := by
  have hs := flat_of_before _ hgv
  have hT : ∀ w ∈ gTT, w.before args s = true := fun w hw => hts w (List.mem_filter.mp hw).1
  have harr : (Cond.arrayOf (Term.static "WatchBench$Causes" "OVER" "[I") .int).before args s = true := hs _ (by decide +kernel)
  have hlen := va_eqt (hs (Cond.eq (Term.length (Term.static "WatchBench$Causes" "OVER" "[I")) (Term.int 6)) (by decide +kernel))
  have e0 := va_eqt (hs (Cond.eq (Term.elem (Term.static "WatchBench$Causes" "OVER" "[I") (Term.int 0)) (Term.int 0)) (by decide +kernel))
  have e1 := va_eqt (hs (Cond.eq (Term.elem (Term.static "WatchBench$Causes" "OVER" "[I") (Term.int 1)) (Term.int 0)) (by decide +kernel))
  have e2 := va_eqt (hs (Cond.eq (Term.elem (Term.static "WatchBench$Causes" "OVER" "[I") (Term.int 2)) (Term.int 0)) (by decide +kernel))
  have e3 := va_eqt (hs (Cond.eq (Term.elem (Term.static "WatchBench$Causes" "OVER" "[I") (Term.int 3)) (Term.int 2)) (by decide +kernel))
  have e4 := va_eqt (hs (Cond.eq (Term.elem (Term.static "WatchBench$Causes" "OVER" "[I") (Term.int 4)) (Term.int 0)) (by decide +kernel))
  have e5 := va_eqt (hs (Cond.eq (Term.elem (Term.static "WatchBench$Causes" "OVER" "[I") (Term.int 5)) (Term.int 1)) (by decide +kernel))
  obtain ⟨t, ht, hT6⟩ := va_Tof (N := 6) (f := gOf) (A := A) (by decide) harr hlen (fun j hj => by
    have : j = 0 ∨ j = 1 ∨ j = 2 ∨ j = 3 ∨ j = 4 ∨ j = 5 := by omega
    rcases this with rfl | rfl | rfl | rfl | rfl | rfl
    · exact e0
    · exact e1
    · exact e2
    · exact e3
    · exact e4
    · exact e5) hA
  exact ⟨t, va_Zref (hts (Cond.laysStatic "WatchBench$Causes" "OVER" "[I") (by decide +kernel)) (hts (Cond.initialized "WatchBench$Causes") (by decide +kernel)) ht hA, hT6⟩
theorem start_nest {args : Array Value} {s : State} (hts : ∀ w ∈ lw_tbl, w.before args s = true) : gNest s := fun w hw hn => by
  cases w <;> first | exact va_Nw.of rfl (hts _ hw) | cases hn
set_option maxHeartbeats 8000000 in
set_option maxRecDepth 100000 in
theorem start_open {fu : Nat} (H_cause : St_cause fu) (H_shows : St_shows fu) (H_as : St_as fu) (H_read : St_read fu) (H_drop : St_drop fu) (H_reading : St_reading fu) (H_sheet : St_sheet fu) (H_put : St_put fu) (H_lay : St_lay fu) (H_find : St_find fu) (H_loose : St_loose fu) (H_size : St_size fu) (H_left : St_left fu) (H_sum : St_sum fu) (H_foretold : St_foretold fu) (H_model : St_model fu) (H_few : St_few fu) (H_doubt : St_doubt fu) (H_spare : St_spare fu) (H_mend : St_mend fu) (H_span : St_span fu) (H_behind : St_behind fu) (H_worst : St_worst fu) (H_best : St_best fu) (H_paper : St_paper fu) (H_day : St_day fu) (H_anew : St_anew fu) (H_mean : St_mean fu) (H_change : St_change fu) (H_tell : St_tell fu) (H_check : St_check fu) (H_keep : St_keep fu) (H_back : St_back fu) (H_count : St_count fu) (H_found : St_found fu) {r0 : gS} (hi0 : fX11_init fu z0X11 = some r0) (hr0 : rR z0X10 r0 0) {p : Program} {e : Env} {s : State} {m : MethodId} {below : List Frame} {meth : Method} {c : Code} (l : Launch) {b L : Nat} {xs : Nat → Int32} (hL : L ≤ 3584) (C0 : lw_At p s m meth c b L xs) : W p l e room_1 s m #[Value.ref b] below meth c s.heap [] 0 0 (lw_Z below #[Value.ref b] s) (entryFrame m ([Value.ref b] : List Value).toArray 4) := by
  obtain ⟨hx, hb, hr, hml, hown, hts, hX, hbl, hlocks, hgv⟩ := C0
  have hT : ∀ w ∈ gTT, w.before #[Value.ref b] s = true := fun w hw => hts w (List.mem_filter.mp hw).1
  obtain ⟨E, hK⟩ := start_known hts
  have hAO : gAO s := Jvm.Stand.arrayOver_alikeB (Vm.Alike.refl s.vm) (hts (Cond.arrayOver (.array .short)) (gn1 115 rfl))
  have hO : gOv (fun q : Nat => s.heap.size ≤ q) s s.heap := start_over hts hgv (fun a ha q => absurd ha (Nat.not_lt.mpr q))
  have hP : va_P E.1 vwCl [] s.heap := fun k q h => by simp at h
  have hD : va_D (fun q : Nat => s.heap.size ≤ q) [] := ⟨fun i j p q h => by simp at h, fun k q h => by simp at h⟩
  have key : ∀ Γ : gT, IsG2 (gZL b L xs) Γ l room_1 cL_law 4 RL E ret false (fun v u z _ => v = some (.int 1) ∧ u ≤ 600000 ∧ z ≤ 7302250) → Γ 0 0 0 (gent [.ref b] 4) [] [] := by
    intro Γ h
    refine g_lv [some _, _, _, _] rfl ?_
    refine g_new (ci := 9) (fs := [.null, .null, .int 0, .null, .null, .null, .int 0, .null, .null, .null, .int 0, .null]) (C := RX10) (T := TX10) (N := 12) h.to tyX10 rfl gin10 tyX10_ok (gtm (by decide +kernel)) (gtm (by decide +kernel)) (gtm (by decide +kernel)) dL_law_0 dvX10 (Nat.le_of_ble_eq_true rfl) (Nat.le_of_ble_eq_true rfl) (fun q0 => ?_)
    refine g_as rfl rfl rfl (show _ = [(q0, .inr (9, [.null, .null, .int 0, .null, .null, .null, .int 0, .null, .null, .null, .int 0, .null]))] from rfl) ?_
    refine g_dup h.to dL_law_3 rfl ?_
    refine g_callI2 h (fun _ _ q => q.1) kX10_init mX10_init lkL_9 dL_law_4 rfl rfl ⟨Nat.le_of_ble_eq_true rfl, Nat.le_of_ble_eq_true rfl⟩ ⟨Nat.le_of_ble_eq_true rfl, Nat.le_of_ble_eq_true rfl⟩ (Nat.le_of_ble_eq_true rfl) [0] rfl rfl (fun v w1 hp => ?_)
    obtain ⟨rfl, a, rfl, rfl⟩ := hp
    refine g_as rfl rfl rfl (gm0 (List.cons_ne_nil _ _)) ?_
    refine g_astore_n (lv' := [some _, some _, _, _]) h.to dL_law_7 (by decide) rfl ?_
    refine g_new (ci := 10) (fs := [.null, .null, .int 0, .null, .null, .int 0, .null, .null, .int 0, .null, .null, .long 0, .int 0, .int 0, .int 0, .int 0, .null, .null, .long 0, .long 0, .int 0, .null, .null, .null, .null, .long 0, .null]) (C := RX11) (T := TX11) (N := 27) h.to tyX11 rfl gin11 tyX11_ok (gtm (by decide +kernel)) (gtm (by decide +kernel)) (gtm (by decide +kernel)) dL_law_8 dvX11 (Nat.le_of_ble_eq_true rfl) (Nat.le_of_ble_eq_true rfl) (fun q8 => ?_)
    refine g_dup h.to dL_law_11 rfl ?_
    refine g_callI h.to (kX11_init hi0) mX11_init lkL_12 dL_law_12 rfl rfl ⟨Nat.le_of_ble_eq_true rfl, Nat.le_of_ble_eq_true rfl⟩ ⟨Nat.le_of_ble_eq_true rfl, Nat.le_of_ble_eq_true rfl⟩ (Nat.le_of_ble_eq_true rfl) [55] rfl rfl (fun v w1 hp => ?_)
    obtain ⟨rfl, a2, rfl, rfl⟩ := hp
    refine g_as rfl rfl rfl (show _ = wWB E a z0X10 ++ wRf E a2 r0 from gmerge_lst rfl) ?_
    refine g_astore_n (lv' := [some _, some _, some _, _]) h.to dL_law_15 (by decide) rfl ?_
    refine g_iconst (v := 0) h.to dL_law_16 (by decide) ?_
    refine g_istore_n (lv' := [some _, some _, some _, some _]) h.to dL_law_17 (by decide) rfl ?_
    refine g_uz (u' := 71) (z' := 1882) rfl rfl ?_
    refine g_as rfl (show _ = [some (.ref b), some (.ref (a 0)), some (.ref (a2 0)), some (.int (nI 0))] from rfl) rfl rfl ?_
    exact law_loop H_cause H_shows H_as H_read H_drop H_reading H_sheet H_put H_lay H_find H_loose H_size H_left H_sum H_foretold H_model H_few H_doubt H_spare H_mend H_span H_behind H_worst H_best H_paper H_day H_anew H_mean H_change H_tell H_check H_keep H_back H_count H_found h hL (fun lv ws => g_ireturn h.to dL_law_1341 rfl rfl ⟨rfl, Nat.le_of_ble_eq_true rfl, Nat.le_of_ble_eq_true rfl⟩) (L + 8) 0 0 z0X10 r0 hr0 rfl (by omega) (by omega)
  rw [lg_entry_eq]
  refine key (gG p l e room_1 s m #[Value.ref b] below meth c 4 E (fun q : Nat => s.heap.size ≤ q) (lw_Z below #[Value.ref b] s)) ⟨p, e, s, m, #[Value.ref b], below, meth, c, (fun q : Nat => s.heap.size ≤ q), _, ⟨hx, hb, hml, hown, hT, hK, fun _ h => h, start_nest hts, hO⟩, rfl, (fun q => by cases q), ?_, hAO, hX, hbl, Nat.not_le.mpr hbl⟩ s.heap [] _ (gL_entry [.ref b] (Nat.le_of_ble_eq_true rfl)) hP hD va_S.rf
  intro v u z ws hpost pc lv hd H locs ls hl hP hD hS
  obtain ⟨rfl, hu, hz⟩ := hpost
  refine va_forget (fun q hq => hS.2.2 q hq) ?_
  refine W.widen hu hz ?_
  rcases hd with ⟨x, ty, hx1, hd, hty, hn⟩ | ⟨x, hx1, hd, hty⟩ | ⟨hx1, hd, hty⟩
  · exact lw_ret hx hb hr hlocks hd
  · cases hx1
  · cases hx1
