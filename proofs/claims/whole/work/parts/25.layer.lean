/-! A second layer for what only constructors and the law need: that the row class of rows of shorts stands, and the script. -/
def gAO (U : State) : Prop := (Cond.arrayOver (.array .short)).before #[] U = true
theorem gAO.moved {u U : State} (h : u.vm.Alike U.vm) (q : gAO u) : gAO U := Jvm.Stand.arrayOver_alikeB h q
theorem gAO.args {U : State} {args : Array Value} (q : gAO U) : (Cond.arrayOver (.array .short)).before args U = true := Jvm.Stand.arrayOver_alikeB (Vm.Alike.refl U.vm) q
def IsG2 (Z : State → (Nat → Prop) → Prop) (Γ : gT) (l : Launch) (R : Room) (cc : ByteArray) (nL : Nat) (own : String) (E : gE) (ret : Option FieldType) (init : Bool) (post : Option Value → Nat → Nat → va_W → Prop) : Prop :=
  ∃ (p : Program) (e : Env) (s : State) (m : MethodId) (args : Array Value) (below : List Frame) (meth : Method) (c : Code) (A : Nat → Prop) (Q : State → Prop),
    gK p s m args c cc nL own E A ∧ Γ = gG p l e R s m args below meth c nL E A Q ∧ (init = true → meth.name = "<init>") ∧
    (∀ (v : Option Value) (u z : Nat) (ws : va_W), post v u z ws → ∀ (pc : Nat) (lv : gLV),
      ((∃ (x : Int32) (ty : FieldType), v = some (.int x) ∧ decode cc pc = .ok (.ireturn, 1) ∧ ret = some ty ∧ narrow ty (.int x) = .int x) ∨ (∃ x : Int64, v = some (.long x) ∧ decode cc pc = .ok (.lreturn, 1) ∧ ret = some .long) ∨ (v = none ∧ decode cc pc = .ok (.return_, 1) ∧ ret = none)) → Γ u z pc lv v.toList ws) ∧ Z s A
theorem IsG2.to {Z : State → (Nat → Prop) → Prop} {Γ : gT} {l : Launch} {R : Room} {cc : ByteArray} {nL : Nat} {own : String} {E : gE} {ret : Option FieldType} {init : Bool} {post : Option Value → Nat → Nat → va_W → Prop} (h : IsG2 Z Γ l R cc nL own E ret init post) : IsG Γ l R cc nL own E ret init post := by
  obtain ⟨p, e, s, m, args, below, meth, c, A, Q, h1, h2, h3, h4, -⟩ := h
  exact ⟨p, e, s, m, args, below, meth, c, A, Q, h1, h2, h3, h4⟩
def gPre2 (E : gE) (wc : va_W) (sz : Nat) (U : State) : Prop := gPre E wc sz U ∧ gAO U
def Ctr2 (l : Launch) (y : MethodName) (cc : ByteArray) (maxL : Nat) (ret : Option FieldType) (rm : Room) (E : gE) (av : List Value) (wc : va_W) (post : Option Value → va_W → Prop) : Prop :=
  ∀ sz : Nat, Met l y (.code y cc maxL ret :: gTT) rm (va_Pc av (gPre2 E wc sz)) (gQc E wc sz post) rm.cells rm.slots (va_A wc sz)
abbrev gZ2 : State → (Nat → Prop) → Prop := fun s _ => gAO s
theorem ctr2_of {l : Launch} {y : MethodName} {cc : ByteArray} {maxL : Nat} {ret : Option FieldType} {rm : Room} {E : gE} {av : List Value} {wc : va_W} {post : Option Value → va_W → Prop} (init : Bool) (hy : plainFor y = true) (hl : (lg_sl av).length ≤ maxL) (hin : init = true → y.name = "<init>")
    (body : ∀ Γ : gT, IsG2 gZ2 Γ l rm cc maxL y.cls E ret init (gEnd rm wc post) → Γ 0 0 0 (gent av maxL) [] wc) : Ctr2 l y cc maxL ret rm E av wc post := by
  intro sz
  refine g_met (cc := cc) (maxL := maxL) (ret := ret) hy rfl ?_
  intro p e s m args below meth c s₁ B hml hv
  obtain ⟨rfl, ⟨hsz, hP, hK, hD0, hN, hO⟩, hAO⟩ := hv
  have hx := B.exec
  have hb := B.bytes
  have hr := B.returns
  have hts := atoms_spec (ws := .code y cc maxL ret :: gTT) B.pre
  have hown : s.vm.findClass y.cls = some m.cls := findClass_of_methodNamed B.named
  have hlocks := B.notSynchronized
  subst hsz
  have hD := hD0.self (sz := s.heap.size)
  have hA : ∀ q : Nat, s.heap.size ≤ q → va_A wc s.heap.size q := fun q h => Or.inr h
  rw [lg_entry_eq]
  refine body (gG p l e rm s m av.toArray below meth c maxL E (va_A wc s.heap.size) (MQ below (gQc E wc s.heap.size post) av.toArray s rm.cells rm.slots (va_A wc s.heap.size))) ⟨p, e, s, m, av.toArray, below, meth, c, va_A wc s.heap.size, _, ⟨hx, hb, hml, hown, fun w hw => hts w (List.mem_cons_of_mem _ hw), hK, hA, hN, hO⟩, rfl, fun h => (name_of_methodNamed B.named B.method).1.trans (hin h), ?_, hAO⟩ s.heap [] _ (gL_entry av hl) hP hD va_S.rf
  intro v u z ws hpost pc lv hd H locs ls hl hP hD hS
  obtain ⟨hu, hz, hf, hp⟩ := hpost
  refine W.widen hu hz ?_
  rcases hd with ⟨x, ty, rfl, hd, hty, hn⟩ | ⟨x, rfl, hd, hty⟩ | ⟨rfl, hd, hty⟩
  · exact W.zret hx hb (hr.trans hty) hn (fun t ht hW => ⟨⟨_, ws, rfl, hp, by rw [ht]; exact hP, hD, hf⟩, hS.F ht⟩) hS.2.2 hd
  · exact W.lret hx hb (hr.trans hty) (fun t ht hW => ⟨⟨_, ws, rfl, hp, by rw [ht]; exact hP, hD, hf⟩, hS.F ht⟩) hS.2.2 hd
  · exact W.vret hx hb (hr.trans hty) (fun t ht hW => ⟨⟨_, ws, rfl, hp, by rw [ht]; exact hP, hD, hf⟩, hS.F ht⟩) hS.2.2 hd
theorem g_blind2 {E : gE} {wc : va_W} {sz : Nat} {av : List Value} : FrameBlind (va_Pc av (gPre2 E wc sz)) := by
  intro a U g mk q
  obtain ⟨q0, ⟨q1, qP, qK, qD, qN, t, qZ, qT⟩, qA⟩ := q
  exact ⟨q0, ⟨q1, qP, va_K.moved (u := U) (U := U.calling g mk a) (Vm.Alike.refl U.vm) qK, qD, gNest.same (u := U) (U := U.calling g mk a) rfl qN, t, va_Z.moved (u := U) (U := U.calling g mk a) (Vm.Alike.refl U.vm) qZ, va_T.moved (u := U) (U := U.calling g mk a) (Vm.Alike.refl U.vm) qT⟩, gAO.moved (u := U) (U := U.calling g mk a) (Vm.Alike.refl U.vm) qA⟩
theorem g_callI2 {Z : State → (Nat → Prop) → Prop} {Γ : gT} {l : Launch} {R : Room} {cc : ByteArray} {nL : Nat} {own : String} {E : gE} {ret : Option FieldType} {init : Bool} {post : Option Value → Nat → Nat → va_W → Prop} {u z pc : Nat} {lv : gLV} {ws : va_W} (h : IsG2 Z Γ l R cc nL own E ret init post) (hz : ∀ s A, Z s A → gAO s)
    {y : MethodName} {cy : ByteArray} {mL n index b : Nat} {rm : Room} {As rest st0 : List Value} {wc : va_W} {postc : Option Value → va_W → Prop} (hC : Ctr2 l y cy mL none rm E (.ref b :: As) wc postc) (hm : gMI y cy mL n) (hlk : Cond.methodLink own index y ∈ gTT) (d : decode cc pc = .ok (.invokespecial index, 3)) (hst : st0 = As.reverse ++ .ref b :: rest) (hn : As.length = n) (hR : rm.frames + 1 ≤ R.frames ∧ 8 + (mL + 11) + rm.locals ≤ R.locals) (hu : u + rm.cells ≤ R.cells ∧ z + rm.slots ≤ R.slots) (hw8 : (rest.map fun v => v.category).sum ≤ 8) (is : List Nat) (his : is.map (fun i => ws[i]?) = wc.map some) (hnd : va_nd is = true)
    (k : ∀ (v : Option Value) (w1 : va_W), postc v w1 → Γ (u + rm.cells) (z + rm.slots) (pc + 3) lv (v.toList ++ rest) (gmerge is w1 ws)) : Γ u z pc lv st0 ws := by
  obtain ⟨p, e, s, m, args, below, meth, c, A, Q, ⟨hx, hb, hml, ho, hts, hK, hA, hN, hO⟩, rfl, hin, hr, hZ⟩ := h
  intro H locs ls hl hP hD hS
  subst hst
  refine g_after (va_runI (g := F0 m pc ls (As.reverse ++ .ref b :: rest)) (n := n) (bytes := cy) (maxL := mL) ⟨hx, hb, hml, ho, hts⟩ (hC H.size) ⟨⟨rfl, rfl, hR.1, hR.2, pay_in hts (g_good hm.1), List.mem_cons_self, hts _ hm.1, hts _ hm.2.2.1, hm.2.2.2.2.1, g_sig hm.2.2.2.2.2, hts _ hlk⟩, hm.2.2.2.1, hts _ hm.2.1⟩ ⟨g_blind2, fun U hU hW => ?_⟩ rfl hn hl.1.1 rfl (lv_room hw8) d hu) hl hP hD hS hA is his (fun v w1 hp => k v w1 hp)
  obtain ⟨q0, q1⟩ := g_pre hK hN hO hP hD hS hA is his hnd (av := .ref b :: As) U hU hW
  exact ⟨q0, q1, (hz s A hZ).moved hW.alike⟩
theorem gmerge_last {c0 x y : Nat × va_E} {L w : va_W} {p : Nat} (hp : p = L.length + 1) : gmerge [p] (x :: w) (c0 :: (L ++ [y])) = c0 :: (L ++ (x :: w)) := by
  subst hp
  show (c0 :: (L ++ [y])).set (L.length + 1) x ++ w = _
  simp
theorem arrV_cg {c : ClassId} {N : Nat} {f g : Nat → Value} (h : ∀ j, j < N → f j = g j) : arrV c N f = arrV c N g := by
  have e : (fun j : Fin N => f j.val) = fun j : Fin N => g j.val := funext fun j => h j.1 j.2
  unfold arrV
  rw [e]
theorem vr_outer (c : ClassId) (N h0 : Nat) : ∀ i : Nat, Jvm.Free.Multi.outerC c N h0 i = arrV c N (fun j => va_rf (if j < i then some (h0 + 1 + j) else none))
  | 0 => by
    show ({ cls := c, slots := Array.replicate N .null, vm := .none } : Cell) = _
    rw [arrV_new]
    refine congrArg (arrV c N) (funext fun j => ?_)
    simp [va_rf]
  | i + 1 => by
    show (Jvm.Free.Multi.outerC c N h0 i).setSlot i (.ref (h0 + 1 + i)) = _
    rw [vr_outer c N h0 i, arrV_store]
    refine congrArg (arrV c N) (funext fun j => ?_)
    by_cases e : j = i
    · subst e
      simp [updV, va_rf]
    · by_cases h : j < i
      · simp [updV, e, h, Nat.lt_succ_of_lt h]
      · simp [updV, e, h, show ¬ j < i + 1 by omega]
/-- three rows of 36 shorts -/
theorem g_mna {Γ : gT} {l : Launch} {R : Room} {cc : ByteArray} {nL : Nat} {own : String} {E : gE} {ret : Option FieldType} {init : Bool} {post : Option Value → Nat → Nat → va_W → Prop} {u z pc : Nat} {lv : gLV} {st : List Value} {ws : va_W} (h : IsG2 gZ2 Γ l R cc nL own E ret init post) {index : Nat} (d : decode cc pc = .ok (.multianewarray index 2, 4)) (hw : Cond.classLink own index ("[" ++ (FieldType.array .short).toString) ∈ gTT) (hw2 : Cond.arrayClass .short ∈ gTT) (h1 : u + 4 ≤ R.cells) (h2 : z + 111 ≤ R.slots)
    (k : ∀ q r0 r1 r2 : Nat, Γ (u + 4) (z + 111) (pc + 4) lv (.ref q :: st) (ws ++ [(q, .inl (E.2 4, 3, .inr (.inr (.inr (.inr (shO r0 r1 r2)))))), (r0, .inl (E.2 2, 36, .inl (fun _ => 0))), (r1, .inl (E.2 2, 36, .inl (fun _ => 0))), (r2, .inl (E.2 2, 36, .inl (fun _ => 0)))])) : Γ u z pc lv (.int 36 :: .int 3 :: st) ws := by
  obtain ⟨p, e, s, m, args, below, meth, c, A, Q, ⟨hx, hb, hml, ho, hts, hK, hA, hN, hO⟩, rfl, hin, hr, hZ⟩ := h
  intro H locs ls hl hP hD hS T hT Xs
  have e3 : (3 : Int32).toNatClampNeg = 3 := rfl
  have e36 : (36 : Int32).toNatClampNeg = 36 := rfl
  obtain ⟨vm₁, cA, comp, -, fA, fC, -, -, X', step⟩ := Xs.multianewarray2F hx ho (hts _ hw) hZ.args (hts _ hw2) (g := F0 m pc ls (.int 36 :: .int 3 :: st)) rfl (by rw [hb]; exact d) rfl (by decide) (by decide) (by decide) (by decide) (by decide) rfl rfl (by rw [e3]; omega) (by rw [e3, e36]; omega)
  rw [e3, e36] at X' step
  have eA : cA = E.2 4 := Option.some.inj (fA.symm.trans (hK.2 4 (E.2 4, .array .short) rfl).2)
  have eC : comp = E.2 2 := Option.some.inj (fC.symm.trans (hK.2 2 (E.2 2, .short) rfl).2)
  subst eA
  subst eC
  generalize hF : Jvm.Free.Multi.fill (T.setVm vm₁) (E.2 4) (E.2 2) 3 36 (defaultValue .short) 3 = F at X' step
  have hTh : (T.setVm vm₁).heap = H := hT
  obtain ⟨f1, f2, -, -⟩ := Jvm.Free.Multi.fill_facts (T.setVm vm₁) (E.2 4) (E.2 2) 3 36 (defaultValue .short) 3
  rw [hF, hTh] at f1 f2
  have hold : ∀ x : Nat, x < H.size → F.heap[x]? = H[x]? := fun x hx => by
    have := Jvm.Free.Multi.fill_old (T.setVm vm₁) (E.2 4) (E.2 2) 3 36 (defaultValue .short) (a := x) (by rw [hTh]; exact hx) 3
    rw [hF, hTh] at this
    exact this
  have hrow : ∀ j : Nat, j < 3 → F.heap[H.size + 1 + j]? = some (vp_cell (E.2 2) (36, .inl (fun _ => 0))) := fun j hj => by
    have := Jvm.Free.Multi.fill_inner (T.setVm vm₁) (E.2 4) (E.2 2) 3 36 (defaultValue .short) 3 j hj
    rw [hF, hTh] at this
    rw [this]
    exact congrArg some (arrV_new (E.2 2) 36 (.int 0))
  have hout : Jvm.Free.Multi.outerC (E.2 4) 3 H.size 3 = vp_cell (E.2 4) (3, .inr (.inr (.inr (.inr (shO (H.size + 1) (H.size + 2) (H.size + 3)))))) := by
    rw [vp_cell_q, vr_outer]
    refine arrV_cg (fun j hj => ?_)
    have : j = 0 ∨ j = 1 ∨ j = 2 := by omega
    rcases this with rfl | rfl | rfl <;> rfl
  rw [hout] at f2
  have hP0 : va_P E.1 vwCl ws F.heap := fun k9 x hx => (hP k9 x hx).kept (hold x.1 (hP k9 x hx).lt)
  have hP' : va_P E.1 vwCl (ws ++ [(H.size, .inl (E.2 4, 3, .inr (.inr (.inr (.inr (shO (H.size + 1) (H.size + 2) (H.size + 3))))))), (H.size + 1, .inl (E.2 2, 36, .inl (fun _ => 0))), (H.size + 2, .inl (E.2 2, 36, .inl (fun _ => 0))), (H.size + 3, .inl (E.2 2, 36, .inl (fun _ => 0)))]) F.heap := hP0.app (fun k9 x hx => by
    match k9, hx with
    | 0, hx => cases hx; exact f2
    | 1, hx => cases hx; exact hrow 0 (by decide)
    | 2, hx => cases hx; exact hrow 1 (by decide)
    | 3, hx => cases hx; exact hrow 2 (by decide)
    | k + 4, hx => simp at hx)
  have hD' : va_D A (ws ++ [(H.size, .inl (E.2 4, 3, .inr (.inr (.inr (.inr (shO (H.size + 1) (H.size + 2) (H.size + 3))))))), (H.size + 1, .inl (E.2 2, 36, .inl (fun _ => 0))), (H.size + 2, .inl (E.2 2, 36, .inl (fun _ => 0))), (H.size + 3, .inl (E.2 2, 36, .inl (fun _ => 0)))]) := by
    have hn : ∀ (k9 : Nat) (x : Nat × va_E), ([(H.size, .inl (E.2 4, 3, .inr (.inr (.inr (.inr (shO (H.size + 1) (H.size + 2) (H.size + 3))))))), (H.size + 1, .inl (E.2 2, 36, .inl (fun _ => 0))), (H.size + 2, .inl (E.2 2, 36, .inl (fun _ => 0))), (H.size + 3, .inl (E.2 2, 36, .inl (fun _ => 0)))] : va_W)[k9]? = some x → x.1 = H.size + k9 := fun k9 x hx => by
      match k9, hx with
      | 0, hx => cases hx; rfl
      | 1, hx => cases hx; rfl
      | 2, hx => cases hx; rfl
      | 3, hx => cases hx; rfl
      | k + 4, hx => simp at hx
    refine hD.app ⟨fun i j x y hi hj hxy => ?_, fun k9 x hx => ?_⟩ (fun i j x y hi hj hxy => ?_)
    · have a1 := hn i x hi
      have a2 := hn j y hj
      omega
    · rw [hn k9 x hx]
      exact hA _ (Nat.le_trans hS.1 (Nat.le_add_right _ _))
    · have a1 := (hP i x hi).lt
      have a2 := hn j y hj
      omega
  obtain ⟨t2, a1, b1⟩ := k H.size (H.size + 1) (H.size + 2) (H.size + 3) F.heap locs ls hl hP' hD' ⟨Nat.le_trans hS.1 (by rw [f1]; omega), fun q h1 h2 => by rw [hold q (Nat.lt_of_lt_of_le h1 hS.1)]; exact hS.2.1 q h1 h2, hS.2.2⟩ F rfl X'
  refine ⟨t2, step t2 ?_, b1⟩
  rw [hT]
  exact a1
theorem g_uz {Γ : gT} {u z pc u' z' : Nat} {lv : gLV} {st : List Value} {ws : va_W} (hu : u = u') (hz : z = z') (k : Γ u' z' pc lv st ws) : Γ u z pc lv st ws := by subst hu; subst hz; exact k
/-! the law's own script -/
def gZL (b L : Nat) (xs : Nat → Int32) : State → (Nat → Prop) → Prop := fun s A => gAO s ∧ va_X b L xs s s.heap ∧ b < s.heap.size ∧ ¬ A b
theorem g_sld {b L : Nat} {xs : Nat → Int32} {Γ : gT} {l : Launch} {R : Room} {cc : ByteArray} {nL : Nat} {own : String} {E : gE} {ret : Option FieldType} {init : Bool} {post : Option Value → Nat → Nat → va_W → Prop} {u z pc : Nat} {lv : gLV} {st : List Value} {ws : va_W} (h : IsG2 (gZL b L xs) Γ l R cc nL own E ret init post) {i : Int32} (d : decode cc pc = .ok (.iaload, 1)) (k0 : Nat) (hi : i = nI k0) (hlt : k0 < L) (hL : L < 2 ^ 31) (k : Γ u z (pc + 1) lv (.int (xs k0) :: st) ws) : Γ u z pc lv (.int i :: .ref b :: st) ws := by
  obtain ⟨p, e, s, m, args, below, meth, c, A, Q, ⟨hx, hb, hml, ho, hts, hK, hA, hN, hO⟩, rfl, hin, hr, -, hX, hbl, hbA⟩ := h
  intro H locs ls hl hP hD hS
  subst hi
  refine va_sld hx hb hX hbl hbA hS (vp_in_nI hlt hL) d ?_
  rw [nI_clamp (Nat.lt_trans hlt hL)]
  exact k H locs ls hl hP hD hS
theorem g_slen {b L : Nat} {xs : Nat → Int32} {Γ : gT} {l : Launch} {R : Room} {cc : ByteArray} {nL : Nat} {own : String} {E : gE} {ret : Option FieldType} {init : Bool} {post : Option Value → Nat → Nat → va_W → Prop} {u z pc : Nat} {lv : gLV} {st : List Value} {ws : va_W} (h : IsG2 (gZL b L xs) Γ l R cc nL own E ret init post) (d : decode cc pc = .ok (.arraylength, 1)) (k : Γ u z (pc + 1) lv (.int (nI L) :: st) ws) : Γ u z pc lv (.ref b :: st) ws := by
  obtain ⟨p, e, s, m, args, below, meth, c, A, Q, ⟨hx, hb, hml, ho, hts, hK, hA, hN, hO⟩, rfl, hin, hr, -, hX, hbl, hbA⟩ := h
  intro H locs ls hl hP hD hS
  exact va_slen hx hb hX hbl hbA hS d (k H locs ls hl hP hD hS)

