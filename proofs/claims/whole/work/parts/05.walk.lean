/-! The walk's own layer: a machine at a point of a method's code, with named locals, a stack and a world of cells, as one predicate; a row an instruction. -/
/-- the locals by their places -/
abbrev gLV : Type := List (Option Value)
def gL (ls : Array Slot) (nL : Nat) (lv : gLV) : Prop := lv_has ls nL [] ∧ ∀ (i : Nat) (v : Value), lv[i]? = some (some v) → ls[i]? = some (.val v)
def gkill (o : Option Value) : Option Value := match o with
  | some v => if v.category = 2 then none else some v
  | none => none
def gset1 (lv : gLV) (i : Nat) (v : Value) : gLV := match i with
  | 0 => lv.set 0 (some v)
  | j + 1 => (lv.modify j gkill).set (j + 1) (some v)
def gset2 (lv : gLV) (i : Nat) (v : Value) : gLV := (gset1 lv i v).set (i + 1) none
theorem gkill_some {o : Option Value} {w : Value} (h : gkill o = some w) : o = some w ∧ ¬ w.category = 2 := by
  cases o with
  | none => cases h
  | some v =>
    unfold gkill at h
    by_cases hc : v.category = 2
    · simp [hc] at h
    · simp [hc] at h
      exact ⟨by rw [h], by rw [← h]; exact hc⟩
theorem gset1_get {lv : gLV} {i j : Nat} {v w : Value} (h : (gset1 lv i v)[j]? = some (some w)) : (j = i ∧ w = v) ∨ (j ≠ i ∧ lv[j]? = some (some w) ∧ ¬ (j + 1 = i ∧ w.category = 2)) := by
  by_cases hj : j = i
  · subst hj
    left
    refine ⟨rfl, ?_⟩
    cases j with
    | zero =>
      rw [show gset1 lv 0 v = lv.set 0 (some v) from rfl, List.getElem?_set] at h
      simp at h
      exact h.2.symm
    | succ k =>
      rw [show gset1 lv (k + 1) v = (lv.modify k gkill).set (k + 1) (some v) from rfl, List.getElem?_set] at h
      simp at h
      exact h.2.symm
  · right
    refine ⟨hj, ?_⟩
    cases i with
    | zero =>
      rw [show gset1 lv 0 v = lv.set 0 (some v) from rfl, List.getElem?_set_ne (Ne.symm hj)] at h
      exact ⟨h, fun q => absurd q.1 (by omega)⟩
    | succ k =>
      rw [show gset1 lv (k + 1) v = (lv.modify k gkill).set (k + 1) (some v) from rfl, List.getElem?_set_ne (Ne.symm hj), List.getElem?_modify] at h
      by_cases hk : k = j
      · subst hk
        cases hl : lv[k]? with
        | none => rw [hl] at h; simp at h
        | some o =>
          rw [hl] at h
          simp at h
          obtain ⟨h1, h2⟩ := gkill_some h
          exact ⟨by rw [h1], fun q => h2 q.2⟩
      · cases hl : lv[j]? with
        | none => rw [hl] at h; simp at h
        | some o =>
          rw [hl] at h
          simp [hk] at h
          exact ⟨by rw [h], fun q => hk (by omega)⟩
theorem gset2_get {lv : gLV} {i j : Nat} {v w : Value} (h : (gset2 lv i v)[j]? = some (some w)) : j ≠ i + 1 ∧ ((j = i ∧ w = v) ∨ (j ≠ i ∧ lv[j]? = some (some w) ∧ ¬ (j + 1 = i ∧ w.category = 2))) := by
  unfold gset2 at h
  by_cases hj : j = i + 1
  · subst hj
    rw [List.getElem?_set] at h
    simp at h
  · rw [List.getElem?_set_ne (Ne.symm hj)] at h
    exact ⟨hj, gset1_get h⟩
/-- all that is known of the locals, as the kit lists it -/
theorem gL_list {ls : Array Slot} {nL : Nat} {lv : gLV} (h : gL ls nL lv) (l : List (Nat × Value)) (hl : ∀ q ∈ l, lv[q.1]? = some (some q.2)) : lv_has ls nL l := ⟨h.1.1, h.1.2.1, fun q hq => h.2 q.1 q.2 (hl q hq)⟩
def gpairs (lv : gLV) (k : Nat) : List (Nat × Value) := match lv with
  | [] => []
  | none :: t => gpairs t (k + 1)
  | some v :: t => (k, v) :: gpairs t (k + 1)
theorem gpairs_in (lv : gLV) : ∀ (k : Nat) (q : Nat × Value), q ∈ gpairs lv k → k ≤ q.1 ∧ lv[q.1 - k]? = some (some q.2) := by
  induction lv with
  | nil => intro k q h; cases h
  | cons a t ih =>
    intro k q h
    cases a with
    | none =>
      obtain ⟨h1, h2⟩ := ih (k + 1) q h
      refine ⟨by omega, ?_⟩
      rw [show q.1 - k = (q.1 - (k + 1)) + 1 by omega, List.getElem?_cons_succ]
      exact h2
    | some v =>
      rcases List.mem_cons.mp h with h | h
      · subst h
        simp
      · obtain ⟨h1, h2⟩ := ih (k + 1) q h
        refine ⟨by omega, ?_⟩
        rw [show q.1 - k = (q.1 - (k + 1)) + 1 by omega, List.getElem?_cons_succ]
        exact h2
theorem gpairs_of (lv : gLV) : ∀ (k i : Nat) (v : Value), lv[i]? = some (some v) → (k + i, v) ∈ gpairs lv k := by
  induction lv with
  | nil => intro k i v h; simp at h
  | cons a t ih =>
    intro k i v h
    cases i with
    | zero =>
      rw [List.getElem?_cons_zero] at h
      cases h
      exact List.mem_cons_self
    | succ i =>
      rw [List.getElem?_cons_succ] at h
      have h2 := ih (k + 1) i v h
      rw [show k + 1 + i = k + (i + 1) by omega] at h2
      cases a with
      | none => exact h2
      | some w => exact List.mem_cons_of_mem _ h2
theorem gL_all {ls : Array Slot} {nL : Nat} {lv : gLV} (h : gL ls nL lv) : lv_has ls nL (gpairs lv 0) := gL_list h _ fun q hq => by
  have := (gpairs_in lv 0 q hq).2
  simpa using this
theorem gL_set1 {ls' : Array Slot} {nL i : Nat} {lv : gLV} {v : Value} (h : lv_has ls' nL ((i, v) :: (gpairs lv 0).filter (fun q => !(q.1 == i) && !(q.1 + 1 == i && q.2.category == 2)))) : gL ls' nL (gset1 lv i v) := by
  refine ⟨⟨h.1, h.2.1, fun q hq => by cases hq⟩, fun j w hw => ?_⟩
  rcases gset1_get hw with ⟨rfl, rfl⟩ | ⟨h1, h2, h3⟩
  · exact h.2.2 _ List.mem_cons_self
  · refine h.2.2 (j, w) (List.mem_cons_of_mem _ (List.mem_filter.mpr ⟨?_, ?_⟩))
    · have := gpairs_of lv 0 j w h2
      simpa using this
    · simp [h1]
      exact Decidable.not_and_iff_not_or_not.mp h3
theorem gL_set2 {ls' : Array Slot} {nL i : Nat} {lv : gLV} {v : Value} (h : lv_has ls' nL ((i, v) :: (gpairs lv 0).filter (fun q => !(q.1 == i) && (!(q.1 == i + 1) && !(q.1 + 1 == i && q.2.category == 2))))) : gL ls' nL (gset2 lv i v) := by
  refine ⟨⟨h.1, h.2.1, fun q hq => by cases hq⟩, fun j w hw => ?_⟩
  obtain ⟨h0, h1⟩ := gset2_get hw
  rcases h1 with ⟨rfl, rfl⟩ | ⟨h1, h2, h3⟩
  · exact h.2.2 _ List.mem_cons_self
  · refine h.2.2 (j, w) (List.mem_cons_of_mem _ (List.mem_filter.mpr ⟨?_, ?_⟩))
    · have := gpairs_of lv 0 j w h2
      simpa using this
    · simp [h1, h0]
      exact Decidable.not_and_iff_not_or_not.mp h3
def gargs : List Value → gLV
  | [] => []
  | v :: vs => if v.category = 2 then some v :: none :: gargs vs else some v :: gargs vs
def gent (vs : List Value) (n : Nat) : gLV := gargs vs ++ List.replicate (n - (gargs vs).length) none
theorem gargs_in (k : Nat) : ∀ (vs : List Value) (o i : Nat) (v : Value), (gargs vs ++ List.replicate k none)[i]? = some (some v) → (o + i, v) ∈ lv_args o vs
  | [], o, i, v, h => by
    have : (List.replicate k (none : Option Value))[i]? = some (some v) := h
    rw [List.getElem?_replicate] at this
    by_cases hk : i < k
    · simp [hk] at this
    · simp [hk] at this
  | w :: vs, o, i, v, h => by
    by_cases hc : w.category = 2
    · rw [show gargs (w :: vs) = some w :: none :: gargs vs by simp [gargs, hc]] at h
      cases i with
      | zero =>
        simp at h
        subst h
        simp [lv_args]
      | succ i =>
        cases i with
        | zero => simp at h
        | succ i =>
          simp only [List.cons_append, List.getElem?_cons_succ] at h
          have := gargs_in k vs (o + 2) i v h
          simp only [lv_args, hc, if_true]
          rw [show o + (i + 1 + 1) = o + 2 + i by omega]
          exact List.mem_cons_of_mem _ this
    · rw [show gargs (w :: vs) = some w :: gargs vs by simp [gargs, hc]] at h
      cases i with
      | zero =>
        simp at h
        subst h
        simp [lv_args]
      | succ i =>
        simp only [List.cons_append, List.getElem?_cons_succ] at h
        have := gargs_in k vs (o + 1) i v h
        simp only [lv_args, hc, if_false]
        rw [show o + (i + 1) = o + 1 + i by omega]
        exact List.mem_cons_of_mem _ this
theorem gL_entry (vs : List Value) {n : Nat} (h : (lg_sl vs).length ≤ n) : gL ((lg_sl vs ++ List.replicate (n - (lg_sl vs).length) Slot.unset).toArray) n (gent vs n) := by
  have h0 := lv_entry vs h
  refine ⟨⟨h0.1, h0.2.1, fun q hq => by cases hq⟩, fun i v hv => ?_⟩
  have := gargs_in _ vs 0 i v hv
  exact h0.2.2 (i, v) (by simpa using this)
/-- the words of nest mates, which no list of words carries -/
def gIsNest : Cond → Bool
  | .methodLinkNest .. => true
  | _ => false
def gNest (U : State) : Prop := ∀ w ∈ lw_tbl, gIsNest w = true → va_Nw w U
theorem gNest.warm {s U : State} (hW : s.WarmedH U.vm) (h : gNest s) : gNest U := fun w hw hn => by
  cases w <;> first | exact va_Nw.warmM hW (h _ hw rfl) | cases hn
theorem gNest.same {u U : State} (hv : u.vm = U.vm) (h : gNest u) : gNest U := fun w hw hn => by
  cases w <;> first | exact va_Nw.same rfl hv (h _ hw rfl) | cases hn
/-- the one static row of the class -/
def gOf (j : Nat) : Value := .int (([0, 0, 0, 2, 0, 1] : List Int32).getD j 0)
def gOv (A : Nat → Prop) (U : State) (H : Heap) : Prop := ∃ t : Nat, va_Z "WatchBench$Causes" "OVER" "[I" (.ref t) A U H ∧ va_T .int t 6 gOf A U H
/-- the ids of the classes, the places of their fields, the ids of the array classes -/
abbrev gE : Type := va_G × (Nat → ClassId)
abbrev gty (E : gE) : List (ClassId × FieldType) := [(E.2 0, .int), (E.2 1, .long), (E.2 2, .short), (E.2 3, .boolean), (E.2 4, .array .short)]
/-- what holds all along a method: machine, code, tables -/
def gK (p : Program) (s : State) (m : MethodId) (args : Array Value) (c : Code) (cc : ByteArray) (nL : Nat) (own : String) (E : gE) (A : Nat → Prop) : Prop :=
  p.tables.exec = Jvm.exec ∧ c.code = cc ∧ c.maxLocals = nL ∧ s.vm.findClass own = some m.cls ∧ (∀ w ∈ gTT, w.before args s = true) ∧ va_K E.1 vwCl (gty E) s ∧ (∀ q : Nat, s.heap.size ≤ q → A q) ∧ gNest s ∧ gOv A s s.heap
def gG (p : Program) (l : Launch) (e : Env) (R : Room) (s : State) (m : MethodId) (args : Array Value) (below : List Frame) (meth : Method) (c : Code) (nL : Nat) (E : gE) (A : Nat → Prop) (Q : State → Prop) : Nat → Nat → Nat → gLV → List Value → va_W → Prop := fun u z pc lv st ws =>
  ∀ (H : Heap) (locs : List Loc) (ls : Array Slot), gL ls nL lv → va_P E.1 vwCl ws H → va_D A ws → va_S A s.heap H locs → W p l e R s m args below meth c H locs u z Q (F0 m pc ls st)
abbrev gT : Type := Nat → Nat → Nat → gLV → List Value → va_W → Prop
/-- Γ is the walk of a method: its rows hold; 'post' is asked at its end -/
def IsG (Γ : gT) (l : Launch) (R : Room) (cc : ByteArray) (nL : Nat) (own : String) (E : gE) (ret : Option FieldType) (init : Bool) (post : Option Value → Nat → Nat → va_W → Prop) : Prop :=
  ∃ (p : Program) (e : Env) (s : State) (m : MethodId) (args : Array Value) (below : List Frame) (meth : Method) (c : Code) (A : Nat → Prop) (Q : State → Prop),
    gK p s m args c cc nL own E A ∧ Γ = gG p l e R s m args below meth c nL E A Q ∧ (init = true → meth.name = "<init>") ∧
    (∀ (v : Option Value) (u z : Nat) (ws : va_W), post v u z ws → ∀ (pc : Nat) (lv : gLV),
      ((∃ (x : Int32) (ty : FieldType), v = some (.int x) ∧ decode cc pc = .ok (.ireturn, 1) ∧ ret = some ty ∧ narrow ty (.int x) = .int x) ∨ (∃ x : Int64, v = some (.long x) ∧ decode cc pc = .ok (.lreturn, 1) ∧ ret = some .long) ∨ (v = none ∧ decode cc pc = .ok (.return_, 1) ∧ ret = none)) → Γ u z pc lv v.toList ws)
/-! a contract: from any heap that holds the world wc the method returns, with an answer and a world that 'post' names; its cells keep their places -/
def gPre (E : gE) (wc : va_W) (sz : Nat) (U : State) : Prop := U.heap.size = sz ∧ va_P E.1 vwCl wc U.heap ∧ va_K E.1 vwCl (gty E) U ∧ va_D (fun _ => True) wc ∧ gNest U ∧ gOv (va_A wc sz) U U.heap
def gQc (E : gE) (wc : va_W) (sz : Nat) (post : Option Value → va_W → Prop) : Array Value → State → Outcome → State → Prop := fun _ st oc t => (∃ (v : Option Value) (w1 : va_W), oc = .returned v ∧ post v w1 ∧ va_P E.1 vwCl w1 t.heap ∧ va_D (va_A wc sz) w1 ∧ (w1.take wc.length).map Prod.fst = wc.map Prod.fst) ∧ va_F (va_A wc sz) st t
def Ctr (l : Launch) (y : MethodName) (cc : ByteArray) (maxL : Nat) (ret : Option FieldType) (rm : Room) (E : gE) (av : List Value) (wc : va_W) (post : Option Value → va_W → Prop) : Prop :=
  ∀ sz : Nat, Met l y (.code y cc maxL ret :: gTT) rm (va_Pc av (gPre E wc sz)) (gQc E wc sz post) rm.cells rm.slots (va_A wc sz)
/-- what is asked at a method's end -/
abbrev gEnd (rm : Room) (wc : va_W) (post : Option Value → va_W → Prop) : Option Value → Nat → Nat → va_W → Prop := fun v u z ws => u ≤ rm.cells ∧ z ≤ rm.slots ∧ (ws.take wc.length).map Prod.fst = wc.map Prod.fst ∧ post v ws
theorem g_met {l : Launch} {y : MethodName} {ws ws' : List Cond} {rm : Room} {Pc : Array Value → State → Prop} {Qc : Array Value → State → Outcome → State → Prop} {mc ms : Nat} {free : Addr → Prop} {cc : ByteArray} {maxL : Nat} {ret : Option FieldType}
    (hy : plainFor y = true) (hw : ws = Cond.code y cc maxL ret :: ws')
    (body : ∀ p e s m args below meth c s₁, BodyLoose p l y (headSpec ws rm) cc maxL ret e s m args below meth c s₁ → c.maxLocals = maxL → Pc args s →
      W p l e (headSpec ws rm).room s m args below meth c s.heap [] 0 0 (MQ below Qc args s mc ms free) (entryFrame m args maxL)) : Met l y ws rm Pc Qc mc ms free := by
  refine MetFree.of_bodySF (code := cc) (maxLocals := maxL) (ret := ret) hy ?_ ?_
  · intro args s m h hn
    obtain ⟨meth, c, h1, h2, h3, h4, h5, h6, -, -⟩ := Cond.code_spec hn (atoms_spec (ws := ws) h _ (by rw [hw]; exact List.mem_cons_self))
    exact ⟨meth, c, h1, h2, h3, h4, h5, h6⟩
  · intro p e s m args below meth c s₁ B hml hP _
    have hh0 : s₁.heap = s.heap := by rw [B.state]; rfl
    obtain ⟨t, a1, o, b1, b2, b3⟩ := body p e s m args below meth c s₁ B hml hP s₁ hh0 (Stand.of_body B)
    exact ⟨t, o, a1, b1, b2, ⟨b3.1, b3.2⟩⟩
theorem ctr_of {l : Launch} {y : MethodName} {cc : ByteArray} {maxL : Nat} {ret : Option FieldType} {rm : Room} {E : gE} {av : List Value} {wc : va_W} {post : Option Value → va_W → Prop} (init : Bool) (hy : plainFor y = true) (hl : (lg_sl av).length ≤ maxL) (hin : init = true → y.name = "<init>")
    (body : ∀ Γ : gT, IsG Γ l rm cc maxL y.cls E ret init (gEnd rm wc post) → Γ 0 0 0 (gent av maxL) [] wc) : Ctr l y cc maxL ret rm E av wc post := by
  intro sz
  refine g_met (cc := cc) (maxL := maxL) (ret := ret) hy rfl ?_
  intro p e s m args below meth c s₁ B hml hv
  obtain ⟨rfl, hsz, hP, hK, hD0, hN, hO⟩ := hv
  have hx := B.exec
  have hb := B.bytes
  have hr := B.returns
  have hts := atoms_spec (ws := .code y cc maxL ret :: gTT) B.pre
  have hown : s.vm.findClass y.cls = some m.cls := findClass_of_methodNamed B.named
  have hlocks := B.notSynchronized
  subst hsz
  have hD := hD0.self (sz := s.heap.size)
  have hA : ∀ q : Nat, s.heap.size ≤ q → va_A wc s.heap.size q := fun q h => Or.inr h
  rw [lg_entry_eq]
  refine body (gG p l e rm s m av.toArray below meth c maxL E (va_A wc s.heap.size) (MQ below (gQc E wc s.heap.size post) av.toArray s rm.cells rm.slots (va_A wc s.heap.size))) ⟨p, e, s, m, av.toArray, below, meth, c, va_A wc s.heap.size, _, ⟨hx, hb, hml, hown, fun w hw => hts w (List.mem_cons_of_mem _ hw), hK, hA, hN, hO⟩, rfl, fun h => (name_of_methodNamed B.named B.method).1.trans (hin h), ?_⟩ s.heap [] _ (gL_entry av hl) hP hD va_S.rf
  intro v u z ws hpost pc lv hd H locs ls hl hP hD hS
  obtain ⟨hu, hz, hf, hp⟩ := hpost
  refine W.widen hu hz ?_
  rcases hd with ⟨x, ty, rfl, hd, hty, hn⟩ | ⟨x, rfl, hd, hty⟩ | ⟨rfl, hd, hty⟩
  · exact W.zret hx hb (hr.trans hty) hn (fun t ht hW => ⟨⟨_, ws, rfl, hp, by rw [ht]; exact hP, hD, hf⟩, hS.F ht⟩) hS.2.2 hd
  · exact W.lret hx hb (hr.trans hty) (fun t ht hW => ⟨⟨_, ws, rfl, hp, by rw [ht]; exact hP, hD, hf⟩, hS.F ht⟩) hS.2.2 hd
  · exact W.vret hx hb (hr.trans hty) (fun t ht hW => ⟨⟨_, ws, rfl, hp, by rw [ht]; exact hP, hD, hf⟩, hS.F ht⟩) hS.2.2 hd
/-! behind a call: the callee's cells go back to their places, new ones behind all -/
def gmerge : List Nat → va_W → va_W → va_W
  | [], w1, ws => ws ++ w1
  | i :: is, x :: w1, ws => gmerge is w1 (ws.set i x)
  | _ :: _, [], ws => ws
theorem gmerge_P {D : va_G} {cl : List vw_C} {H : Heap} : ∀ (is : List Nat) (w1 ws : va_W), (∀ (k : Nat) (q : Nat × va_E), w1[k]? = some q → va_at D cl q H) → (∀ (k : Nat) (q : Nat × va_E), ws[k]? = some q → k ∉ is → va_at D cl q H) → is.length ≤ w1.length → va_P D cl (gmerge is w1 ws) H
  | [], w1, ws, h1, h2, _ => va_P.app (fun k q hk => h2 k q hk List.not_mem_nil) h1
  | i :: is, [], ws, _, _, hl => by simp at hl
  | i :: is, x :: w1, ws, h1, h2, hl => by
    refine gmerge_P is w1 (ws.set i x) (fun k q hk => h1 (k + 1) q (by rw [List.getElem?_cons_succ]; exact hk)) (fun k q hk hn => ?_) (by simp at hl; exact hl)
    by_cases hki : k = i
    · subst hki
      rw [List.getElem?_set] at hk
      simp at hk
      exact h1 0 q (by rw [List.getElem?_cons_zero, hk.2])
    · rw [List.getElem?_set_ne (Ne.symm hki)] at hk
      exact h2 k q hk (fun hm => (List.mem_cons.mp hm).elim hki hn)
theorem gmerge_D {A : Nat → Prop} : ∀ (is : List Nat) (w1 ws : va_W), va_D A ws → (∀ (j i : Nat) (x : Nat × va_E), is[j]? = some i → w1[j]? = some x → ∃ e0, ws[i]? = some (x.1, e0)) → va_D A (w1.drop is.length) → (∀ (i j : Nat) (x y : Nat × va_E), ws[i]? = some x → (w1.drop is.length)[j]? = some y → x.1 ≠ y.1) → va_D A (gmerge is w1 ws)
  | [], w1, ws, hD, _, hE, hx => hD.app hE hx
  | i :: is, [], ws, hD, _, _, _ => hD
  | i :: is, x :: w1, ws, hD, ha, hE, hx => by
    obtain ⟨e0, h0⟩ := ha 0 i x rfl rfl
    have hl := (List.getElem?_eq_some_iff.mp h0).1
    have hD' : va_D A (ws.set i x) := by
      obtain ⟨a, e⟩ := x
      exact hD.set h0
    refine gmerge_D is w1 (ws.set i x) hD' (fun j i' x' h1 h2 => ?_) hE (fun k j p q h1 h2 => ?_)
    · obtain ⟨e1, h3⟩ := ha (j + 1) i' x' (by rw [List.getElem?_cons_succ]; exact h1) (by rw [List.getElem?_cons_succ]; exact h2)
      by_cases hi : i' = i
      · subst hi
        rw [h0] at h3
        have h4 : x.1 = x'.1 := (Prod.mk.inj (Option.some.inj h3)).1
        exact ⟨x.2, by rw [List.getElem?_set_self hl, ← h4]⟩
      · exact ⟨e1, by rw [List.getElem?_set_ne (Ne.symm hi)]; exact h3⟩
    · by_cases hk : k = i
      · subst hk
        rw [List.getElem?_set_self hl] at h1
        cases h1
        exact hx k j (x.1, e0) q h0 h2
      · rw [List.getElem?_set_ne (Ne.symm hk)] at h1
        exact hx k j p q h1 h2
theorem g_at {ws : va_W} {is : List Nat} {w : va_W} (hs : is.map (fun i => ws[i]?) = w.map some) {k : Nat} {q : Nat × va_E} (hq : w[k]? = some q) : ∃ i, is[k]? = some i ∧ ws[i]? = some q := by
  have h1 : (is.map (fun i => ws[i]?))[k]? = some (some q) := by rw [hs, List.getElem?_map, hq]; rfl
  rw [List.getElem?_map] at h1
  cases hi : is[k]? with
  | none => rw [hi] at h1; cases h1
  | some i => rw [hi] at h1; exact ⟨i, rfl, Option.some.inj h1⟩
theorem g_fst {w1 wc : va_W} (hf : (w1.take wc.length).map Prod.fst = wc.map Prod.fst) : wc.length ≤ w1.length ∧ ∀ (k : Nat) (x y : Nat × va_E), wc[k]? = some x → w1[k]? = some y → y.1 = x.1 := by
  have hlen : (w1.take wc.length).length = wc.length := by
    have := congrArg List.length hf
    simpa using this
  rw [List.length_take] at hlen
  refine ⟨by omega, fun k x y hx hy => ?_⟩
  have hk : k < wc.length := (List.getElem?_eq_some_iff.mp hx).1
  have h1 : ((w1.take wc.length).map Prod.fst)[k]? = some y.1 := by
    rw [List.getElem?_map, List.getElem?_take, if_pos hk, hy]; rfl
  rw [hf, List.getElem?_map, hx] at h1
  exact (Option.some.inj h1).symm
theorem g_after {p : Program} {l : Launch} {e : Env} {R : Room} {s : State} {m : MethodId} {args : Array Value} {below : List Frame} {meth : Method} {c : Code} {nL : Nat} {E : gE} {A : Nat → Prop} {Q : State → Prop} {H : Heap} {locs : List Loc} {u z mc ms pc : Nat} {ls : Array Slot} {lv : gLV} {st0 rest : List Value} {ws wc : va_W} {postc : Option Value → va_W → Prop} {a : Array Value}
    (hr : va_Run p l e R s m args below meth c H locs u z mc ms (F0 m pc ls st0) rest (gQc E wc H.size postc a) (va_A wc H.size)) (hl : gL ls nL lv) (hP : va_P E.1 vwCl ws H) (hD : va_D A ws) (hS : va_S A s.heap H locs) (hA : ∀ q : Nat, s.heap.size ≤ q → A q)
    (is : List Nat) (his : is.map (fun i => ws[i]?) = wc.map some) (k : ∀ (v : Option Value) (w1 : va_W), postc v w1 → gG p l e R s m args below meth c nL E A Q (u + mc) (z + ms) (pc + 3) lv (v.toList ++ rest) (gmerge is w1 ws)) : W p l e R s m args below meth c H locs u z Q (F0 m pc ls st0) := by
  intro T hT X
  obtain ⟨v, st₀, t, T', L, h0, X', hL, e1, e2, ⟨⟨v', w1, hv, hp, hP1, hD1, hf⟩, hz, hk⟩, st⟩ := hr T hT X
  cases hv
  rw [h0] at hz hk
  have hFc : ∀ q, va_A wc H.size q → A q := va_free hD hS hA is his
  obtain ⟨hlen, hfst⟩ := g_fst hf
  have hisl : is.length = wc.length := by
    have := congrArg List.length his
    simpa using this
  have hkept : ∀ (k : Nat) (q : Nat × va_E), ws[k]? = some q → k ∉ is → T'.heap[q.1]? = H[q.1]? := by
    intro k q hq hn
    have hlt := (hP k q hq).lt
    rw [e1]
    refine hk q.1 hlt (fun ha => ?_)
    rcases ha with ⟨k2, e', h⟩ | h
    · obtain ⟨i, h3, h4⟩ := g_at his h
      have := hD.1 k i q (q.1, e') hq h4 rfl
      subst this
      exact hn (List.mem_of_getElem? h3)
    · omega
  have hP' : va_P E.1 vwCl (gmerge is w1 ws) T'.heap := gmerge_P is w1 ws (fun k q hq => by rw [e1]; exact hP1 k q hq) (fun k q hq hn => (hP k q hq).kept (hkept k q hq hn)) (by omega)
  have hD' : va_D A (gmerge is w1 ws) := by
    refine gmerge_D is w1 ws hD (fun j i x h1 h2 => ?_) ?_ (fun i j x y h1 h2 hxy => ?_)
    · have hj : j < wc.length := by rw [← hisl]; exact (List.getElem?_eq_some_iff.mp h1).1
      have hw : wc[j]? = some wc[j] := List.getElem?_eq_getElem hj
      obtain ⟨i2, h3, h4⟩ := g_at his hw
      rw [h1] at h3
      cases h3
      have h5 := hfst j _ x hw h2
      exact ⟨wc[j].2, by rw [h4, h5]⟩
    · refine ⟨fun i j x y h1 h2 hxy => ?_, fun k q hq => ?_⟩
      · rw [List.getElem?_drop] at h1 h2
        have := hD1.1 _ _ x y h1 h2 hxy
        omega
      · rw [List.getElem?_drop] at hq
        exact hFc _ (hD1.2 _ q hq)
    · rw [List.getElem?_drop] at h2
      have hlt := (hP i x h1).lt
      rcases hD1.2 _ y h2 with ⟨k2, e', h⟩ | h
      · have hk2 : k2 < wc.length := (List.getElem?_eq_some_iff.mp h).1
        have hw1 : w1[k2]? = some w1[k2] := List.getElem?_eq_getElem (by omega)
        have h5 := hfst k2 _ _ h hw1
        have := hD1.1 _ _ y w1[k2] h2 hw1 (by rw [h5])
        omega
      · omega
  obtain ⟨t2, a1, b1⟩ := k v w1 hp T'.heap (locs ++ L) ls hl hP' hD' ⟨Nat.le_trans hS.1 (by rw [e1]; exact hz), fun q h1 h2 => by rw [e1, hk q (Nat.lt_of_lt_of_le h1 hS.1) (fun z => h2 (hFc q z))]; exact hS.2.1 q h1 h2, fun q hq => by
      rcases List.mem_append.mp hq with h | h
      · exact hS.2.2 q h
      · exact hFc _ (hL q h)⟩ T' rfl X'
  exact ⟨t2, st t2 a1, b1⟩
theorem g_blind {E : gE} {wc : va_W} {sz : Nat} {av : List Value} : FrameBlind (va_Pc av (gPre E wc sz)) := by
  intro a U g mk q
  obtain ⟨q0, q1, qP, qK, qD, qN, t, qZ, qT⟩ := q
  exact ⟨q0, q1, qP, va_K.moved (u := U) (U := U.calling g mk a) (Vm.Alike.refl U.vm) qK, qD, gNest.same (u := U) (U := U.calling g mk a) rfl qN, t, va_Z.moved (u := U) (U := U.calling g mk a) (Vm.Alike.refl U.vm) qZ, va_T.moved (u := U) (U := U.calling g mk a) (Vm.Alike.refl U.vm) qT⟩
theorem g_pre {s : State} {E : gE} {A : Nat → Prop} {H : Heap} {locs : List Loc} {ws wc : va_W} {av : List Value} (hK : va_K E.1 vwCl (gty E) s) (hN : gNest s) (hO : gOv A s s.heap) (hP : va_P E.1 vwCl ws H) (hD : va_D A ws) (hS : va_S A s.heap H locs) (hA : ∀ q : Nat, s.heap.size ≤ q → A q) (is : List Nat) (his : is.map (fun i => ws[i]?) = wc.map some) (hnd : va_nd is = true) : ∀ U : State, U.heap = H → s.WarmedH U.vm → va_Pc av (gPre E wc H.size) av.toArray U := by
  intro U hU hW
  have hFc : ∀ q, va_A wc H.size q → A q := va_free hD hS hA is his
  obtain ⟨t, hZ, hT⟩ := hO
  refine ⟨rfl, by rw [hU], ?_, va_K.moved hW.alike hK, (hD.sub is hnd his).weaken (fun _ _ _ _ => trivial), hN.warm hW, t, ?_, ?_⟩
  · rw [hU]
    intro k q hq
    obtain ⟨i, -, h⟩ := g_at his hq
    exact hP i q h
  · rw [hU]
    exact (((hZ.kept (fun a h1 h2 => hS.2.1 a h1 h2)).moved hW.alike).narrow hFc)
  · rw [hU]
    exact (((hT.kept (fun a h1 h2 => hS.2.1 a h1 h2)).moved hW.alike).narrow hFc)
