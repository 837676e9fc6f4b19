/-- the words that every list of words has: those of the tables that ride over calls -/
def gTT : List Cond := lw_tbl.filter goodWord
theorem gtt {w : Cond} (i : Nat) (h : lw_tbl[i]? = some w) (hg : goodWord w = true) : w ∈ gTT := List.mem_filter.mpr ⟨List.mem_of_getElem? h, hg⟩
theorem gtt_all {ws : List Cond} (h : ws.all (fun w => decide (w ∈ lw_tbl) && goodWord w) = true) : ∀ w ∈ ws, w ∈ gTT := fun w hw => by
  have h1 := List.all_eq_true.mp h w hw
  simp only [Bool.and_eq_true, decide_eq_true_eq] at h1
  exact List.mem_filter.mpr h1
theorem gt0 {w : Cond} (i : Nat) (h : (k2_sels lw_privs)[i]? = some w) (hg : goodWord w = true) : w ∈ gTT := List.mem_filter.mpr ⟨List.mem_append_left _ (List.mem_of_getElem? h), hg⟩
theorem gt1 {w : Cond} (i : Nat) (h : (tables_1_1)[i]? = some w) (hg : goodWord w = true) : w ∈ gTT := List.mem_filter.mpr ⟨List.mem_append_right _ (List.mem_append_left _ (List.mem_of_getElem? h)), hg⟩
theorem gt2 {w : Cond} (i : Nat) (h : (tables_1_2)[i]? = some w) (hg : goodWord w = true) : w ∈ gTT := List.mem_filter.mpr ⟨List.mem_append_right _ (List.mem_append_right _ (List.mem_append_left _ (List.mem_of_getElem? h))), hg⟩
theorem gt3 {w : Cond} (i : Nat) (h : (tables_1_3)[i]? = some w) (hg : goodWord w = true) : w ∈ gTT := List.mem_filter.mpr ⟨List.mem_append_right _ (List.mem_append_right _ (List.mem_append_right _ (List.mem_append_left _ (List.mem_of_getElem? h)))), hg⟩
theorem gt4 {w : Cond} (i : Nat) (h : (tables_1_4)[i]? = some w) (hg : goodWord w = true) : w ∈ gTT := List.mem_filter.mpr ⟨List.mem_append_right _ (List.mem_append_right _ (List.mem_append_right _ (List.mem_append_right _ (List.mem_append_left _ (List.mem_of_getElem? h))))), hg⟩
theorem gt5 {w : Cond} (i : Nat) (h : (tables_1_5)[i]? = some w) (hg : goodWord w = true) : w ∈ gTT := List.mem_filter.mpr ⟨List.mem_append_right _ (List.mem_append_right _ (List.mem_append_right _ (List.mem_append_right _ (List.mem_append_right _ (List.mem_of_getElem? h))))), hg⟩
theorem gn0 {w : Cond} (i : Nat) (h : (k2_sels lw_privs)[i]? = some w) : w ∈ lw_tbl := List.mem_append_left _ (List.mem_of_getElem? h)
theorem gn1 {w : Cond} (i : Nat) (h : (tables_1_1)[i]? = some w) : w ∈ lw_tbl := List.mem_append_right _ (List.mem_append_left _ (List.mem_of_getElem? h))
theorem gn2 {w : Cond} (i : Nat) (h : (tables_1_2)[i]? = some w) : w ∈ lw_tbl := List.mem_append_right _ (List.mem_append_right _ (List.mem_append_left _ (List.mem_of_getElem? h)))
theorem gn3 {w : Cond} (i : Nat) (h : (tables_1_3)[i]? = some w) : w ∈ lw_tbl := List.mem_append_right _ (List.mem_append_right _ (List.mem_append_right _ (List.mem_append_left _ (List.mem_of_getElem? h))))
theorem gn4 {w : Cond} (i : Nat) (h : (tables_1_4)[i]? = some w) : w ∈ lw_tbl := List.mem_append_right _ (List.mem_append_right _ (List.mem_append_right _ (List.mem_append_right _ (List.mem_append_left _ (List.mem_of_getElem? h)))))
theorem gn5 {w : Cond} (i : Nat) (h : (tables_1_5)[i]? = some w) : w ∈ lw_tbl := List.mem_append_right _ (List.mem_append_right _ (List.mem_append_right _ (List.mem_append_right _ (List.mem_append_right _ (List.mem_of_getElem? h)))))
theorem gin0 : ∀ w ∈ wsX00, w ∈ gTT := gtt_all (by decide +kernel)
theorem gin1 : ∀ w ∈ wsX10, w ∈ gTT := gtt_all (by decide +kernel)
theorem gin3 : ∀ w ∈ wsX30, w ∈ gTT := gtt_all (by decide +kernel)
theorem gin4 : ∀ w ∈ wsX40, w ∈ gTT := gtt_all (by decide +kernel)
theorem gin5 : ∀ w ∈ wsX50, w ∈ gTT := gtt_all (by decide +kernel)
theorem gin6 : ∀ w ∈ wsX60, w ∈ gTT := gtt_all (by decide +kernel)
theorem gin7 : ∀ w ∈ wsX70, w ∈ gTT := gtt_all (by decide +kernel)
theorem gin8 : ∀ w ∈ wsX80, w ∈ gTT := gtt_all (by decide +kernel)
theorem gin9 : ∀ w ∈ wsX90, w ∈ gTT := gtt_all (by decide +kernel)
theorem gin10 : ∀ w ∈ wsX100, w ∈ gTT := gtt_all (by decide +kernel)
theorem gin11 : ∀ w ∈ wsX110, w ∈ gTT := gtt_all (by decide +kernel)
/-- a field as an instruction names it: its class among vwCl, its place there -/
def gFL (own : String) (index ci k : Nat) (C : String) (T : u_T) (N : Nat) : Prop := vwCl[ci]? = some (C, T, N) ∧ k < N ∧ (∀ w ∈ u_ws C T N, w ∈ gTT) ∧ Cond.fieldLink own index (T k).1 (T k).2.1 (T k).2.2.1 ∈ gTT
/-- a class whose fields may be written: their types, their names apart -/
def gFT (C : String) (T : u_T) (N : Nat) : Prop := ∃ ty0 : Nat → FieldType, (∀ k, k < N → parseFieldDescriptor (T k).2.2.1 = some (ty0 k)) ∧ (∀ a, a < N → ∀ b, b < N → a ≠ b → (T a).2.1 ≠ (T b).2.1)
theorem gtm {w : Cond} (h : (decide (w ∈ lw_tbl) && goodWord w) = true) : w ∈ gTT := by
  simp only [Bool.and_eq_true, decide_eq_true_eq] at h
  exact List.mem_filter.mpr h
/-- a method of an object, as calls need it -/
def gMV (C : String) (y : MethodName) (cy : ByteArray) (mL : Nat) (rt : Option FieldType) (n : Nat) : Prop := Cond.code y cy mL rt ∈ gTT ∧ Cond.instanceMethod y ∈ gTT ∧ Cond.selects C y y ∈ gTT ∧ Cond.initialized y.cls ∈ gTT ∧ (y.cls ≠ "java/lang/invoke/MethodHandle" ∧ y.cls ≠ "java/lang/invoke/VarHandle") ∧ (parseMethodDescriptor y.desc).map (fun d => d.parameters.length) = some n
/-- a static method -/
def gMS (y : MethodName) (cy : ByteArray) (mL : Nat) (rt : Option FieldType) (n : Nat) : Prop := Cond.code y cy mL rt ∈ gTT ∧ Cond.static y ∈ gTT ∧ Cond.initialized y.cls ∈ gTT ∧ (y.cls ≠ "java/lang/invoke/MethodHandle" ∧ y.cls ≠ "java/lang/invoke/VarHandle") ∧ (parseMethodDescriptor y.desc).map (fun d => d.parameters.length) = some n
/-- a constructor -/
def gMI (y : MethodName) (cy : ByteArray) (mL : Nat) (n : Nat) : Prop := Cond.code y cy mL none ∈ gTT ∧ Cond.instanceMethod y ∈ gTT ∧ Cond.initialized y.cls ∈ gTT ∧ y.name = "<init>" ∧ (y.cls ≠ "java/lang/invoke/MethodHandle" ∧ y.cls ≠ "java/lang/invoke/VarHandle") ∧ (parseMethodDescriptor y.desc).map (fun d => d.parameters.length) = some n
