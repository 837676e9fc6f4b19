theorem g_iconst {Γ : gT} {l : Launch} {R : Room} {cc : ByteArray} {nL : Nat} {own : String} {E : gE} {ret : Option FieldType} {init : Bool} {post : Option Value → Nat → Nat → va_W → Prop} {u z pc : Nat} {lv : gLV} {st : List Value} {ws : va_W} (h : IsG Γ l R cc nL own E ret init post) {n : Int} {v : Int32} (d : decode cc pc = .ok (.iconst n, 1)) (hv : Int32.ofInt n = v) (k : Γ u z (pc + 1) lv (.int v :: st) ws) : Γ u z pc lv st ws := by
  obtain ⟨p, e, s, m, args, below, meth, c, A, Q, ⟨hx, hb, hml, ho, hts, hK, hA, hN, hO⟩, rfl, hin, hr⟩ := h
  intro H locs ls hl hP hD hS
  exact lv_iconst hx hb d hv (k H locs ls hl hP hD hS)
theorem g_bipush {Γ : gT} {l : Launch} {R : Room} {cc : ByteArray} {nL : Nat} {own : String} {E : gE} {ret : Option FieldType} {init : Bool} {post : Option Value → Nat → Nat → va_W → Prop} {u z pc : Nat} {lv : gLV} {st : List Value} {ws : va_W} (h : IsG Γ l R cc nL own E ret init post) {n : Int} {v : Int32} (d : decode cc pc = .ok (.bipush n, 2)) (hv : (Int8.ofInt n).toInt32 = v) (k : Γ u z (pc + 2) lv (.int v :: st) ws) : Γ u z pc lv st ws := by
  obtain ⟨p, e, s, m, args, below, meth, c, A, Q, ⟨hx, hb, hml, ho, hts, hK, hA, hN, hO⟩, rfl, hin, hr⟩ := h
  intro H locs ls hl hP hD hS
  exact lv_bipush hx hb d hv (k H locs ls hl hP hD hS)
theorem g_sipush {Γ : gT} {l : Launch} {R : Room} {cc : ByteArray} {nL : Nat} {own : String} {E : gE} {ret : Option FieldType} {init : Bool} {post : Option Value → Nat → Nat → va_W → Prop} {u z pc : Nat} {lv : gLV} {st : List Value} {ws : va_W} (h : IsG Γ l R cc nL own E ret init post) {n : Int} {v : Int32} (d : decode cc pc = .ok (.sipush n, 3)) (hv : (Int16.ofInt n).toInt32 = v) (k : Γ u z (pc + 3) lv (.int v :: st) ws) : Γ u z pc lv st ws := by
  obtain ⟨p, e, s, m, args, below, meth, c, A, Q, ⟨hx, hb, hml, ho, hts, hK, hA, hN, hO⟩, rfl, hin, hr⟩ := h
  intro H locs ls hl hP hD hS
  exact lv_sipush hx hb d hv (k H locs ls hl hP hD hS)
theorem g_lconst {Γ : gT} {l : Launch} {R : Room} {cc : ByteArray} {nL : Nat} {own : String} {E : gE} {ret : Option FieldType} {init : Bool} {post : Option Value → Nat → Nat → va_W → Prop} {u z pc : Nat} {lv : gLV} {st : List Value} {ws : va_W} (h : IsG Γ l R cc nL own E ret init post) {n : Fin 2} {v : Int64} (d : decode cc pc = .ok (.lconst n, 1)) (hv : Int64.ofNat (n : Nat) = v) (k : Γ u z (pc + 1) lv (.long v :: st) ws) : Γ u z pc lv st ws := by
  obtain ⟨p, e, s, m, args, below, meth, c, A, Q, ⟨hx, hb, hml, ho, hts, hK, hA, hN, hO⟩, rfl, hin, hr⟩ := h
  intro H locs ls hl hP hD hS
  exact lv_lconst hx hb d hv (k H locs ls hl hP hD hS)
theorem g_ldc {Γ : gT} {l : Launch} {R : Room} {cc : ByteArray} {nL : Nat} {own : String} {E : gE} {ret : Option FieldType} {init : Bool} {post : Option Value → Nat → Nat → va_W → Prop} {u z pc : Nat} {lv : gLV} {st : List Value} {ws : va_W} (h : IsG Γ l R cc nL own E ret init post) {i : Nat} {v : Int32} (d : decode cc pc = .ok (.ldc i, 2)) (hw : Cond.constant own i v ∈ gTT) (k : Γ u z (pc + 2) lv (.int v :: st) ws) : Γ u z pc lv st ws := by
  obtain ⟨p, e, s, m, args, below, meth, c, A, Q, ⟨hx, hb, hml, ho, hts, hK, hA, hN, hO⟩, rfl, hin, hr⟩ := h
  intro H locs ls hl hP hD hS
  exact lv_ldc hx hb ho (hts _ hw) d (k H locs ls hl hP hD hS)
theorem g_ldcw {Γ : gT} {l : Launch} {R : Room} {cc : ByteArray} {nL : Nat} {own : String} {E : gE} {ret : Option FieldType} {init : Bool} {post : Option Value → Nat → Nat → va_W → Prop} {u z pc : Nat} {lv : gLV} {st : List Value} {ws : va_W} (h : IsG Γ l R cc nL own E ret init post) {i : Nat} {v : Int32} (d : decode cc pc = .ok (.ldc_w i, 3)) (hw : Cond.constant own i v ∈ gTT) (k : Γ u z (pc + 3) lv (.int v :: st) ws) : Γ u z pc lv st ws := by
  obtain ⟨p, e, s, m, args, below, meth, c, A, Q, ⟨hx, hb, hml, ho, hts, hK, hA, hN, hO⟩, rfl, hin, hr⟩ := h
  intro H locs ls hl hP hD hS
  exact lv_ldcw hx hb ho (hts _ hw) d (k H locs ls hl hP hD hS)
theorem g_ldc2 {Γ : gT} {l : Launch} {R : Room} {cc : ByteArray} {nL : Nat} {own : String} {E : gE} {ret : Option FieldType} {init : Bool} {post : Option Value → Nat → Nat → va_W → Prop} {u z pc : Nat} {lv : gLV} {st : List Value} {ws : va_W} (h : IsG Γ l R cc nL own E ret init post) {i : Nat} {v : Int64} (d : decode cc pc = .ok (.ldc2_w i, 3)) (hw : Cond.constantLong own i v ∈ gTT) (k : Γ u z (pc + 3) lv (.long v :: st) ws) : Γ u z pc lv st ws := by
  obtain ⟨p, e, s, m, args, below, meth, c, A, Q, ⟨hx, hb, hml, ho, hts, hK, hA, hN, hO⟩, rfl, hin, hr⟩ := h
  intro H locs ls hl hP hD hS
  exact lv_ldc2 hx hb ho (hts _ hw) d (k H locs ls hl hP hD hS)
theorem g_iload_n {Γ : gT} {l : Launch} {R : Room} {cc : ByteArray} {nL : Nat} {own : String} {E : gE} {ret : Option FieldType} {init : Bool} {post : Option Value → Nat → Nat → va_W → Prop} {u z pc : Nat} {lv : gLV} {st : List Value} {ws : va_W} (h : IsG Γ l R cc nL own E ret init post) {k0 : Fin 4} {x : Int32} (d : decode cc pc = .ok (.iload_n k0, 1)) (hv : lv[(k0 : Nat)]? = some (some (.int x))) (k : Γ u z (pc + 1) lv (.int x :: st) ws) : Γ u z pc lv st ws := by
  obtain ⟨p, e, s, m, args, below, meth, c, A, Q, ⟨hx, hb, hml, ho, hts, hK, hA, hN, hO⟩, rfl, hin, hr⟩ := h
  intro H locs ls hl hP hD hS
  exact lv_iload_n hx hb d rfl (hl.2 _ _ hv) (k H locs ls hl hP hD hS)
theorem g_iload {Γ : gT} {l : Launch} {R : Room} {cc : ByteArray} {nL : Nat} {own : String} {E : gE} {ret : Option FieldType} {init : Bool} {post : Option Value → Nat → Nat → va_W → Prop} {u z pc : Nat} {lv : gLV} {st : List Value} {ws : va_W} (h : IsG Γ l R cc nL own E ret init post) {i : Nat} {x : Int32} (d : decode cc pc = .ok (.iload i, 2)) (hv : lv[i]? = some (some (.int x))) (k : Γ u z (pc + 2) lv (.int x :: st) ws) : Γ u z pc lv st ws := by
  obtain ⟨p, e, s, m, args, below, meth, c, A, Q, ⟨hx, hb, hml, ho, hts, hK, hA, hN, hO⟩, rfl, hin, hr⟩ := h
  intro H locs ls hl hP hD hS
  exact lv_iload hx hb d (hl.2 _ _ hv) (k H locs ls hl hP hD hS)
theorem g_lload_n {Γ : gT} {l : Launch} {R : Room} {cc : ByteArray} {nL : Nat} {own : String} {E : gE} {ret : Option FieldType} {init : Bool} {post : Option Value → Nat → Nat → va_W → Prop} {u z pc : Nat} {lv : gLV} {st : List Value} {ws : va_W} (h : IsG Γ l R cc nL own E ret init post) {k0 : Fin 4} {x : Int64} (d : decode cc pc = .ok (.lload_n k0, 1)) (hv : lv[(k0 : Nat)]? = some (some (.long x))) (k : Γ u z (pc + 1) lv (.long x :: st) ws) : Γ u z pc lv st ws := by
  obtain ⟨p, e, s, m, args, below, meth, c, A, Q, ⟨hx, hb, hml, ho, hts, hK, hA, hN, hO⟩, rfl, hin, hr⟩ := h
  intro H locs ls hl hP hD hS
  exact lv_lload_n hx hb d rfl (hl.2 _ _ hv) (k H locs ls hl hP hD hS)
theorem g_lload {Γ : gT} {l : Launch} {R : Room} {cc : ByteArray} {nL : Nat} {own : String} {E : gE} {ret : Option FieldType} {init : Bool} {post : Option Value → Nat → Nat → va_W → Prop} {u z pc : Nat} {lv : gLV} {st : List Value} {ws : va_W} (h : IsG Γ l R cc nL own E ret init post) {i : Nat} {x : Int64} (d : decode cc pc = .ok (.lload i, 2)) (hv : lv[i]? = some (some (.long x))) (k : Γ u z (pc + 2) lv (.long x :: st) ws) : Γ u z pc lv st ws := by
  obtain ⟨p, e, s, m, args, below, meth, c, A, Q, ⟨hx, hb, hml, ho, hts, hK, hA, hN, hO⟩, rfl, hin, hr⟩ := h
  intro H locs ls hl hP hD hS
  exact lv_lload hx hb d (hl.2 _ _ hv) (k H locs ls hl hP hD hS)
theorem g_aload_n {Γ : gT} {l : Launch} {R : Room} {cc : ByteArray} {nL : Nat} {own : String} {E : gE} {ret : Option FieldType} {init : Bool} {post : Option Value → Nat → Nat → va_W → Prop} {u z pc : Nat} {lv : gLV} {st : List Value} {ws : va_W} (h : IsG Γ l R cc nL own E ret init post) {k0 : Fin 4} {x : Nat} (d : decode cc pc = .ok (.aload_n k0, 1)) (hv : lv[(k0 : Nat)]? = some (some (.ref x))) (k : Γ u z (pc + 1) lv (.ref x :: st) ws) : Γ u z pc lv st ws := by
  obtain ⟨p, e, s, m, args, below, meth, c, A, Q, ⟨hx, hb, hml, ho, hts, hK, hA, hN, hO⟩, rfl, hin, hr⟩ := h
  intro H locs ls hl hP hD hS
  exact lv_aload_n hx hb d rfl (hl.2 _ _ hv) (k H locs ls hl hP hD hS)
theorem g_aload {Γ : gT} {l : Launch} {R : Room} {cc : ByteArray} {nL : Nat} {own : String} {E : gE} {ret : Option FieldType} {init : Bool} {post : Option Value → Nat → Nat → va_W → Prop} {u z pc : Nat} {lv : gLV} {st : List Value} {ws : va_W} (h : IsG Γ l R cc nL own E ret init post) {i : Nat} {x : Nat} (d : decode cc pc = .ok (.aload i, 2)) (hv : lv[i]? = some (some (.ref x))) (k : Γ u z (pc + 2) lv (.ref x :: st) ws) : Γ u z pc lv st ws := by
  obtain ⟨p, e, s, m, args, below, meth, c, A, Q, ⟨hx, hb, hml, ho, hts, hK, hA, hN, hO⟩, rfl, hin, hr⟩ := h
  intro H locs ls hl hP hD hS
  exact lv_aload hx hb d (hl.2 _ _ hv) (k H locs ls hl hP hD hS)
theorem g_istore_n {Γ : gT} {l : Launch} {R : Room} {cc : ByteArray} {nL : Nat} {own : String} {E : gE} {ret : Option FieldType} {init : Bool} {post : Option Value → Nat → Nat → va_W → Prop} {u z pc : Nat} {lv : gLV} {st : List Value} {ws : va_W} (h : IsG Γ l R cc nL own E ret init post) {lv' : gLV} {k0 : Fin 4} {x : Int32} (d : decode cc pc = .ok (.istore_n k0, 1)) (hn : (k0 : Nat) < nL) (he : gset1 lv (k0 : Nat) (.int x) = lv') (k : Γ u z (pc + 1) lv' st ws) : Γ u z pc lv (.int x :: st) ws := by
  obtain ⟨p, e, s, m, args, below, meth, c, A, Q, ⟨hx, hb, hml, ho, hts, hK, hA, hN, hO⟩, rfl, hin, hr⟩ := h
  intro H locs ls hl hP hD hS
  subst he
  exact lv_istore_n hx hb d rfl (gL_all hl) hn rfl (fun ls' h' => k H locs ls' (gL_set1 h') hP hD hS)
theorem g_istore {Γ : gT} {l : Launch} {R : Room} {cc : ByteArray} {nL : Nat} {own : String} {E : gE} {ret : Option FieldType} {init : Bool} {post : Option Value → Nat → Nat → va_W → Prop} {u z pc : Nat} {lv : gLV} {st : List Value} {ws : va_W} (h : IsG Γ l R cc nL own E ret init post) {lv' : gLV} {i : Nat} {x : Int32} (d : decode cc pc = .ok (.istore i, 2)) (hn : i < nL) (he : gset1 lv i (.int x) = lv') (k : Γ u z (pc + 2) lv' st ws) : Γ u z pc lv (.int x :: st) ws := by
  obtain ⟨p, e, s, m, args, below, meth, c, A, Q, ⟨hx, hb, hml, ho, hts, hK, hA, hN, hO⟩, rfl, hin, hr⟩ := h
  intro H locs ls hl hP hD hS
  subst he
  exact lv_istore hx hb d (gL_all hl) hn rfl (fun ls' h' => k H locs ls' (gL_set1 h') hP hD hS)
theorem g_lstore_n {Γ : gT} {l : Launch} {R : Room} {cc : ByteArray} {nL : Nat} {own : String} {E : gE} {ret : Option FieldType} {init : Bool} {post : Option Value → Nat → Nat → va_W → Prop} {u z pc : Nat} {lv : gLV} {st : List Value} {ws : va_W} (h : IsG Γ l R cc nL own E ret init post) {lv' : gLV} {k0 : Fin 4} {x : Int64} (d : decode cc pc = .ok (.lstore_n k0, 1)) (hn : (k0 : Nat) + 1 < nL) (he : gset2 lv (k0 : Nat) (.long x) = lv') (k : Γ u z (pc + 1) lv' st ws) : Γ u z pc lv (.long x :: st) ws := by
  obtain ⟨p, e, s, m, args, below, meth, c, A, Q, ⟨hx, hb, hml, ho, hts, hK, hA, hN, hO⟩, rfl, hin, hr⟩ := h
  intro H locs ls hl hP hD hS
  subst he
  exact lv_lstore_n hx hb d rfl (gL_all hl) hn rfl (fun ls' h' => k H locs ls' (gL_set2 h') hP hD hS)
theorem g_lstore {Γ : gT} {l : Launch} {R : Room} {cc : ByteArray} {nL : Nat} {own : String} {E : gE} {ret : Option FieldType} {init : Bool} {post : Option Value → Nat → Nat → va_W → Prop} {u z pc : Nat} {lv : gLV} {st : List Value} {ws : va_W} (h : IsG Γ l R cc nL own E ret init post) {lv' : gLV} {i : Nat} {x : Int64} (d : decode cc pc = .ok (.lstore i, 2)) (hn : i + 1 < nL) (he : gset2 lv i (.long x) = lv') (k : Γ u z (pc + 2) lv' st ws) : Γ u z pc lv (.long x :: st) ws := by
  obtain ⟨p, e, s, m, args, below, meth, c, A, Q, ⟨hx, hb, hml, ho, hts, hK, hA, hN, hO⟩, rfl, hin, hr⟩ := h
  intro H locs ls hl hP hD hS
  subst he
  exact lv_lstore hx hb d (gL_all hl) hn rfl (fun ls' h' => k H locs ls' (gL_set2 h') hP hD hS)
theorem g_astore_n {Γ : gT} {l : Launch} {R : Room} {cc : ByteArray} {nL : Nat} {own : String} {E : gE} {ret : Option FieldType} {init : Bool} {post : Option Value → Nat → Nat → va_W → Prop} {u z pc : Nat} {lv : gLV} {st : List Value} {ws : va_W} (h : IsG Γ l R cc nL own E ret init post) {lv' : gLV} {k0 : Fin 4} {x : Nat} (d : decode cc pc = .ok (.astore_n k0, 1)) (hn : (k0 : Nat) < nL) (he : gset1 lv (k0 : Nat) (.ref x) = lv') (k : Γ u z (pc + 1) lv' st ws) : Γ u z pc lv (.ref x :: st) ws := by
  obtain ⟨p, e, s, m, args, below, meth, c, A, Q, ⟨hx, hb, hml, ho, hts, hK, hA, hN, hO⟩, rfl, hin, hr⟩ := h
  intro H locs ls hl hP hD hS
  subst he
  exact lv_astore_n hx hb d rfl (gL_all hl) hn rfl (fun ls' h' => k H locs ls' (gL_set1 h') hP hD hS)
theorem g_astore {Γ : gT} {l : Launch} {R : Room} {cc : ByteArray} {nL : Nat} {own : String} {E : gE} {ret : Option FieldType} {init : Bool} {post : Option Value → Nat → Nat → va_W → Prop} {u z pc : Nat} {lv : gLV} {st : List Value} {ws : va_W} (h : IsG Γ l R cc nL own E ret init post) {lv' : gLV} {i : Nat} {x : Nat} (d : decode cc pc = .ok (.astore i, 2)) (hn : i < nL) (he : gset1 lv i (.ref x) = lv') (k : Γ u z (pc + 2) lv' st ws) : Γ u z pc lv (.ref x :: st) ws := by
  obtain ⟨p, e, s, m, args, below, meth, c, A, Q, ⟨hx, hb, hml, ho, hts, hK, hA, hN, hO⟩, rfl, hin, hr⟩ := h
  intro H locs ls hl hP hD hS
  subst he
  exact lv_astore hx hb d (gL_all hl) hn rfl (fun ls' h' => k H locs ls' (gL_set1 h') hP hD hS)
theorem g_nth {α : Type} {l : List α} {a : α} (h : a ∈ l) : ∃ k : Nat, l[k]? = some a := List.getElem?_of_mem h
theorem g_iinc {Γ : gT} {l : Launch} {R : Room} {cc : ByteArray} {nL : Nat} {own : String} {E : gE} {ret : Option FieldType} {init : Bool} {post : Option Value → Nat → Nat → va_W → Prop} {u z pc : Nat} {lv : gLV} {st : List Value} {ws : va_W} (h : IsG Γ l R cc nL own E ret init post) {lv' : gLV} {i : Nat} {n : Int} {x v : Int32} (d : decode cc pc = .ok (.iinc i n, 3)) (hg : lv[i]? = some (some (.int x))) (hv : x + Int32.ofInt n = v) (hn : i < nL) (he : gset1 lv i (.int v) = lv') (k : Γ u z (pc + 3) lv' st ws) : Γ u z pc lv st ws := by
  obtain ⟨p, e, s, m, args, below, meth, c, A, Q, ⟨hx, hb, hml, ho, hts, hK, hA, hN, hO⟩, rfl, hin, hr⟩ := h
  intro H locs ls hl hP hD hS
  subst he
  obtain ⟨k0, hk0⟩ := g_nth (gpairs_of lv 0 i _ hg)
  rw [Nat.zero_add] at hk0
  exact lv_iinc hx hb d (gL_all hl) hk0 hv hn rfl (fun ls' h' => k H locs ls' (gL_set1 h') hP hD hS)
theorem g_iadd {Γ : gT} {l : Launch} {R : Room} {cc : ByteArray} {nL : Nat} {own : String} {E : gE} {ret : Option FieldType} {init : Bool} {post : Option Value → Nat → Nat → va_W → Prop} {u z pc : Nat} {lv : gLV} {st : List Value} {ws : va_W} (h : IsG Γ l R cc nL own E ret init post) {x y : Int32} (d : decode cc pc = .ok (.iadd, 1)) (k : Γ u z (pc + 1) lv (.int (x + y) :: st) ws) : Γ u z pc lv (.int y :: .int x :: st) ws := by
  obtain ⟨p, e, s, m, args, below, meth, c, A, Q, ⟨hx, hb, hml, ho, hts, hK, hA, hN, hO⟩, rfl, hin, hr⟩ := h
  intro H locs ls hl hP hD hS
  exact lv_iadd hx hb d (k H locs ls hl hP hD hS)
theorem g_isub {Γ : gT} {l : Launch} {R : Room} {cc : ByteArray} {nL : Nat} {own : String} {E : gE} {ret : Option FieldType} {init : Bool} {post : Option Value → Nat → Nat → va_W → Prop} {u z pc : Nat} {lv : gLV} {st : List Value} {ws : va_W} (h : IsG Γ l R cc nL own E ret init post) {x y : Int32} (d : decode cc pc = .ok (.isub, 1)) (k : Γ u z (pc + 1) lv (.int (x - y) :: st) ws) : Γ u z pc lv (.int y :: .int x :: st) ws := by
  obtain ⟨p, e, s, m, args, below, meth, c, A, Q, ⟨hx, hb, hml, ho, hts, hK, hA, hN, hO⟩, rfl, hin, hr⟩ := h
  intro H locs ls hl hP hD hS
  exact lv_isub hx hb d (k H locs ls hl hP hD hS)
theorem g_imul {Γ : gT} {l : Launch} {R : Room} {cc : ByteArray} {nL : Nat} {own : String} {E : gE} {ret : Option FieldType} {init : Bool} {post : Option Value → Nat → Nat → va_W → Prop} {u z pc : Nat} {lv : gLV} {st : List Value} {ws : va_W} (h : IsG Γ l R cc nL own E ret init post) {x y : Int32} (d : decode cc pc = .ok (.imul, 1)) (k : Γ u z (pc + 1) lv (.int (x * y) :: st) ws) : Γ u z pc lv (.int y :: .int x :: st) ws := by
  obtain ⟨p, e, s, m, args, below, meth, c, A, Q, ⟨hx, hb, hml, ho, hts, hK, hA, hN, hO⟩, rfl, hin, hr⟩ := h
  intro H locs ls hl hP hD hS
  exact lv_imul hx hb d (k H locs ls hl hP hD hS)
theorem g_iand {Γ : gT} {l : Launch} {R : Room} {cc : ByteArray} {nL : Nat} {own : String} {E : gE} {ret : Option FieldType} {init : Bool} {post : Option Value → Nat → Nat → va_W → Prop} {u z pc : Nat} {lv : gLV} {st : List Value} {ws : va_W} (h : IsG Γ l R cc nL own E ret init post) {x y : Int32} (d : decode cc pc = .ok (.iand, 1)) (k : Γ u z (pc + 1) lv (.int (x &&& y) :: st) ws) : Γ u z pc lv (.int y :: .int x :: st) ws := by
  obtain ⟨p, e, s, m, args, below, meth, c, A, Q, ⟨hx, hb, hml, ho, hts, hK, hA, hN, hO⟩, rfl, hin, hr⟩ := h
  intro H locs ls hl hP hD hS
  exact lv_iand hx hb d (k H locs ls hl hP hD hS)
theorem g_ior {Γ : gT} {l : Launch} {R : Room} {cc : ByteArray} {nL : Nat} {own : String} {E : gE} {ret : Option FieldType} {init : Bool} {post : Option Value → Nat → Nat → va_W → Prop} {u z pc : Nat} {lv : gLV} {st : List Value} {ws : va_W} (h : IsG Γ l R cc nL own E ret init post) {x y : Int32} (d : decode cc pc = .ok (.ior, 1)) (k : Γ u z (pc + 1) lv (.int (x ||| y) :: st) ws) : Γ u z pc lv (.int y :: .int x :: st) ws := by
  obtain ⟨p, e, s, m, args, below, meth, c, A, Q, ⟨hx, hb, hml, ho, hts, hK, hA, hN, hO⟩, rfl, hin, hr⟩ := h
  intro H locs ls hl hP hD hS
  exact lv_ior hx hb d (k H locs ls hl hP hD hS)
theorem g_ixor {Γ : gT} {l : Launch} {R : Room} {cc : ByteArray} {nL : Nat} {own : String} {E : gE} {ret : Option FieldType} {init : Bool} {post : Option Value → Nat → Nat → va_W → Prop} {u z pc : Nat} {lv : gLV} {st : List Value} {ws : va_W} (h : IsG Γ l R cc nL own E ret init post) {x y : Int32} (d : decode cc pc = .ok (.ixor, 1)) (k : Γ u z (pc + 1) lv (.int (x ^^^ y) :: st) ws) : Γ u z pc lv (.int y :: .int x :: st) ws := by
  obtain ⟨p, e, s, m, args, below, meth, c, A, Q, ⟨hx, hb, hml, ho, hts, hK, hA, hN, hO⟩, rfl, hin, hr⟩ := h
  intro H locs ls hl hP hD hS
  exact lv_ixor hx hb d (k H locs ls hl hP hD hS)
theorem g_ishl {Γ : gT} {l : Launch} {R : Room} {cc : ByteArray} {nL : Nat} {own : String} {E : gE} {ret : Option FieldType} {init : Bool} {post : Option Value → Nat → Nat → va_W → Prop} {u z pc : Nat} {lv : gLV} {st : List Value} {ws : va_W} (h : IsG Γ l R cc nL own E ret init post) {x y : Int32} (d : decode cc pc = .ok (.ishl, 1)) (k : Γ u z (pc + 1) lv (.int (x <<< (y &&& 31)) :: st) ws) : Γ u z pc lv (.int y :: .int x :: st) ws := by
  obtain ⟨p, e, s, m, args, below, meth, c, A, Q, ⟨hx, hb, hml, ho, hts, hK, hA, hN, hO⟩, rfl, hin, hr⟩ := h
  intro H locs ls hl hP hD hS
  exact lv_ishl hx hb d (k H locs ls hl hP hD hS)
theorem g_ishr {Γ : gT} {l : Launch} {R : Room} {cc : ByteArray} {nL : Nat} {own : String} {E : gE} {ret : Option FieldType} {init : Bool} {post : Option Value → Nat → Nat → va_W → Prop} {u z pc : Nat} {lv : gLV} {st : List Value} {ws : va_W} (h : IsG Γ l R cc nL own E ret init post) {x y : Int32} (d : decode cc pc = .ok (.ishr, 1)) (k : Γ u z (pc + 1) lv (.int (x >>> (y &&& 31)) :: st) ws) : Γ u z pc lv (.int y :: .int x :: st) ws := by
  obtain ⟨p, e, s, m, args, below, meth, c, A, Q, ⟨hx, hb, hml, ho, hts, hK, hA, hN, hO⟩, rfl, hin, hr⟩ := h
  intro H locs ls hl hP hD hS
  exact lv_ishr hx hb d (k H locs ls hl hP hD hS)
theorem g_idiv {Γ : gT} {l : Launch} {R : Room} {cc : ByteArray} {nL : Nat} {own : String} {E : gE} {ret : Option FieldType} {init : Bool} {post : Option Value → Nat → Nat → va_W → Prop} {u z pc : Nat} {lv : gLV} {st : List Value} {ws : va_W} (h : IsG Γ l R cc nL own E ret init post) {x y : Int32} (d : decode cc pc = .ok (.idiv, 1)) (hne : ¬ y = 0) (k : Γ u z (pc + 1) lv (.int (x / y) :: st) ws) : Γ u z pc lv (.int y :: .int x :: st) ws := by
  obtain ⟨p, e, s, m, args, below, meth, c, A, Q, ⟨hx, hb, hml, ho, hts, hK, hA, hN, hO⟩, rfl, hin, hr⟩ := h
  intro H locs ls hl hP hD hS
  exact lv_idiv hx hb d hne (k H locs ls hl hP hD hS)
theorem g_irem {Γ : gT} {l : Launch} {R : Room} {cc : ByteArray} {nL : Nat} {own : String} {E : gE} {ret : Option FieldType} {init : Bool} {post : Option Value → Nat → Nat → va_W → Prop} {u z pc : Nat} {lv : gLV} {st : List Value} {ws : va_W} (h : IsG Γ l R cc nL own E ret init post) {x y : Int32} (d : decode cc pc = .ok (.irem, 1)) (hne : ¬ y = 0) (k : Γ u z (pc + 1) lv (.int (x - x / y * y) :: st) ws) : Γ u z pc lv (.int y :: .int x :: st) ws := by
  obtain ⟨p, e, s, m, args, below, meth, c, A, Q, ⟨hx, hb, hml, ho, hts, hK, hA, hN, hO⟩, rfl, hin, hr⟩ := h
  intro H locs ls hl hP hD hS
  exact lv_irem hx hb d hne (k H locs ls hl hP hD hS)
theorem g_ineg {Γ : gT} {l : Launch} {R : Room} {cc : ByteArray} {nL : Nat} {own : String} {E : gE} {ret : Option FieldType} {init : Bool} {post : Option Value → Nat → Nat → va_W → Prop} {u z pc : Nat} {lv : gLV} {st : List Value} {ws : va_W} (h : IsG Γ l R cc nL own E ret init post) {x : Int32} (d : decode cc pc = .ok (.ineg, 1)) (k : Γ u z (pc + 1) lv (.int (-x) :: st) ws) : Γ u z pc lv (.int x :: st) ws := by
  obtain ⟨p, e, s, m, args, below, meth, c, A, Q, ⟨hx, hb, hml, ho, hts, hK, hA, hN, hO⟩, rfl, hin, hr⟩ := h
  intro H locs ls hl hP hD hS
  exact lv_ineg hx hb d (k H locs ls hl hP hD hS)
theorem g_iushr {Γ : gT} {l : Launch} {R : Room} {cc : ByteArray} {nL : Nat} {own : String} {E : gE} {ret : Option FieldType} {init : Bool} {post : Option Value → Nat → Nat → va_W → Prop} {u z pc : Nat} {lv : gLV} {st : List Value} {ws : va_W} (h : IsG Γ l R cc nL own E ret init post) {x y : Int32} (d : decode cc pc = .ok (.iushr, 1)) (k : Γ u z (pc + 1) lv (.int ((x.toUInt32 >>> (y.toUInt32 &&& Int32.toUInt32 31)).toInt32) :: st) ws) : Γ u z pc lv (.int y :: .int x :: st) ws := by
  obtain ⟨p, e, s, m, args, below, meth, c, A, Q, ⟨hx, hb, hml, ho, hts, hK, hA, hN, hO⟩, rfl, hin, hr⟩ := h
  intro H locs ls hl hP hD hS
  exact lv_iushr hx hb d rfl (k H locs ls hl hP hD hS)
theorem g_ladd {Γ : gT} {l : Launch} {R : Room} {cc : ByteArray} {nL : Nat} {own : String} {E : gE} {ret : Option FieldType} {init : Bool} {post : Option Value → Nat → Nat → va_W → Prop} {u z pc : Nat} {lv : gLV} {st : List Value} {ws : va_W} (h : IsG Γ l R cc nL own E ret init post) {x y : Int64} (d : decode cc pc = .ok (.ladd, 1)) (k : Γ u z (pc + 1) lv (.long (x + y) :: st) ws) : Γ u z pc lv (.long y :: .long x :: st) ws := by
  obtain ⟨p, e, s, m, args, below, meth, c, A, Q, ⟨hx, hb, hml, ho, hts, hK, hA, hN, hO⟩, rfl, hin, hr⟩ := h
  intro H locs ls hl hP hD hS
  exact lv_ladd hx hb d (k H locs ls hl hP hD hS)
theorem g_lsub {Γ : gT} {l : Launch} {R : Room} {cc : ByteArray} {nL : Nat} {own : String} {E : gE} {ret : Option FieldType} {init : Bool} {post : Option Value → Nat → Nat → va_W → Prop} {u z pc : Nat} {lv : gLV} {st : List Value} {ws : va_W} (h : IsG Γ l R cc nL own E ret init post) {x y : Int64} (d : decode cc pc = .ok (.lsub, 1)) (k : Γ u z (pc + 1) lv (.long (x - y) :: st) ws) : Γ u z pc lv (.long y :: .long x :: st) ws := by
  obtain ⟨p, e, s, m, args, below, meth, c, A, Q, ⟨hx, hb, hml, ho, hts, hK, hA, hN, hO⟩, rfl, hin, hr⟩ := h
  intro H locs ls hl hP hD hS
  exact lv_lsub hx hb d (k H locs ls hl hP hD hS)
theorem g_lmul {Γ : gT} {l : Launch} {R : Room} {cc : ByteArray} {nL : Nat} {own : String} {E : gE} {ret : Option FieldType} {init : Bool} {post : Option Value → Nat → Nat → va_W → Prop} {u z pc : Nat} {lv : gLV} {st : List Value} {ws : va_W} (h : IsG Γ l R cc nL own E ret init post) {x y : Int64} (d : decode cc pc = .ok (.lmul, 1)) (k : Γ u z (pc + 1) lv (.long (x * y) :: st) ws) : Γ u z pc lv (.long y :: .long x :: st) ws := by
  obtain ⟨p, e, s, m, args, below, meth, c, A, Q, ⟨hx, hb, hml, ho, hts, hK, hA, hN, hO⟩, rfl, hin, hr⟩ := h
  intro H locs ls hl hP hD hS
  exact lv_lmul hx hb d (k H locs ls hl hP hD hS)
theorem g_land {Γ : gT} {l : Launch} {R : Room} {cc : ByteArray} {nL : Nat} {own : String} {E : gE} {ret : Option FieldType} {init : Bool} {post : Option Value → Nat → Nat → va_W → Prop} {u z pc : Nat} {lv : gLV} {st : List Value} {ws : va_W} (h : IsG Γ l R cc nL own E ret init post) {x y : Int64} (d : decode cc pc = .ok (.land, 1)) (k : Γ u z (pc + 1) lv (.long (x &&& y) :: st) ws) : Γ u z pc lv (.long y :: .long x :: st) ws := by
  obtain ⟨p, e, s, m, args, below, meth, c, A, Q, ⟨hx, hb, hml, ho, hts, hK, hA, hN, hO⟩, rfl, hin, hr⟩ := h
  intro H locs ls hl hP hD hS
  exact lv_land hx hb d (k H locs ls hl hP hD hS)
theorem g_lor {Γ : gT} {l : Launch} {R : Room} {cc : ByteArray} {nL : Nat} {own : String} {E : gE} {ret : Option FieldType} {init : Bool} {post : Option Value → Nat → Nat → va_W → Prop} {u z pc : Nat} {lv : gLV} {st : List Value} {ws : va_W} (h : IsG Γ l R cc nL own E ret init post) {x y : Int64} (d : decode cc pc = .ok (.lor, 1)) (k : Γ u z (pc + 1) lv (.long (x ||| y) :: st) ws) : Γ u z pc lv (.long y :: .long x :: st) ws := by
  obtain ⟨p, e, s, m, args, below, meth, c, A, Q, ⟨hx, hb, hml, ho, hts, hK, hA, hN, hO⟩, rfl, hin, hr⟩ := h
  intro H locs ls hl hP hD hS
  exact lv_lor hx hb d (k H locs ls hl hP hD hS)
theorem g_lxor {Γ : gT} {l : Launch} {R : Room} {cc : ByteArray} {nL : Nat} {own : String} {E : gE} {ret : Option FieldType} {init : Bool} {post : Option Value → Nat → Nat → va_W → Prop} {u z pc : Nat} {lv : gLV} {st : List Value} {ws : va_W} (h : IsG Γ l R cc nL own E ret init post) {x y : Int64} (d : decode cc pc = .ok (.lxor, 1)) (k : Γ u z (pc + 1) lv (.long (x ^^^ y) :: st) ws) : Γ u z pc lv (.long y :: .long x :: st) ws := by
  obtain ⟨p, e, s, m, args, below, meth, c, A, Q, ⟨hx, hb, hml, ho, hts, hK, hA, hN, hO⟩, rfl, hin, hr⟩ := h
  intro H locs ls hl hP hD hS
  exact lv_lxor hx hb d (k H locs ls hl hP hD hS)
theorem g_ldiv {Γ : gT} {l : Launch} {R : Room} {cc : ByteArray} {nL : Nat} {own : String} {E : gE} {ret : Option FieldType} {init : Bool} {post : Option Value → Nat → Nat → va_W → Prop} {u z pc : Nat} {lv : gLV} {st : List Value} {ws : va_W} (h : IsG Γ l R cc nL own E ret init post) {x y : Int64} (d : decode cc pc = .ok (.ldiv, 1)) (hne : ¬ y = 0) (k : Γ u z (pc + 1) lv (.long (x / y) :: st) ws) : Γ u z pc lv (.long y :: .long x :: st) ws := by
  obtain ⟨p, e, s, m, args, below, meth, c, A, Q, ⟨hx, hb, hml, ho, hts, hK, hA, hN, hO⟩, rfl, hin, hr⟩ := h
  intro H locs ls hl hP hD hS
  exact lv_ldiv hx hb d hne (k H locs ls hl hP hD hS)
theorem g_lrem {Γ : gT} {l : Launch} {R : Room} {cc : ByteArray} {nL : Nat} {own : String} {E : gE} {ret : Option FieldType} {init : Bool} {post : Option Value → Nat → Nat → va_W → Prop} {u z pc : Nat} {lv : gLV} {st : List Value} {ws : va_W} (h : IsG Γ l R cc nL own E ret init post) {x y : Int64} (d : decode cc pc = .ok (.lrem, 1)) (hne : ¬ y = 0) (k : Γ u z (pc + 1) lv (.long (x - x / y * y) :: st) ws) : Γ u z pc lv (.long y :: .long x :: st) ws := by
  obtain ⟨p, e, s, m, args, below, meth, c, A, Q, ⟨hx, hb, hml, ho, hts, hK, hA, hN, hO⟩, rfl, hin, hr⟩ := h
  intro H locs ls hl hP hD hS
  exact lv_lrem hx hb d hne (k H locs ls hl hP hD hS)
theorem g_lneg {Γ : gT} {l : Launch} {R : Room} {cc : ByteArray} {nL : Nat} {own : String} {E : gE} {ret : Option FieldType} {init : Bool} {post : Option Value → Nat → Nat → va_W → Prop} {u z pc : Nat} {lv : gLV} {st : List Value} {ws : va_W} (h : IsG Γ l R cc nL own E ret init post) {x : Int64} (d : decode cc pc = .ok (.lneg, 1)) (k : Γ u z (pc + 1) lv (.long (-x) :: st) ws) : Γ u z pc lv (.long x :: st) ws := by
  obtain ⟨p, e, s, m, args, below, meth, c, A, Q, ⟨hx, hb, hml, ho, hts, hK, hA, hN, hO⟩, rfl, hin, hr⟩ := h
  intro H locs ls hl hP hD hS
  exact lv_lneg hx hb d (k H locs ls hl hP hD hS)
theorem g_lshl {Γ : gT} {l : Launch} {R : Room} {cc : ByteArray} {nL : Nat} {own : String} {E : gE} {ret : Option FieldType} {init : Bool} {post : Option Value → Nat → Nat → va_W → Prop} {u z pc : Nat} {lv : gLV} {st : List Value} {ws : va_W} (h : IsG Γ l R cc nL own E ret init post) {x : Int64} {y : Int32} (d : decode cc pc = .ok (.lshl, 1)) (k : Γ u z (pc + 1) lv (.long (x <<< (y.toInt64 &&& 63)) :: st) ws) : Γ u z pc lv (.int y :: .long x :: st) ws := by
  obtain ⟨p, e, s, m, args, below, meth, c, A, Q, ⟨hx, hb, hml, ho, hts, hK, hA, hN, hO⟩, rfl, hin, hr⟩ := h
  intro H locs ls hl hP hD hS
  exact lv_lshl hx hb d rfl (k H locs ls hl hP hD hS)
theorem g_i2l {Γ : gT} {l : Launch} {R : Room} {cc : ByteArray} {nL : Nat} {own : String} {E : gE} {ret : Option FieldType} {init : Bool} {post : Option Value → Nat → Nat → va_W → Prop} {u z pc : Nat} {lv : gLV} {st : List Value} {ws : va_W} (h : IsG Γ l R cc nL own E ret init post) {x : Int32} (d : decode cc pc = .ok (.i2l, 1)) (k : Γ u z (pc + 1) lv (.long x.toInt64 :: st) ws) : Γ u z pc lv (.int x :: st) ws := by
  obtain ⟨p, e, s, m, args, below, meth, c, A, Q, ⟨hx, hb, hml, ho, hts, hK, hA, hN, hO⟩, rfl, hin, hr⟩ := h
  intro H locs ls hl hP hD hS
  exact lv_i2l hx hb d rfl (k H locs ls hl hP hD hS)
theorem g_l2i {Γ : gT} {l : Launch} {R : Room} {cc : ByteArray} {nL : Nat} {own : String} {E : gE} {ret : Option FieldType} {init : Bool} {post : Option Value → Nat → Nat → va_W → Prop} {u z pc : Nat} {lv : gLV} {st : List Value} {ws : va_W} (h : IsG Γ l R cc nL own E ret init post) {x : Int64} (d : decode cc pc = .ok (.l2i, 1)) (k : Γ u z (pc + 1) lv (.int x.toInt32 :: st) ws) : Γ u z pc lv (.long x :: st) ws := by
  obtain ⟨p, e, s, m, args, below, meth, c, A, Q, ⟨hx, hb, hml, ho, hts, hK, hA, hN, hO⟩, rfl, hin, hr⟩ := h
  intro H locs ls hl hP hD hS
  exact lv_l2i hx hb d rfl (k H locs ls hl hP hD hS)
theorem g_i2s {Γ : gT} {l : Launch} {R : Room} {cc : ByteArray} {nL : Nat} {own : String} {E : gE} {ret : Option FieldType} {init : Bool} {post : Option Value → Nat → Nat → va_W → Prop} {u z pc : Nat} {lv : gLV} {st : List Value} {ws : va_W} (h : IsG Γ l R cc nL own E ret init post) {x : Int32} (d : decode cc pc = .ok (.i2s, 1)) (k : Γ u z (pc + 1) lv (.int x.toInt16.toInt32 :: st) ws) : Γ u z pc lv (.int x :: st) ws := by
  obtain ⟨p, e, s, m, args, below, meth, c, A, Q, ⟨hx, hb, hml, ho, hts, hK, hA, hN, hO⟩, rfl, hin, hr⟩ := h
  intro H locs ls hl hP hD hS
  exact lv_i2s hx hb d rfl (k H locs ls hl hP hD hS)
theorem g_lcmp {Γ : gT} {l : Launch} {R : Room} {cc : ByteArray} {nL : Nat} {own : String} {E : gE} {ret : Option FieldType} {init : Bool} {post : Option Value → Nat → Nat → va_W → Prop} {u z pc : Nat} {lv : gLV} {st : List Value} {ws : va_W} (h : IsG Γ l R cc nL own E ret init post) {x y : Int64} (d : decode cc pc = .ok (.lcmp, 1)) (k : Γ u z (pc + 1) lv (.int (lg_cmp x y) :: st) ws) : Γ u z pc lv (.long y :: .long x :: st) ws := by
  obtain ⟨p, e, s, m, args, below, meth, c, A, Q, ⟨hx, hb, hml, ho, hts, hK, hA, hN, hO⟩, rfl, hin, hr⟩ := h
  intro H locs ls hl hP hD hS
  exact W.lcmp hx hb d (k H locs ls hl hP hD hS)
theorem g_dup {Γ : gT} {l : Launch} {R : Room} {cc : ByteArray} {nL : Nat} {own : String} {E : gE} {ret : Option FieldType} {init : Bool} {post : Option Value → Nat → Nat → va_W → Prop} {u z pc : Nat} {lv : gLV} {st : List Value} {ws : va_W} (h : IsG Γ l R cc nL own E ret init post) {a : Value} (d : decode cc pc = .ok (.dup, 1)) (ha : a.category = 1) (k : Γ u z (pc + 1) lv (a :: a :: st) ws) : Γ u z pc lv (a :: st) ws := by
  obtain ⟨p, e, s, m, args, below, meth, c, A, Q, ⟨hx, hb, hml, ho, hts, hK, hA, hN, hO⟩, rfl, hin, hr⟩ := h
  intro H locs ls hl hP hD hS
  exact lv_dup hx hb d ha (k H locs ls hl hP hD hS)
theorem g_pop {Γ : gT} {l : Launch} {R : Room} {cc : ByteArray} {nL : Nat} {own : String} {E : gE} {ret : Option FieldType} {init : Bool} {post : Option Value → Nat → Nat → va_W → Prop} {u z pc : Nat} {lv : gLV} {st : List Value} {ws : va_W} (h : IsG Γ l R cc nL own E ret init post) {a : Value} (d : decode cc pc = .ok (.pop, 1)) (ha : a.category = 1) (k : Γ u z (pc + 1) lv st ws) : Γ u z pc lv (a :: st) ws := by
  obtain ⟨p, e, s, m, args, below, meth, c, A, Q, ⟨hx, hb, hml, ho, hts, hK, hA, hN, hO⟩, rfl, hin, hr⟩ := h
  intro H locs ls hl hP hD hS
  exact lv_pop hx hb d ha (k H locs ls hl hP hD hS)
theorem g_dup2_11 {Γ : gT} {l : Launch} {R : Room} {cc : ByteArray} {nL : Nat} {own : String} {E : gE} {ret : Option FieldType} {init : Bool} {post : Option Value → Nat → Nat → va_W → Prop} {u z pc : Nat} {lv : gLV} {st : List Value} {ws : va_W} (h : IsG Γ l R cc nL own E ret init post) {a b : Value} (d : decode cc pc = .ok (.dup2, 1)) (ha : a.category = 1) (hb2 : b.category = 1) (k : Γ u z (pc + 1) lv (a :: b :: a :: b :: st) ws) : Γ u z pc lv (a :: b :: st) ws := by
  obtain ⟨p, e, s, m, args, below, meth, c, A, Q, ⟨hx, hb, hml, ho, hts, hK, hA, hN, hO⟩, rfl, hin, hr⟩ := h
  intro H locs ls hl hP hD hS
  exact lv_dup2_11 hx hb d ha hb2 (k H locs ls hl hP hD hS)
theorem g_dup2_2 {Γ : gT} {l : Launch} {R : Room} {cc : ByteArray} {nL : Nat} {own : String} {E : gE} {ret : Option FieldType} {init : Bool} {post : Option Value → Nat → Nat → va_W → Prop} {u z pc : Nat} {lv : gLV} {st : List Value} {ws : va_W} (h : IsG Γ l R cc nL own E ret init post) {a : Value} (d : decode cc pc = .ok (.dup2, 1)) (ha : a.category = 2) (k : Γ u z (pc + 1) lv (a :: a :: st) ws) : Γ u z pc lv (a :: st) ws := by
  obtain ⟨p, e, s, m, args, below, meth, c, A, Q, ⟨hx, hb, hml, ho, hts, hK, hA, hN, hO⟩, rfl, hin, hr⟩ := h
  intro H locs ls hl hP hD hS
  exact lv_dup2_2 hx hb d ha (k H locs ls hl hP hD hS)
theorem g_if_eq {Γ : gT} {l : Launch} {R : Room} {cc : ByteArray} {nL : Nat} {own : String} {E : gE} {ret : Option FieldType} {init : Bool} {post : Option Value → Nat → Nat → va_W → Prop} {u z pc : Nat} {lv : gLV} {st : List Value} {ws : va_W} (h : IsG Γ l R cc nL own E ret init post) {x : Int32} {off : Int} {tgt : Nat} (d : decode cc pc = .ok (.ifCond .eq off, 3)) (ht : (pc : Int) + off = (tgt : Int)) (kt : x = 0 → Γ u z tgt lv st ws) (kf : ¬ x = 0 → Γ u z (pc + 3) lv st ws) : Γ u z pc lv (.int x :: st) ws := by
  obtain ⟨p, e, s, m, args, below, meth, c, A, Q, ⟨hx, hb, hml, ho, hts, hK, hA, hN, hO⟩, rfl, hin, hr⟩ := h
  intro H locs ls hl hP hD hS
  exact lv_if_eq hx hb d ht (fun q => kt q H locs ls hl hP hD hS) (fun q => kf q H locs ls hl hP hD hS)
theorem g_ic_eq {Γ : gT} {l : Launch} {R : Room} {cc : ByteArray} {nL : Nat} {own : String} {E : gE} {ret : Option FieldType} {init : Bool} {post : Option Value → Nat → Nat → va_W → Prop} {u z pc : Nat} {lv : gLV} {st : List Value} {ws : va_W} (h : IsG Γ l R cc nL own E ret init post) {x y : Int32} {off : Int} {tgt : Nat} (d : decode cc pc = .ok (.if_icmp .eq off, 3)) (ht : (pc : Int) + off = (tgt : Int)) (kt : x = y → Γ u z tgt lv st ws) (kf : ¬ x = y → Γ u z (pc + 3) lv st ws) : Γ u z pc lv (.int y :: .int x :: st) ws := by
  obtain ⟨p, e, s, m, args, below, meth, c, A, Q, ⟨hx, hb, hml, ho, hts, hK, hA, hN, hO⟩, rfl, hin, hr⟩ := h
  intro H locs ls hl hP hD hS
  exact lv_icmp_eq hx hb d ht (fun q => kt q H locs ls hl hP hD hS) (fun q => kf q H locs ls hl hP hD hS)
theorem g_lif_eq {Γ : gT} {l : Launch} {R : Room} {cc : ByteArray} {nL : Nat} {own : String} {E : gE} {ret : Option FieldType} {init : Bool} {post : Option Value → Nat → Nat → va_W → Prop} {u z pc : Nat} {lv : gLV} {st : List Value} {ws : va_W} (h : IsG Γ l R cc nL own E ret init post) {x y : Int64} {off : Int} {tgt : Nat} (d : decode cc pc = .ok (.ifCond .eq off, 3)) (ht : (pc : Int) + off = (tgt : Int)) (kt : x = y → Γ u z tgt lv st ws) (kf : ¬ x = y → Γ u z (pc + 3) lv st ws) : Γ u z pc lv (.int (lg_cmp x y) :: st) ws := by
  obtain ⟨p, e, s, m, args, below, meth, c, A, Q, ⟨hx, hb, hml, ho, hts, hK, hA, hN, hO⟩, rfl, hin, hr⟩ := h
  intro H locs ls hl hP hD hS
  exact lv_if_eq hx hb d ht (fun q => kt ((lg_cmp_eq x y).mp q) H locs ls hl hP hD hS) (fun q => kf (fun w => q ((lg_cmp_eq x y).mpr w)) H locs ls hl hP hD hS)
theorem g_if_ne {Γ : gT} {l : Launch} {R : Room} {cc : ByteArray} {nL : Nat} {own : String} {E : gE} {ret : Option FieldType} {init : Bool} {post : Option Value → Nat → Nat → va_W → Prop} {u z pc : Nat} {lv : gLV} {st : List Value} {ws : va_W} (h : IsG Γ l R cc nL own E ret init post) {x : Int32} {off : Int} {tgt : Nat} (d : decode cc pc = .ok (.ifCond .ne off, 3)) (ht : (pc : Int) + off = (tgt : Int)) (kt : ¬ x = 0 → Γ u z tgt lv st ws) (kf : x = 0 → Γ u z (pc + 3) lv st ws) : Γ u z pc lv (.int x :: st) ws := by
  obtain ⟨p, e, s, m, args, below, meth, c, A, Q, ⟨hx, hb, hml, ho, hts, hK, hA, hN, hO⟩, rfl, hin, hr⟩ := h
  intro H locs ls hl hP hD hS
  exact lv_if_ne hx hb d ht (fun q => kt q H locs ls hl hP hD hS) (fun q => kf q H locs ls hl hP hD hS)
theorem g_ic_ne {Γ : gT} {l : Launch} {R : Room} {cc : ByteArray} {nL : Nat} {own : String} {E : gE} {ret : Option FieldType} {init : Bool} {post : Option Value → Nat → Nat → va_W → Prop} {u z pc : Nat} {lv : gLV} {st : List Value} {ws : va_W} (h : IsG Γ l R cc nL own E ret init post) {x y : Int32} {off : Int} {tgt : Nat} (d : decode cc pc = .ok (.if_icmp .ne off, 3)) (ht : (pc : Int) + off = (tgt : Int)) (kt : ¬ x = y → Γ u z tgt lv st ws) (kf : x = y → Γ u z (pc + 3) lv st ws) : Γ u z pc lv (.int y :: .int x :: st) ws := by
  obtain ⟨p, e, s, m, args, below, meth, c, A, Q, ⟨hx, hb, hml, ho, hts, hK, hA, hN, hO⟩, rfl, hin, hr⟩ := h
  intro H locs ls hl hP hD hS
  exact lv_icmp_ne hx hb d ht (fun q => kt q H locs ls hl hP hD hS) (fun q => kf q H locs ls hl hP hD hS)
theorem g_lif_ne {Γ : gT} {l : Launch} {R : Room} {cc : ByteArray} {nL : Nat} {own : String} {E : gE} {ret : Option FieldType} {init : Bool} {post : Option Value → Nat → Nat → va_W → Prop} {u z pc : Nat} {lv : gLV} {st : List Value} {ws : va_W} (h : IsG Γ l R cc nL own E ret init post) {x y : Int64} {off : Int} {tgt : Nat} (d : decode cc pc = .ok (.ifCond .ne off, 3)) (ht : (pc : Int) + off = (tgt : Int)) (kt : ¬ x = y → Γ u z tgt lv st ws) (kf : x = y → Γ u z (pc + 3) lv st ws) : Γ u z pc lv (.int (lg_cmp x y) :: st) ws := by
  obtain ⟨p, e, s, m, args, below, meth, c, A, Q, ⟨hx, hb, hml, ho, hts, hK, hA, hN, hO⟩, rfl, hin, hr⟩ := h
  intro H locs ls hl hP hD hS
  exact lv_if_ne hx hb d ht (fun q => kt (fun w => q ((lg_cmp_eq x y).mpr w)) H locs ls hl hP hD hS) (fun q => kf ((lg_cmp_eq x y).mp q) H locs ls hl hP hD hS)
theorem g_if_lt {Γ : gT} {l : Launch} {R : Room} {cc : ByteArray} {nL : Nat} {own : String} {E : gE} {ret : Option FieldType} {init : Bool} {post : Option Value → Nat → Nat → va_W → Prop} {u z pc : Nat} {lv : gLV} {st : List Value} {ws : va_W} (h : IsG Γ l R cc nL own E ret init post) {x : Int32} {off : Int} {tgt : Nat} (d : decode cc pc = .ok (.ifCond .lt off, 3)) (ht : (pc : Int) + off = (tgt : Int)) (kt : x < 0 → Γ u z tgt lv st ws) (kf : ¬ x < 0 → Γ u z (pc + 3) lv st ws) : Γ u z pc lv (.int x :: st) ws := by
  obtain ⟨p, e, s, m, args, below, meth, c, A, Q, ⟨hx, hb, hml, ho, hts, hK, hA, hN, hO⟩, rfl, hin, hr⟩ := h
  intro H locs ls hl hP hD hS
  exact lv_if_lt hx hb d ht (fun q => kt q H locs ls hl hP hD hS) (fun q => kf q H locs ls hl hP hD hS)
theorem g_ic_lt {Γ : gT} {l : Launch} {R : Room} {cc : ByteArray} {nL : Nat} {own : String} {E : gE} {ret : Option FieldType} {init : Bool} {post : Option Value → Nat → Nat → va_W → Prop} {u z pc : Nat} {lv : gLV} {st : List Value} {ws : va_W} (h : IsG Γ l R cc nL own E ret init post) {x y : Int32} {off : Int} {tgt : Nat} (d : decode cc pc = .ok (.if_icmp .lt off, 3)) (ht : (pc : Int) + off = (tgt : Int)) (kt : x < y → Γ u z tgt lv st ws) (kf : ¬ x < y → Γ u z (pc + 3) lv st ws) : Γ u z pc lv (.int y :: .int x :: st) ws := by
  obtain ⟨p, e, s, m, args, below, meth, c, A, Q, ⟨hx, hb, hml, ho, hts, hK, hA, hN, hO⟩, rfl, hin, hr⟩ := h
  intro H locs ls hl hP hD hS
  exact lv_icmp_lt hx hb d ht (fun q => kt q H locs ls hl hP hD hS) (fun q => kf q H locs ls hl hP hD hS)
theorem g_lif_lt {Γ : gT} {l : Launch} {R : Room} {cc : ByteArray} {nL : Nat} {own : String} {E : gE} {ret : Option FieldType} {init : Bool} {post : Option Value → Nat → Nat → va_W → Prop} {u z pc : Nat} {lv : gLV} {st : List Value} {ws : va_W} (h : IsG Γ l R cc nL own E ret init post) {x y : Int64} {off : Int} {tgt : Nat} (d : decode cc pc = .ok (.ifCond .lt off, 3)) (ht : (pc : Int) + off = (tgt : Int)) (kt : x < y → Γ u z tgt lv st ws) (kf : ¬ x < y → Γ u z (pc + 3) lv st ws) : Γ u z pc lv (.int (lg_cmp x y) :: st) ws := by
  obtain ⟨p, e, s, m, args, below, meth, c, A, Q, ⟨hx, hb, hml, ho, hts, hK, hA, hN, hO⟩, rfl, hin, hr⟩ := h
  intro H locs ls hl hP hD hS
  exact lv_if_lt hx hb d ht (fun q => kt ((lg_cmp_lt x y).mp q) H locs ls hl hP hD hS) (fun q => kf (fun w => q ((lg_cmp_lt x y).mpr w)) H locs ls hl hP hD hS)
theorem g_if_ge {Γ : gT} {l : Launch} {R : Room} {cc : ByteArray} {nL : Nat} {own : String} {E : gE} {ret : Option FieldType} {init : Bool} {post : Option Value → Nat → Nat → va_W → Prop} {u z pc : Nat} {lv : gLV} {st : List Value} {ws : va_W} (h : IsG Γ l R cc nL own E ret init post) {x : Int32} {off : Int} {tgt : Nat} (d : decode cc pc = .ok (.ifCond .ge off, 3)) (ht : (pc : Int) + off = (tgt : Int)) (kt : 0 ≤ x → Γ u z tgt lv st ws) (kf : ¬ 0 ≤ x → Γ u z (pc + 3) lv st ws) : Γ u z pc lv (.int x :: st) ws := by
  obtain ⟨p, e, s, m, args, below, meth, c, A, Q, ⟨hx, hb, hml, ho, hts, hK, hA, hN, hO⟩, rfl, hin, hr⟩ := h
  intro H locs ls hl hP hD hS
  exact lv_if_ge hx hb d ht (fun q => kt q H locs ls hl hP hD hS) (fun q => kf q H locs ls hl hP hD hS)
theorem g_ic_ge {Γ : gT} {l : Launch} {R : Room} {cc : ByteArray} {nL : Nat} {own : String} {E : gE} {ret : Option FieldType} {init : Bool} {post : Option Value → Nat → Nat → va_W → Prop} {u z pc : Nat} {lv : gLV} {st : List Value} {ws : va_W} (h : IsG Γ l R cc nL own E ret init post) {x y : Int32} {off : Int} {tgt : Nat} (d : decode cc pc = .ok (.if_icmp .ge off, 3)) (ht : (pc : Int) + off = (tgt : Int)) (kt : y ≤ x → Γ u z tgt lv st ws) (kf : ¬ y ≤ x → Γ u z (pc + 3) lv st ws) : Γ u z pc lv (.int y :: .int x :: st) ws := by
  obtain ⟨p, e, s, m, args, below, meth, c, A, Q, ⟨hx, hb, hml, ho, hts, hK, hA, hN, hO⟩, rfl, hin, hr⟩ := h
  intro H locs ls hl hP hD hS
  exact lv_icmp_ge hx hb d ht (fun q => kt q H locs ls hl hP hD hS) (fun q => kf q H locs ls hl hP hD hS)
theorem g_lif_ge {Γ : gT} {l : Launch} {R : Room} {cc : ByteArray} {nL : Nat} {own : String} {E : gE} {ret : Option FieldType} {init : Bool} {post : Option Value → Nat → Nat → va_W → Prop} {u z pc : Nat} {lv : gLV} {st : List Value} {ws : va_W} (h : IsG Γ l R cc nL own E ret init post) {x y : Int64} {off : Int} {tgt : Nat} (d : decode cc pc = .ok (.ifCond .ge off, 3)) (ht : (pc : Int) + off = (tgt : Int)) (kt : y ≤ x → Γ u z tgt lv st ws) (kf : ¬ y ≤ x → Γ u z (pc + 3) lv st ws) : Γ u z pc lv (.int (lg_cmp x y) :: st) ws := by
  obtain ⟨p, e, s, m, args, below, meth, c, A, Q, ⟨hx, hb, hml, ho, hts, hK, hA, hN, hO⟩, rfl, hin, hr⟩ := h
  intro H locs ls hl hP hD hS
  exact lv_if_ge hx hb d ht (fun q => kt ((lg_cmp_ge x y).mp q) H locs ls hl hP hD hS) (fun q => kf (fun w => q ((lg_cmp_ge x y).mpr w)) H locs ls hl hP hD hS)
theorem g_if_gt {Γ : gT} {l : Launch} {R : Room} {cc : ByteArray} {nL : Nat} {own : String} {E : gE} {ret : Option FieldType} {init : Bool} {post : Option Value → Nat → Nat → va_W → Prop} {u z pc : Nat} {lv : gLV} {st : List Value} {ws : va_W} (h : IsG Γ l R cc nL own E ret init post) {x : Int32} {off : Int} {tgt : Nat} (d : decode cc pc = .ok (.ifCond .gt off, 3)) (ht : (pc : Int) + off = (tgt : Int)) (kt : 0 < x → Γ u z tgt lv st ws) (kf : ¬ 0 < x → Γ u z (pc + 3) lv st ws) : Γ u z pc lv (.int x :: st) ws := by
  obtain ⟨p, e, s, m, args, below, meth, c, A, Q, ⟨hx, hb, hml, ho, hts, hK, hA, hN, hO⟩, rfl, hin, hr⟩ := h
  intro H locs ls hl hP hD hS
  exact lv_if_gt hx hb d ht (fun q => kt q H locs ls hl hP hD hS) (fun q => kf q H locs ls hl hP hD hS)
theorem g_ic_gt {Γ : gT} {l : Launch} {R : Room} {cc : ByteArray} {nL : Nat} {own : String} {E : gE} {ret : Option FieldType} {init : Bool} {post : Option Value → Nat → Nat → va_W → Prop} {u z pc : Nat} {lv : gLV} {st : List Value} {ws : va_W} (h : IsG Γ l R cc nL own E ret init post) {x y : Int32} {off : Int} {tgt : Nat} (d : decode cc pc = .ok (.if_icmp .gt off, 3)) (ht : (pc : Int) + off = (tgt : Int)) (kt : y < x → Γ u z tgt lv st ws) (kf : ¬ y < x → Γ u z (pc + 3) lv st ws) : Γ u z pc lv (.int y :: .int x :: st) ws := by
  obtain ⟨p, e, s, m, args, below, meth, c, A, Q, ⟨hx, hb, hml, ho, hts, hK, hA, hN, hO⟩, rfl, hin, hr⟩ := h
  intro H locs ls hl hP hD hS
  exact lv_icmp_gt hx hb d ht (fun q => kt q H locs ls hl hP hD hS) (fun q => kf q H locs ls hl hP hD hS)
theorem g_lif_gt {Γ : gT} {l : Launch} {R : Room} {cc : ByteArray} {nL : Nat} {own : String} {E : gE} {ret : Option FieldType} {init : Bool} {post : Option Value → Nat → Nat → va_W → Prop} {u z pc : Nat} {lv : gLV} {st : List Value} {ws : va_W} (h : IsG Γ l R cc nL own E ret init post) {x y : Int64} {off : Int} {tgt : Nat} (d : decode cc pc = .ok (.ifCond .gt off, 3)) (ht : (pc : Int) + off = (tgt : Int)) (kt : y < x → Γ u z tgt lv st ws) (kf : ¬ y < x → Γ u z (pc + 3) lv st ws) : Γ u z pc lv (.int (lg_cmp x y) :: st) ws := by
  obtain ⟨p, e, s, m, args, below, meth, c, A, Q, ⟨hx, hb, hml, ho, hts, hK, hA, hN, hO⟩, rfl, hin, hr⟩ := h
  intro H locs ls hl hP hD hS
  exact lv_if_gt hx hb d ht (fun q => kt ((lg_cmp_gt x y).mp q) H locs ls hl hP hD hS) (fun q => kf (fun w => q ((lg_cmp_gt x y).mpr w)) H locs ls hl hP hD hS)
theorem g_if_le {Γ : gT} {l : Launch} {R : Room} {cc : ByteArray} {nL : Nat} {own : String} {E : gE} {ret : Option FieldType} {init : Bool} {post : Option Value → Nat → Nat → va_W → Prop} {u z pc : Nat} {lv : gLV} {st : List Value} {ws : va_W} (h : IsG Γ l R cc nL own E ret init post) {x : Int32} {off : Int} {tgt : Nat} (d : decode cc pc = .ok (.ifCond .le off, 3)) (ht : (pc : Int) + off = (tgt : Int)) (kt : x ≤ 0 → Γ u z tgt lv st ws) (kf : ¬ x ≤ 0 → Γ u z (pc + 3) lv st ws) : Γ u z pc lv (.int x :: st) ws := by
  obtain ⟨p, e, s, m, args, below, meth, c, A, Q, ⟨hx, hb, hml, ho, hts, hK, hA, hN, hO⟩, rfl, hin, hr⟩ := h
  intro H locs ls hl hP hD hS
  exact lv_if_le hx hb d ht (fun q => kt q H locs ls hl hP hD hS) (fun q => kf q H locs ls hl hP hD hS)
theorem g_ic_le {Γ : gT} {l : Launch} {R : Room} {cc : ByteArray} {nL : Nat} {own : String} {E : gE} {ret : Option FieldType} {init : Bool} {post : Option Value → Nat → Nat → va_W → Prop} {u z pc : Nat} {lv : gLV} {st : List Value} {ws : va_W} (h : IsG Γ l R cc nL own E ret init post) {x y : Int32} {off : Int} {tgt : Nat} (d : decode cc pc = .ok (.if_icmp .le off, 3)) (ht : (pc : Int) + off = (tgt : Int)) (kt : x ≤ y → Γ u z tgt lv st ws) (kf : ¬ x ≤ y → Γ u z (pc + 3) lv st ws) : Γ u z pc lv (.int y :: .int x :: st) ws := by
  obtain ⟨p, e, s, m, args, below, meth, c, A, Q, ⟨hx, hb, hml, ho, hts, hK, hA, hN, hO⟩, rfl, hin, hr⟩ := h
  intro H locs ls hl hP hD hS
  exact lv_icmp_le hx hb d ht (fun q => kt q H locs ls hl hP hD hS) (fun q => kf q H locs ls hl hP hD hS)
theorem g_lif_le {Γ : gT} {l : Launch} {R : Room} {cc : ByteArray} {nL : Nat} {own : String} {E : gE} {ret : Option FieldType} {init : Bool} {post : Option Value → Nat → Nat → va_W → Prop} {u z pc : Nat} {lv : gLV} {st : List Value} {ws : va_W} (h : IsG Γ l R cc nL own E ret init post) {x y : Int64} {off : Int} {tgt : Nat} (d : decode cc pc = .ok (.ifCond .le off, 3)) (ht : (pc : Int) + off = (tgt : Int)) (kt : x ≤ y → Γ u z tgt lv st ws) (kf : ¬ x ≤ y → Γ u z (pc + 3) lv st ws) : Γ u z pc lv (.int (lg_cmp x y) :: st) ws := by
  obtain ⟨p, e, s, m, args, below, meth, c, A, Q, ⟨hx, hb, hml, ho, hts, hK, hA, hN, hO⟩, rfl, hin, hr⟩ := h
  intro H locs ls hl hP hD hS
  exact lv_if_le hx hb d ht (fun q => kt ((lg_cmp_le x y).mp q) H locs ls hl hP hD hS) (fun q => kf (fun w => q ((lg_cmp_le x y).mpr w)) H locs ls hl hP hD hS)
theorem g_goto {Γ : gT} {l : Launch} {R : Room} {cc : ByteArray} {nL : Nat} {own : String} {E : gE} {ret : Option FieldType} {init : Bool} {post : Option Value → Nat → Nat → va_W → Prop} {u z pc : Nat} {lv : gLV} {st : List Value} {ws : va_W} (h : IsG Γ l R cc nL own E ret init post) {off : Int} {tgt : Nat} (d : decode cc pc = .ok (.goto off, 3)) (ht : (pc : Int) + off = (tgt : Int)) (k : Γ u z tgt lv st ws) : Γ u z pc lv st ws := by
  obtain ⟨p, e, s, m, args, below, meth, c, A, Q, ⟨hx, hb, hml, ho, hts, hK, hA, hN, hO⟩, rfl, hin, hr⟩ := h
  intro H locs ls hl hP hD hS
  exact lv_goto hx hb d ht (k H locs ls hl hP hD hS)
theorem g_tsIn {Γ : gT} {l : Launch} {R : Room} {cc : ByteArray} {nL : Nat} {own : String} {E : gE} {ret : Option FieldType} {init : Bool} {post : Option Value → Nat → Nat → va_W → Prop} {u z pc : Nat} {lv : gLV} {st : List Value} {ws : va_W} (h : IsG Γ l R cc nL own E ret init post) {dflt lo hi : Int} {offs : Array Int} {len : Nat} {x : Int32} {off : Int} {tgt : Nat} (n : Int) (hn : x.toInt = n) (d : decode cc pc = .ok (.tableswitch dflt lo hi offs, len)) (h1 : ¬ n < lo) (h2 : ¬ hi < n) (ho : offs[(n - lo).toNat]? = some off) (ht : (pc : Int) + off = (tgt : Int)) (k : Γ u z tgt lv st ws) : Γ u z pc lv (.int x :: st) ws := by
  obtain ⟨p, e, s, m, args, below, meth, c, A, Q, ⟨hx, hb, hml, ho, hts, hK, hA, hN, hO⟩, rfl, hin, hr⟩ := h
  intro H locs ls hl hP hD hS
  subst hn
  exact lv_tableIn hx hb d h1 h2 ho ht (k H locs ls hl hP hD hS)
theorem g_tsOut {Γ : gT} {l : Launch} {R : Room} {cc : ByteArray} {nL : Nat} {own : String} {E : gE} {ret : Option FieldType} {init : Bool} {post : Option Value → Nat → Nat → va_W → Prop} {u z pc : Nat} {lv : gLV} {st : List Value} {ws : va_W} (h : IsG Γ l R cc nL own E ret init post) {dflt lo hi : Int} {offs : Array Int} {len : Nat} {x : Int32} {tgt : Nat} (d : decode cc pc = .ok (.tableswitch dflt lo hi offs, len)) (hq : x.toInt < lo ∨ hi < x.toInt) (ht : (pc : Int) + dflt = (tgt : Int)) (k : Γ u z tgt lv st ws) : Γ u z pc lv (.int x :: st) ws := by
  obtain ⟨p, e, s, m, args, below, meth, c, A, Q, ⟨hx, hb, hml, ho, hts, hK, hA, hN, hO⟩, rfl, hin, hr⟩ := h
  intro H locs ls hl hP hD hS
  exact lv_tableOut hx hb d hq ht (k H locs ls hl hP hD hS)
theorem g_ireturn {Γ : gT} {l : Launch} {R : Room} {cc : ByteArray} {nL : Nat} {own : String} {E : gE} {ret : Option FieldType} {init : Bool} {post : Option Value → Nat → Nat → va_W → Prop} {u z pc : Nat} {lv : gLV} {ws : va_W} (h : IsG Γ l R cc nL own E ret init post) {x : Int32} {ty : FieldType} (d : decode cc pc = .ok (.ireturn, 1)) (ht : ret = some ty) (hn : narrow ty (.int x) = .int x) (hp : post (some (.int x)) u z ws) : Γ u z pc lv [.int x] ws := by
  obtain ⟨p, e, s, m, args, below, meth, c, A, Q, ⟨hx, hb, hml, ho, hts, hK, hA, hN, hO⟩, rfl, hin, hr⟩ := h
  intro H locs ls hl hP hD hS
  exact hr _ u z ws hp pc lv (Or.inl ⟨x, ty, rfl, d, ht, hn⟩) H locs ls hl hP hD hS
theorem g_lreturn {Γ : gT} {l : Launch} {R : Room} {cc : ByteArray} {nL : Nat} {own : String} {E : gE} {ret : Option FieldType} {init : Bool} {post : Option Value → Nat → Nat → va_W → Prop} {u z pc : Nat} {lv : gLV} {ws : va_W} (h : IsG Γ l R cc nL own E ret init post) {x : Int64} (d : decode cc pc = .ok (.lreturn, 1)) (ht : ret = some .long) (hp : post (some (.long x)) u z ws) : Γ u z pc lv [.long x] ws := by
  obtain ⟨p, e, s, m, args, below, meth, c, A, Q, ⟨hx, hb, hml, ho, hts, hK, hA, hN, hO⟩, rfl, hin, hr⟩ := h
  intro H locs ls hl hP hD hS
  exact hr _ u z ws hp pc lv (Or.inr (Or.inl ⟨x, rfl, d, ht⟩)) H locs ls hl hP hD hS
theorem g_return {Γ : gT} {l : Launch} {R : Room} {cc : ByteArray} {nL : Nat} {own : String} {E : gE} {ret : Option FieldType} {init : Bool} {post : Option Value → Nat → Nat → va_W → Prop} {u z pc : Nat} {lv : gLV} {ws : va_W} (h : IsG Γ l R cc nL own E ret init post) (d : decode cc pc = .ok (.return_, 1)) (ht : ret = none) (hp : post none u z ws) : Γ u z pc lv [] ws := by
  obtain ⟨p, e, s, m, args, below, meth, c, A, Q, ⟨hx, hb, hml, ho, hts, hK, hA, hN, hO⟩, rfl, hin, hr⟩ := h
  intro H locs ls hl hP hD hS
  exact hr _ u z ws hp pc lv (Or.inr (Or.inr ⟨rfl, d, ht⟩)) H locs ls hl hP hD hS
theorem g_get {Γ : gT} {l : Launch} {R : Room} {cc : ByteArray} {nL : Nat} {own : String} {E : gE} {ret : Option FieldType} {init : Bool} {post : Option Value → Nat → Nat → va_W → Prop} {u z pc : Nat} {lv : gLV} {st : List Value} {ws : va_W} (h : IsG Γ l R cc nL own E ret init post) {index ci k0 N a : Nat} {C : String} {T : u_T} {fs : List Value} {v : Value} (hf : gFL own index ci k0 C T N) (d : decode cc pc = .ok (.getfield index, 3)) (q0 : Nat) (he : ws[q0]? = some (a, .inr (ci, fs))) (hv : fs[k0]? = some v) (k : Γ u z (pc + 3) lv (v :: st) ws) : Γ u z pc lv (.ref a :: st) ws := by
  obtain ⟨p, e, s, m, args, below, meth, c, A, Q, ⟨hx, hb, hml, ho, hts, hK, hA, hN, hO⟩, rfl, hin, hr⟩ := h
  intro H locs ls hl hP hD hS
  exact va_get hx hb hts hf.2.2.1 ho hK hP q0 he hf.1 k0 hf.2.1 (hts _ hf.2.2.2) (fun _ h9 => h9) hv d (k H locs ls hl hP hD hS)
theorem g_put {Γ : gT} {l : Launch} {R : Room} {cc : ByteArray} {nL : Nat} {own : String} {E : gE} {ret : Option FieldType} {init : Bool} {post : Option Value → Nat → Nat → va_W → Prop} {u z pc : Nat} {lv : gLV} {st : List Value} {ws : va_W} (h : IsG Γ l R cc nL own E ret init post) {ws' : va_W} {index ci k0 N a : Nat} {C : String} {T : u_T} {fs : List Value} {v : Value} {ty : FieldType} (hf : gFL own index ci k0 C T N) (hT : gFT C T N) (hfin : (T k0).2.2.2 = false) (hd : parseFieldDescriptor (T k0).2.2.1 = some ty) (d : decode cc pc = .ok (.putfield index, 3)) (q0 : Nat) (he : ws[q0]? = some (a, .inr (ci, fs))) (hn : narrow ty v = v) (hfit : fits ty v = true) (hl0 : k0 < fs.length) (hw' : ws.set q0 (a, .inr (ci, fs.set k0 v)) = ws') (k : Γ u z (pc + 3) lv st ws') : Γ u z pc lv (v :: .ref a :: st) ws := by
  obtain ⟨p, e, s, m, args, below, meth, c, A, Q, ⟨hx, hb, hml, ho, hts, hK, hA, hN, hO⟩, rfl, hin, hr⟩ := h
  intro H locs ls hl hP hD hS
  subst hw'
  obtain ⟨ty0, hty, hnm⟩ := hT
  exact va_put hx hb hts hf.2.2.1 ty0 hty hnm ho hK hP hD hS q0 he hf.1 k0 hf.2.1 (hts _ hf.2.2.2) (fun _ h9 => h9) hfin hd hn hfit hl0 d (fun H1 locs1 hP hD hS => k H1 locs1 ls hl hP hD hS)
theorem g_putF {Γ : gT} {l : Launch} {R : Room} {cc : ByteArray} {nL : Nat} {own : String} {E : gE} {ret : Option FieldType} {init : Bool} {post : Option Value → Nat → Nat → va_W → Prop} {u z pc : Nat} {lv : gLV} {st : List Value} {ws : va_W} (h : IsG Γ l R cc nL own E ret init post) {ws' : va_W} {index ci k0 N a : Nat} {C : String} {T : u_T} {fs : List Value} {v : Value} {ty : FieldType} (hi : init = true) (hf : gFL own index ci k0 C T N) (hT : gFT C T N) (hfin : (T k0).2.2.2 = true) (hdecl : (T k0).1 = own) (hd : parseFieldDescriptor (T k0).2.2.1 = some ty) (d : decode cc pc = .ok (.putfield index, 3)) (q0 : Nat) (he : ws[q0]? = some (a, .inr (ci, fs))) (hn : narrow ty v = v) (hfit : fits ty v = true) (hl0 : k0 < fs.length) (hw' : ws.set q0 (a, .inr (ci, fs.set k0 v)) = ws') (k : Γ u z (pc + 3) lv st ws') : Γ u z pc lv (v :: .ref a :: st) ws := by
  obtain ⟨p, e, s, m, args, below, meth, c, A, Q, ⟨hx, hb, hml, ho, hts, hK, hA, hN, hO⟩, rfl, hin, hr⟩ := h
  intro H locs ls hl hP hD hS
  subst hw'
  obtain ⟨ty0, hty, hnm⟩ := hT
  exact va_putF hx hb hts hf.2.2.1 ty0 hty hnm ho hK hP hD hS q0 he hf.1 k0 hf.2.1 (hts _ hf.2.2.2) (fun _ h9 => h9) hfin (hin hi) hdecl hd hn hfit hl0 d (fun H1 locs1 hP hD hS => k H1 locs1 ls hl hP hD hS)
theorem g_iald {Γ : gT} {l : Launch} {R : Room} {cc : ByteArray} {nL : Nat} {own : String} {E : gE} {ret : Option FieldType} {init : Bool} {post : Option Value → Nat → Nat → va_W → Prop} {u z pc : Nat} {lv : gLV} {st : List Value} {ws : va_W} (h : IsG Γ l R cc nL own E ret init post) {a n : Nat} {f : Nat → Int32} {i : Int32} (d : decode cc pc = .ok (.iaload, 1)) (q0 k0 : Nat) (he : ws[q0]? = some (a, .inl (E.2 0, n, .inl f))) (hi : i = nI k0) (hlt : k0 < n) (hn : n < 2 ^ 31) (k : Γ u z (pc + 1) lv (.int (f k0) :: st) ws) : Γ u z pc lv (.int i :: .ref a :: st) ws := by
  obtain ⟨p, e, s, m, args, below, meth, c, A, Q, ⟨hx, hb, hml, ho, hts, hK, hA, hN, hO⟩, rfl, hin, hr⟩ := h
  intro H locs ls hl hP hD hS
  subst hi
  refine va_iald hx hb hK hP q0 0 he rfl (vp_in_nI hlt hn) d ?_
  rw [nI_clamp (Nat.lt_trans hlt hn)]
  exact k H locs ls hl hP hD hS
theorem g_sald {Γ : gT} {l : Launch} {R : Room} {cc : ByteArray} {nL : Nat} {own : String} {E : gE} {ret : Option FieldType} {init : Bool} {post : Option Value → Nat → Nat → va_W → Prop} {u z pc : Nat} {lv : gLV} {st : List Value} {ws : va_W} (h : IsG Γ l R cc nL own E ret init post) {a n : Nat} {f : Nat → Int32} {i : Int32} (d : decode cc pc = .ok (.saload, 1)) (q0 k0 : Nat) (he : ws[q0]? = some (a, .inl (E.2 2, n, .inl f))) (hi : i = nI k0) (hlt : k0 < n) (hn : n < 2 ^ 31) (k : Γ u z (pc + 1) lv (.int (f k0) :: st) ws) : Γ u z pc lv (.int i :: .ref a :: st) ws := by
  obtain ⟨p, e, s, m, args, below, meth, c, A, Q, ⟨hx, hb, hml, ho, hts, hK, hA, hN, hO⟩, rfl, hin, hr⟩ := h
  intro H locs ls hl hP hD hS
  subst hi
  refine va_sald hx hb hK hP q0 2 he rfl (vp_in_nI hlt hn) d ?_
  rw [nI_clamp (Nat.lt_trans hlt hn)]
  exact k H locs ls hl hP hD hS
theorem g_zald {Γ : gT} {l : Launch} {R : Room} {cc : ByteArray} {nL : Nat} {own : String} {E : gE} {ret : Option FieldType} {init : Bool} {post : Option Value → Nat → Nat → va_W → Prop} {u z pc : Nat} {lv : gLV} {st : List Value} {ws : va_W} (h : IsG Γ l R cc nL own E ret init post) {a n : Nat} {f : Nat → Int32} {i : Int32} (d : decode cc pc = .ok (.baload, 1)) (q0 k0 : Nat) (he : ws[q0]? = some (a, .inl (E.2 3, n, .inl f))) (hi : i = nI k0) (hlt : k0 < n) (hn : n < 2 ^ 31) (k : Γ u z (pc + 1) lv (.int (f k0) :: st) ws) : Γ u z pc lv (.int i :: .ref a :: st) ws := by
  obtain ⟨p, e, s, m, args, below, meth, c, A, Q, ⟨hx, hb, hml, ho, hts, hK, hA, hN, hO⟩, rfl, hin, hr⟩ := h
  intro H locs ls hl hP hD hS
  subst hi
  refine va_zald hx hb hK hP q0 3 he rfl (vp_in_nI hlt hn) d ?_
  rw [nI_clamp (Nat.lt_trans hlt hn)]
  exact k H locs ls hl hP hD hS
theorem g_lald {Γ : gT} {l : Launch} {R : Room} {cc : ByteArray} {nL : Nat} {own : String} {E : gE} {ret : Option FieldType} {init : Bool} {post : Option Value → Nat → Nat → va_W → Prop} {u z pc : Nat} {lv : gLV} {st : List Value} {ws : va_W} (h : IsG Γ l R cc nL own E ret init post) {a n : Nat} {f : Nat → Int64} {i : Int32} (d : decode cc pc = .ok (.laload, 1)) (q0 k0 : Nat) (he : ws[q0]? = some (a, .inl (E.2 1, n, .inr (.inl f)))) (hi : i = nI k0) (hlt : k0 < n) (hn : n < 2 ^ 31) (k : Γ u z (pc + 1) lv (.long (f k0) :: st) ws) : Γ u z pc lv (.int i :: .ref a :: st) ws := by
  obtain ⟨p, e, s, m, args, below, meth, c, A, Q, ⟨hx, hb, hml, ho, hts, hK, hA, hN, hO⟩, rfl, hin, hr⟩ := h
  intro H locs ls hl hP hD hS
  subst hi
  refine va_lald hx hb hK hP q0 1 he rfl (vp_in_nI hlt hn) d ?_
  rw [nI_clamp (Nat.lt_trans hlt hn)]
  exact k H locs ls hl hP hD hS
theorem g_iast {Γ : gT} {l : Launch} {R : Room} {cc : ByteArray} {nL : Nat} {own : String} {E : gE} {ret : Option FieldType} {init : Bool} {post : Option Value → Nat → Nat → va_W → Prop} {u z pc : Nat} {lv : gLV} {st : List Value} {ws : va_W} (h : IsG Γ l R cc nL own E ret init post) {ws' : va_W} {a n : Nat} {f : Nat → Int32} {i : Int32} {x : Int32} (d : decode cc pc = .ok (.iastore, 1)) (q0 k0 : Nat) (he : ws[q0]? = some (a, .inl (E.2 0, n, .inl f))) (hi : i = nI k0) (hlt : k0 < n) (hn : n < 2 ^ 31) (hw' : ws.set q0 (a, .inl (E.2 0, n, .inl (upd f k0 x))) = ws') (k : Γ u z (pc + 1) lv st ws') : Γ u z pc lv (.int x :: .int i :: .ref a :: st) ws := by
  obtain ⟨p, e, s, m, args, below, meth, c, A, Q, ⟨hx, hb, hml, ho, hts, hK, hA, hN, hO⟩, rfl, hin, hr⟩ := h
  intro H locs ls hl hP hD hS
  subst hw'; subst hi
  refine va_iast hx hb hK hP hD hS q0 0 he rfl (vp_in_nI hlt hn) d (fun H1 locs1 hP hD hS => ?_)
  rw [nI_clamp (Nat.lt_trans hlt hn)] at hP hD
  exact k H1 locs1 ls hl hP hD hS
theorem g_sast {Γ : gT} {l : Launch} {R : Room} {cc : ByteArray} {nL : Nat} {own : String} {E : gE} {ret : Option FieldType} {init : Bool} {post : Option Value → Nat → Nat → va_W → Prop} {u z pc : Nat} {lv : gLV} {st : List Value} {ws : va_W} (h : IsG Γ l R cc nL own E ret init post) {ws' : va_W} {a n : Nat} {f : Nat → Int32} {i : Int32} {x : Int32} (d : decode cc pc = .ok (.sastore, 1)) (q0 k0 : Nat) (he : ws[q0]? = some (a, .inl (E.2 2, n, .inl f))) (hi : i = nI k0) (hlt : k0 < n) (hn : n < 2 ^ 31) (hw' : ws.set q0 (a, .inl (E.2 2, n, .inl (upd f k0 (vp_nar .short x)))) = ws') (k : Γ u z (pc + 1) lv st ws') : Γ u z pc lv (.int x :: .int i :: .ref a :: st) ws := by
  obtain ⟨p, e, s, m, args, below, meth, c, A, Q, ⟨hx, hb, hml, ho, hts, hK, hA, hN, hO⟩, rfl, hin, hr⟩ := h
  intro H locs ls hl hP hD hS
  subst hw'; subst hi
  refine va_sast hx hb hK hP hD hS q0 2 he rfl (vp_in_nI hlt hn) d (fun H1 locs1 hP hD hS => ?_)
  rw [nI_clamp (Nat.lt_trans hlt hn)] at hP hD
  exact k H1 locs1 ls hl hP hD hS
theorem g_zast {Γ : gT} {l : Launch} {R : Room} {cc : ByteArray} {nL : Nat} {own : String} {E : gE} {ret : Option FieldType} {init : Bool} {post : Option Value → Nat → Nat → va_W → Prop} {u z pc : Nat} {lv : gLV} {st : List Value} {ws : va_W} (h : IsG Γ l R cc nL own E ret init post) {ws' : va_W} {a n : Nat} {f : Nat → Int32} {i : Int32} {x : Int32} (d : decode cc pc = .ok (.bastore, 1)) (q0 k0 : Nat) (he : ws[q0]? = some (a, .inl (E.2 3, n, .inl f))) (hi : i = nI k0) (hlt : k0 < n) (hn : n < 2 ^ 31) (hw' : ws.set q0 (a, .inl (E.2 3, n, .inl (upd f k0 (vp_nar .boolean x)))) = ws') (k : Γ u z (pc + 1) lv st ws') : Γ u z pc lv (.int x :: .int i :: .ref a :: st) ws := by
  obtain ⟨p, e, s, m, args, below, meth, c, A, Q, ⟨hx, hb, hml, ho, hts, hK, hA, hN, hO⟩, rfl, hin, hr⟩ := h
  intro H locs ls hl hP hD hS
  subst hw'; subst hi
  refine va_zast hx hb hK hP hD hS q0 3 he rfl (vp_in_nI hlt hn) d (fun H1 locs1 hP hD hS => ?_)
  rw [nI_clamp (Nat.lt_trans hlt hn)] at hP hD
  exact k H1 locs1 ls hl hP hD hS
theorem g_last {Γ : gT} {l : Launch} {R : Room} {cc : ByteArray} {nL : Nat} {own : String} {E : gE} {ret : Option FieldType} {init : Bool} {post : Option Value → Nat → Nat → va_W → Prop} {u z pc : Nat} {lv : gLV} {st : List Value} {ws : va_W} (h : IsG Γ l R cc nL own E ret init post) {ws' : va_W} {a n : Nat} {f : Nat → Int64} {i : Int32} {x : Int64} (d : decode cc pc = .ok (.lastore, 1)) (q0 k0 : Nat) (he : ws[q0]? = some (a, .inl (E.2 1, n, .inr (.inl f)))) (hi : i = nI k0) (hlt : k0 < n) (hn : n < 2 ^ 31) (hw' : ws.set q0 (a, .inl (E.2 1, n, .inr (.inl (vp_updL f k0 x)))) = ws') (k : Γ u z (pc + 1) lv st ws') : Γ u z pc lv (.long x :: .int i :: .ref a :: st) ws := by
  obtain ⟨p, e, s, m, args, below, meth, c, A, Q, ⟨hx, hb, hml, ho, hts, hK, hA, hN, hO⟩, rfl, hin, hr⟩ := h
  intro H locs ls hl hP hD hS
  subst hw'; subst hi
  refine va_last hx hb hK hP hD hS q0 1 he rfl (vp_in_nI hlt hn) d (fun H1 locs1 hP hD hS => ?_)
  rw [nI_clamp (Nat.lt_trans hlt hn)] at hP hD
  exact k H1 locs1 ls hl hP hD hS
theorem g_aald {Γ : gT} {l : Launch} {R : Room} {cc : ByteArray} {nL : Nat} {own : String} {E : gE} {ret : Option FieldType} {init : Bool} {post : Option Value → Nat → Nat → va_W → Prop} {u z pc : Nat} {lv : gLV} {st : List Value} {ws : va_W} (h : IsG Γ l R cc nL own E ret init post) {a n : Nat} {f : Nat → Option Nat} {i : Int32} {b : Nat} (d : decode cc pc = .ok (.aaload, 1)) (q0 k0 : Nat) (he : ws[q0]? = some (a, .inl (E.2 4, n, .inr (.inr (.inr (.inr f)))))) (hi : i = nI k0) (hlt : k0 < n) (hn : n < 2 ^ 31) (hb2 : f k0 = some b) (k : Γ u z (pc + 1) lv (.ref b :: st) ws) : Γ u z pc lv (.int i :: .ref a :: st) ws := by
  obtain ⟨p, e, s, m, args, below, meth, c, A, Q, ⟨hx, hb, hml, ho, hts, hK, hA, hN, hO⟩, rfl, hin, hr⟩ := h
  intro H locs ls hl hP hD hS
  subst hi
  have hlt' : (nI k0).toNatClampNeg < n := by rw [nI_clamp (Nat.lt_trans hlt hn)]; exact hlt
  refine W.aald (v := .ref b) (ty := .array .short) hx hb (hP q0 _ he) ((hK.2 4 _ rfl).1 n (fun j => va_rf (f j))) rfl (fun q => by cases q) (by show ¬ (nI k0 < 0 ∨ (arrV _ _ _).slots.size ≤ _); rw [arrV_size]; exact vp_in_nI hlt hn) (by show (arrV _ _ _).slots[_]? = _; rw [arrV_read _ _ hlt', nI_clamp (Nat.lt_trans hlt hn), hb2]; rfl) rfl rfl d (k H locs ls hl hP hD hS)
theorem g_alen0 {Γ : gT} {l : Launch} {R : Room} {cc : ByteArray} {nL : Nat} {own : String} {E : gE} {ret : Option FieldType} {init : Bool} {post : Option Value → Nat → Nat → va_W → Prop} {u z pc : Nat} {lv : gLV} {st : List Value} {ws : va_W} (h : IsG Γ l R cc nL own E ret init post) {a n : Nat} {x : (Nat → Int32) ⊕ (Nat → Int64) ⊕ (Nat → UInt32) ⊕ (Nat → UInt64) ⊕ (Nat → Option Nat)} (d : decode cc pc = .ok (.arraylength, 1)) (q0 : Nat) (he : ws[q0]? = some (a, .inl (E.2 0, (n, x)))) (k : Γ u z (pc + 1) lv (.int (nI n) :: st) ws) : Γ u z pc lv (.ref a :: st) ws := by
  obtain ⟨p, e, s, m, args, below, meth, c, A, Q, ⟨hx, hb, hml, ho, hts, hK, hA, hN, hO⟩, rfl, hin, hr⟩ := h
  intro H locs ls hl hP hD hS
  exact va_alen hx hb hK hP q0 0 he rfl rfl d (k H locs ls hl hP hD hS)
theorem g_alen1 {Γ : gT} {l : Launch} {R : Room} {cc : ByteArray} {nL : Nat} {own : String} {E : gE} {ret : Option FieldType} {init : Bool} {post : Option Value → Nat → Nat → va_W → Prop} {u z pc : Nat} {lv : gLV} {st : List Value} {ws : va_W} (h : IsG Γ l R cc nL own E ret init post) {a n : Nat} {x : (Nat → Int32) ⊕ (Nat → Int64) ⊕ (Nat → UInt32) ⊕ (Nat → UInt64) ⊕ (Nat → Option Nat)} (d : decode cc pc = .ok (.arraylength, 1)) (q0 : Nat) (he : ws[q0]? = some (a, .inl (E.2 1, (n, x)))) (k : Γ u z (pc + 1) lv (.int (nI n) :: st) ws) : Γ u z pc lv (.ref a :: st) ws := by
  obtain ⟨p, e, s, m, args, below, meth, c, A, Q, ⟨hx, hb, hml, ho, hts, hK, hA, hN, hO⟩, rfl, hin, hr⟩ := h
  intro H locs ls hl hP hD hS
  exact va_alen hx hb hK hP q0 1 he rfl rfl d (k H locs ls hl hP hD hS)
theorem g_alen2 {Γ : gT} {l : Launch} {R : Room} {cc : ByteArray} {nL : Nat} {own : String} {E : gE} {ret : Option FieldType} {init : Bool} {post : Option Value → Nat → Nat → va_W → Prop} {u z pc : Nat} {lv : gLV} {st : List Value} {ws : va_W} (h : IsG Γ l R cc nL own E ret init post) {a n : Nat} {x : (Nat → Int32) ⊕ (Nat → Int64) ⊕ (Nat → UInt32) ⊕ (Nat → UInt64) ⊕ (Nat → Option Nat)} (d : decode cc pc = .ok (.arraylength, 1)) (q0 : Nat) (he : ws[q0]? = some (a, .inl (E.2 2, (n, x)))) (k : Γ u z (pc + 1) lv (.int (nI n) :: st) ws) : Γ u z pc lv (.ref a :: st) ws := by
  obtain ⟨p, e, s, m, args, below, meth, c, A, Q, ⟨hx, hb, hml, ho, hts, hK, hA, hN, hO⟩, rfl, hin, hr⟩ := h
  intro H locs ls hl hP hD hS
  exact va_alen hx hb hK hP q0 2 he rfl rfl d (k H locs ls hl hP hD hS)
theorem g_alen3 {Γ : gT} {l : Launch} {R : Room} {cc : ByteArray} {nL : Nat} {own : String} {E : gE} {ret : Option FieldType} {init : Bool} {post : Option Value → Nat → Nat → va_W → Prop} {u z pc : Nat} {lv : gLV} {st : List Value} {ws : va_W} (h : IsG Γ l R cc nL own E ret init post) {a n : Nat} {x : (Nat → Int32) ⊕ (Nat → Int64) ⊕ (Nat → UInt32) ⊕ (Nat → UInt64) ⊕ (Nat → Option Nat)} (d : decode cc pc = .ok (.arraylength, 1)) (q0 : Nat) (he : ws[q0]? = some (a, .inl (E.2 3, (n, x)))) (k : Γ u z (pc + 1) lv (.int (nI n) :: st) ws) : Γ u z pc lv (.ref a :: st) ws := by
  obtain ⟨p, e, s, m, args, below, meth, c, A, Q, ⟨hx, hb, hml, ho, hts, hK, hA, hN, hO⟩, rfl, hin, hr⟩ := h
  intro H locs ls hl hP hD hS
  exact va_alen hx hb hK hP q0 3 he rfl rfl d (k H locs ls hl hP hD hS)
theorem g_acopy {Γ : gT} {l : Launch} {R : Room} {cc : ByteArray} {nL : Nat} {own : String} {E : gE} {ret : Option FieldType} {init : Bool} {post : Option Value → Nat → Nat → va_W → Prop} {u z pc : Nat} {lv : gLV} {st : List Value} {ws : va_W} (h : IsG Γ l R cc nL own E ret init post) {ws' : va_W} {a0 a n0 n1 N : Nat} {index : Nat} {f g : Nat → Int32} {n : Int32} (d : decode cc pc = .ok (.invokestatic index, 3)) (hw : Cond.methodLink own index arraycopyName ∈ gTT) (hw2 : Cond.native arraycopyName ∈ gTT) (hw3 : Cond.static arraycopyName ∈ gTT) (hw4 : Cond.initialized "java/lang/System" ∈ gTT) (q0 q1 : Nat) (h0 : ws[q0]? = some (a0, .inl (E.2 0, n0, .inl f))) (h1 : ws[q1]? = some (a, .inl (E.2 0, n1, .inl g))) (hn : n = nI N) (hNN : N < 2 ^ 31) (hn0 : N ≤ n0) (hn1 : N ≤ n1) (hf : 1 ≤ R.frames) (hl0 : (st.map fun v => v.category).sum + (nativeFrameWords "java/lang/System" "arraycopy" 5 + 11) ≤ R.locals) (hw' : ws.set q1 (a, .inl (E.2 0, n1, .inl (va_cpy f g 0 0 N))) = ws') (k : Γ u z (pc + 3) lv st ws') : Γ u z pc lv (.int n :: .int 0 :: .ref a :: .int 0 :: .ref a0 :: st) ws := by
  obtain ⟨p, e, s, m, args, below, meth, c, A, Q, ⟨hx, hb, hml, ho, hts, hK, hA, hN, hO⟩, rfl, hin, hr⟩ := h
  intro H locs ls hl hP hD hS
  subst hw'; subst hn
  refine va_copyi hx hb (by rw [hml]; exact hl.1.1.symm) ho (hts _ hw) (hts _ hw2) (hts _ hw3) (hts _ hw4) hK hP hD hS q0 q1 0 0 h0 h1 rfl rfl rfl (by decide) (by decide) (nI_pos hNN) (by rw [sb_cl0, nI_clamp hNN]; omega) (by rw [sb_cl0, nI_clamp hNN]; omega) (fun i _ => rfl) hf hl0 d (fun H1 locs1 hP hD hS => ?_)
  rw [sb_cl0, nI_clamp hNN] at hP hD
  exact k H1 locs1 ls hl hP hD hS
theorem g_over {Γ : gT} {l : Launch} {R : Room} {cc : ByteArray} {nL : Nat} {own : String} {E : gE} {ret : Option FieldType} {init : Bool} {post : Option Value → Nat → Nat → va_W → Prop} {u z pc : Nat} {lv : gLV} {st : List Value} {ws : va_W} (h : IsG Γ l R cc nL own E ret init post) {index : Nat} (d : decode cc pc = .ok (.getstatic index, 3)) (hw : Cond.fieldLink own index "WatchBench$Causes" "OVER" "[I" ∈ gTT) (k : ∀ t : Nat, (∀ (pc' : Nat) (i : Int32) (k0 : Nat) (lv' : gLV) (st' : List Value) (ws' : va_W) (u' z' : Nat), decode cc pc' = .ok (.iaload, 1) → i = nI k0 → k0 < 6 → Γ u' z' (pc' + 1) lv' (gOf k0 :: st') ws' → Γ u' z' pc' lv' (.int i :: .ref t :: st') ws') → (∀ (pc' : Nat) (lv' : gLV) (st' : List Value) (ws' : va_W) (u' z' : Nat), decode cc pc' = .ok (.arraylength, 1) → Γ u' z' (pc' + 1) lv' (.int 6 :: st') ws' → Γ u' z' pc' lv' (.ref t :: st') ws') → Γ u z (pc + 3) lv (.ref t :: st) ws) : Γ u z pc lv st ws := by
  obtain ⟨p, e, s, m, args, below, meth, c, A, Q, ⟨hx, hb, hml, ho, hts, hK, hA, hN, hO⟩, rfl, hin, hr⟩ := h
  intro H locs ls hl hP hD hS
  obtain ⟨t, hZ, hT⟩ := hO
  refine va_gets hx hb hZ hS ho (hts _ hw) (fun _ h9 => h9) d (k t ?_ ?_ H locs ls hl hP hD hS)
  · intro pc' i k0 lv' st' ws' u' z' d' hi hk kk H locs ls hl hP hD hS
    subst hi
    exact va_ti hx hb hT hS (vp_in_nI hk (by decide)) (by rw [nI_clamp (Nat.lt_trans hk (by decide))]) d' (kk H locs ls hl hP hD hS)
  · intro pc' lv' st' ws' u' z' d' kk H locs ls hl hP hD hS
    exact va_tlen hx hb hT hS rfl d' (kk H locs ls hl hP hD hS)
theorem g_new {Γ : gT} {l : Launch} {R : Room} {cc : ByteArray} {nL : Nat} {own : String} {E : gE} {ret : Option FieldType} {init : Bool} {post : Option Value → Nat → Nat → va_W → Prop} {u z pc : Nat} {lv : gLV} {st : List Value} {ws : va_W} (h : IsG Γ l R cc nL own E ret init post) {index ci N : Nat} {C : String} {T : u_T} {fs : List Value} (ty : Nat → FieldType) (hc : vwCl[ci]? = some (C, T, N)) (hin0 : ∀ w ∈ u_ws C T N, w ∈ gTT) (hty : ∀ k, k < N → parseFieldDescriptor (T k).2.2.1 = some (ty k)) (hw1 : Cond.classLink own index C ∈ gTT) (hw2 : Cond.instantiable C N ∈ gTT) (hw3 : Cond.initialized C ∈ gTT) (d : decode cc pc = .ok (.new index, 3)) (hfs : ∀ j, j < N → defaultValue (ty j) = vp_V fs j) (h1 : u + 1 ≤ R.cells) (h2 : z + N ≤ R.slots) (k : ∀ q : Nat, Γ (u + 1) (z + N) (pc + 3) lv (.ref q :: st) (ws ++ [(q, .inr (ci, fs))])) : Γ u z pc lv st ws := by
  obtain ⟨p, e, s, m, args, below, meth, c, A, Q, ⟨hx, hb, hml, ho, hts, hK, hA, hN, hO⟩, rfl, hin, hr⟩ := h
  intro H locs ls hl hP hD hS
  exact va_new hx hb hts hin0 ty hty ho (hts _ hw1) (hts _ hw2) (hts _ hw3) hK hP hD hS hA hc hfs h1 h2 d (fun q H1 hP hD hS => k q H1 locs ls hl hP hD hS)
theorem g_newaI {Γ : gT} {l : Launch} {R : Room} {cc : ByteArray} {nL : Nat} {own : String} {E : gE} {ret : Option FieldType} {init : Bool} {post : Option Value → Nat → Nat → va_W → Prop} {u z pc : Nat} {lv : gLV} {st : List Value} {ws : va_W} (h : IsG Γ l R cc nL own E ret init post) {n : Int32} {N : Nat} (d : decode cc pc = .ok (.newarray .int, 2)) (hw : Cond.arrayClass .int ∈ gTT) (hn : n = nI N) (hN : N < 65536) (h1 : u + 1 ≤ R.cells) (h2 : z + N ≤ R.slots) (k : ∀ q : Nat, Γ (u + 1) (z + N) (pc + 2) lv (.ref q :: st) (ws ++ [(q, .inl (E.2 0, N, .inl (fun _ => 0)))])) : Γ u z pc lv (.int n :: st) ws := by
  obtain ⟨p, e, s, m, args, below, meth, c, A, Q, ⟨hx, hb, hml, ho, hts, hK, hA, hN, hO⟩, rfl, hin, hr⟩ := h
  intro H locs ls hl hP hD hS
  subst hn
  refine va_newa (atype := .int) (ty := .int) (a0 := (N, .inl (fun _ => 0))) (N' := N) hx hb (hts _ hw) rfl hK hP hD hS hA (fun cA => rfl) (nI_pos (by omega)) (nI_clamp (by omega)) (show N * 4 ≤ 536870912 by omega) h1 h2 d (fun q cA H1 hK1 hP hD hS => ?_)
  have e1 := (hK1.2 5 (cA, .int) rfl).2
  have e2 := (hK.2 0 (E.2 0, .int) rfl).2
  have e3 : cA = E.2 0 := Option.some.inj (Eq.trans (Eq.symm e1) e2)
  rw [e3] at hP hD
  exact k q H1 locs ls hl hP hD hS
theorem g_newaJ {Γ : gT} {l : Launch} {R : Room} {cc : ByteArray} {nL : Nat} {own : String} {E : gE} {ret : Option FieldType} {init : Bool} {post : Option Value → Nat → Nat → va_W → Prop} {u z pc : Nat} {lv : gLV} {st : List Value} {ws : va_W} (h : IsG Γ l R cc nL own E ret init post) {n : Int32} {N : Nat} (d : decode cc pc = .ok (.newarray .long, 2)) (hw : Cond.arrayClass .long ∈ gTT) (hn : n = nI N) (hN : N < 65536) (h1 : u + 1 ≤ R.cells) (h2 : z + N ≤ R.slots) (k : ∀ q : Nat, Γ (u + 1) (z + N) (pc + 2) lv (.ref q :: st) (ws ++ [(q, .inl (E.2 1, N, .inr (.inl (fun _ => 0))))])) : Γ u z pc lv (.int n :: st) ws := by
  obtain ⟨p, e, s, m, args, below, meth, c, A, Q, ⟨hx, hb, hml, ho, hts, hK, hA, hN, hO⟩, rfl, hin, hr⟩ := h
  intro H locs ls hl hP hD hS
  subst hn
  refine va_newa (atype := .long) (ty := .long) (a0 := (N, .inr (.inl (fun _ => 0)))) (N' := N) hx hb (hts _ hw) rfl hK hP hD hS hA (fun cA => rfl) (nI_pos (by omega)) (nI_clamp (by omega)) (show N * 8 ≤ 536870912 by omega) h1 h2 d (fun q cA H1 hK1 hP hD hS => ?_)
  have e1 := (hK1.2 5 (cA, .long) rfl).2
  have e2 := (hK.2 1 (E.2 1, .long) rfl).2
  have e3 : cA = E.2 1 := Option.some.inj (Eq.trans (Eq.symm e1) e2)
  rw [e3] at hP hD
  exact k q H1 locs ls hl hP hD hS
theorem g_newaS {Γ : gT} {l : Launch} {R : Room} {cc : ByteArray} {nL : Nat} {own : String} {E : gE} {ret : Option FieldType} {init : Bool} {post : Option Value → Nat → Nat → va_W → Prop} {u z pc : Nat} {lv : gLV} {st : List Value} {ws : va_W} (h : IsG Γ l R cc nL own E ret init post) {n : Int32} {N : Nat} (d : decode cc pc = .ok (.newarray .short, 2)) (hw : Cond.arrayClass .short ∈ gTT) (hn : n = nI N) (hN : N < 65536) (h1 : u + 1 ≤ R.cells) (h2 : z + N ≤ R.slots) (k : ∀ q : Nat, Γ (u + 1) (z + N) (pc + 2) lv (.ref q :: st) (ws ++ [(q, .inl (E.2 2, N, .inl (fun _ => 0)))])) : Γ u z pc lv (.int n :: st) ws := by
  obtain ⟨p, e, s, m, args, below, meth, c, A, Q, ⟨hx, hb, hml, ho, hts, hK, hA, hN, hO⟩, rfl, hin, hr⟩ := h
  intro H locs ls hl hP hD hS
  subst hn
  refine va_newa (atype := .short) (ty := .short) (a0 := (N, .inl (fun _ => 0))) (N' := N) hx hb (hts _ hw) rfl hK hP hD hS hA (fun cA => rfl) (nI_pos (by omega)) (nI_clamp (by omega)) (show N * 2 ≤ 536870912 by omega) h1 h2 d (fun q cA H1 hK1 hP hD hS => ?_)
  have e1 := (hK1.2 5 (cA, .short) rfl).2
  have e2 := (hK.2 2 (E.2 2, .short) rfl).2
  have e3 : cA = E.2 2 := Option.some.inj (Eq.trans (Eq.symm e1) e2)
  rw [e3] at hP hD
  exact k q H1 locs ls hl hP hD hS
theorem g_newaZ {Γ : gT} {l : Launch} {R : Room} {cc : ByteArray} {nL : Nat} {own : String} {E : gE} {ret : Option FieldType} {init : Bool} {post : Option Value → Nat → Nat → va_W → Prop} {u z pc : Nat} {lv : gLV} {st : List Value} {ws : va_W} (h : IsG Γ l R cc nL own E ret init post) {n : Int32} {N : Nat} (d : decode cc pc = .ok (.newarray .boolean, 2)) (hw : Cond.arrayClass .boolean ∈ gTT) (hn : n = nI N) (hN : N < 65536) (h1 : u + 1 ≤ R.cells) (h2 : z + N ≤ R.slots) (k : ∀ q : Nat, Γ (u + 1) (z + N) (pc + 2) lv (.ref q :: st) (ws ++ [(q, .inl (E.2 3, N, .inl (fun _ => 0)))])) : Γ u z pc lv (.int n :: st) ws := by
  obtain ⟨p, e, s, m, args, below, meth, c, A, Q, ⟨hx, hb, hml, ho, hts, hK, hA, hN, hO⟩, rfl, hin, hr⟩ := h
  intro H locs ls hl hP hD hS
  subst hn
  refine va_newa (atype := .boolean) (ty := .boolean) (a0 := (N, .inl (fun _ => 0))) (N' := N) hx hb (hts _ hw) rfl hK hP hD hS hA (fun cA => rfl) (nI_pos (by omega)) (nI_clamp (by omega)) (show N * 1 ≤ 536870912 by omega) h1 h2 d (fun q cA H1 hK1 hP hD hS => ?_)
  have e1 := (hK1.2 5 (cA, .boolean) rfl).2
  have e2 := (hK.2 3 (E.2 3, .boolean) rfl).2
  have e3 : cA = E.2 3 := Option.some.inj (Eq.trans (Eq.symm e1) e2)
  rw [e3] at hP hD
  exact k q H1 locs ls hl hP hD hS
theorem g_objInit {Γ : gT} {l : Launch} {R : Room} {cc : ByteArray} {nL : Nat} {own : String} {E : gE} {ret : Option FieldType} {init : Bool} {post : Option Value → Nat → Nat → va_W → Prop} {u z pc : Nat} {lv : gLV} {st : List Value} {ws : va_W} (h : IsG Γ l R cc nL own E ret init post) {index a : Nat} (d : decode cc pc = .ok (.invokespecial index, 3)) (hw : Cond.methodLink own index objectInit ∈ gTT) (hw2 : Cond.instanceMethod objectInit ∈ gTT) (hw3 : Cond.code objectInit ⟨#[0xb1]⟩ 1 none ∈ gTT) (h1 : 1 ≤ R.frames) (h2 : (st.map fun v => v.category).sum ≤ 8) (h3 : 20 ≤ R.locals) (k : Γ u z (pc + 3) lv st ws) : Γ u z pc lv (.ref a :: st) ws := by
  obtain ⟨p, e, s, m, args, below, meth, c, A, Q, ⟨hx, hb, hml, ho, hts, hK, hA, hN, hO⟩, rfl, hin, hr⟩ := h
  intro H locs ls hl hP hD hS
  refine W.objInit hx hb ho (hts _ hw) (hts _ hw2) (hts _ hw3) rfl (by rw [hml]; exact hl.1.1) rfl d h1 ?_ (k H locs ls hl hP hD hS)
  have := lv_room (m := m) (pc := pc) (ls := ls) (rest := .ref a :: st) h2
  omega
theorem g_good {y : MethodName} {cy : ByteArray} {mL : Nat} {rt : Option FieldType} (h : Cond.code y cy mL rt ∈ gTT) : GoodIn gTT (.code y cy mL rt :: gTT) := by
  intro w hw
  have hm : w ∈ gTT := (List.mem_cons.mp hw).elim (fun e => by rw [e]; exact h) (fun e => e)
  exact ⟨hm, good_of_word (List.mem_filter.mp hm).2⟩
theorem g_sig {o : Option MethodDescriptor} {n : Nat} (h : o.map (fun d => d.parameters.length) = some n) : ∀ sig, o = some sig → n = sig.parameters.length := fun sig e => by
  rw [e] at h
  exact (Option.some.inj h).symm
theorem g_callV {Γ : gT} {l : Launch} {R : Room} {cc : ByteArray} {nL : Nat} {own : String} {E : gE} {ret : Option FieldType} {init : Bool} {post : Option Value → Nat → Nat → va_W → Prop} {u z pc : Nat} {lv : gLV} {ws : va_W} (h : IsG Γ l R cc nL own E ret init post) {y : MethodName} {cy : ByteArray} {mL n index b : Nat} {rt : Option FieldType} {rm : Room} {As rest st0 : List Value} {wc : va_W} {postc : Option Value → va_W → Prop} {C : String} {ci : Nat} {fs : List Value} {T : u_T} {N : Nat} (hC : Ctr l y cy mL rt rm E (.ref b :: As) wc postc) (hm : gMV C y cy mL rt n) (hlk : Cond.methodLink own index y ∈ gTT) (d : decode cc pc = .ok (.invokevirtual index, 3)) (hst : st0 = As.reverse ++ .ref b :: rest) (hn : As.length = n) (hR : rm.frames + 1 ≤ R.frames ∧ 8 + (mL + 11) + rm.locals ≤ R.locals) (hu : u + rm.cells ≤ R.cells ∧ z + rm.slots ≤ R.slots) (hw8 : (rest.map fun v => v.category).sum ≤ 8) (is : List Nat) (his : is.map (fun i => ws[i]?) = wc.map some) (hnd : va_nd is = true) (q0 : Nat) (he : ws[q0]? = some (b, .inr (ci, fs))) (hci : vwCl[ci]? = some (C, T, N)) (k : ∀ (v : Option Value) (w1 : va_W), postc v w1 → Γ (u + rm.cells) (z + rm.slots) (pc + 3) lv (v.toList ++ rest) (gmerge is w1 ws)) : Γ u z pc lv st0 ws := by
  obtain ⟨p, e, s, m, args, below, meth, c, A, Q, ⟨hx, hb, hml, ho, hts, hK, hA, hN, hO⟩, rfl, hin, hr⟩ := h
  intro H locs ls hl hP hD hS
  subst hst
  refine g_after (va_runV (g := F0 m pc ls (As.reverse ++ .ref b :: rest)) (n := n) (bytes := cy) (maxL := mL) (ret := rt) (C := C) ⟨hx, hb, hml, ho, hts⟩ (hC H.size) ⟨⟨rfl, rfl, hR.1, hR.2, pay_in hts (g_good hm.1), List.mem_cons_self, hts _ hm.1, hts _ hm.2.2.2.1, hm.2.2.2.2.1, g_sig hm.2.2.2.2.2, hts _ hlk⟩, hts _ hm.2.1, hts _ hm.2.2.1⟩ ⟨g_blind, va_recv hK hP hci he, g_pre hK hN hO hP hD hS hA is his hnd⟩ rfl hn hl.1.1 rfl (lv_room hw8) d hu) hl hP hD hS hA is his (fun v w1 hp => k v w1 hp)
theorem g_callS {Γ : gT} {l : Launch} {R : Room} {cc : ByteArray} {nL : Nat} {own : String} {E : gE} {ret : Option FieldType} {init : Bool} {post : Option Value → Nat → Nat → va_W → Prop} {u z pc : Nat} {lv : gLV} {ws : va_W} (h : IsG Γ l R cc nL own E ret init post) {y : MethodName} {cy : ByteArray} {mL n index b : Nat} {rt : Option FieldType} {rm : Room} {As rest st0 : List Value} {wc : va_W} {postc : Option Value → va_W → Prop} (hC : Ctr l y cy mL rt rm E As wc postc) (hm : gMS y cy mL rt n) (hlk : Cond.methodLink own index y ∈ gTT) (d : decode cc pc = .ok (.invokestatic index, 3)) (hst : st0 = As.reverse ++ rest) (hn : As.length = n) (hR : rm.frames + 1 ≤ R.frames ∧ 8 + (mL + 11) + rm.locals ≤ R.locals) (hu : u + rm.cells ≤ R.cells ∧ z + rm.slots ≤ R.slots) (hw8 : (rest.map fun v => v.category).sum ≤ 8) (is : List Nat) (his : is.map (fun i => ws[i]?) = wc.map some) (hnd : va_nd is = true) (k : ∀ (v : Option Value) (w1 : va_W), postc v w1 → Γ (u + rm.cells) (z + rm.slots) (pc + 3) lv (v.toList ++ rest) (gmerge is w1 ws)) : Γ u z pc lv st0 ws := by
  obtain ⟨p, e, s, m, args, below, meth, c, A, Q, ⟨hx, hb, hml, ho, hts, hK, hA, hN, hO⟩, rfl, hin, hr⟩ := h
  intro H locs ls hl hP hD hS
  subst hst
  refine g_after (va_runS (g := F0 m pc ls (As.reverse ++ rest)) (n := n) (bytes := cy) (maxL := mL) (ret := rt) ⟨hx, hb, hml, ho, hts⟩ (hC H.size) ⟨⟨rfl, rfl, hR.1, hR.2, pay_in hts (g_good hm.1), List.mem_cons_self, hts _ hm.1, hts _ hm.2.2.1, hm.2.2.2.1, g_sig hm.2.2.2.2, hts _ hlk⟩, hts _ hm.2.1⟩ ⟨g_blind, g_pre hK hN hO hP hD hS hA is his hnd⟩ rfl hn hl.1.1 rfl (lv_room hw8) d hu) hl hP hD hS hA is his (fun v w1 hp => k v w1 hp)
theorem g_callSN {Γ : gT} {l : Launch} {R : Room} {cc : ByteArray} {nL : Nat} {own : String} {E : gE} {ret : Option FieldType} {init : Bool} {post : Option Value → Nat → Nat → va_W → Prop} {u z pc : Nat} {lv : gLV} {ws : va_W} (h : IsG Γ l R cc nL own E ret init post) {y : MethodName} {cy : ByteArray} {mL n index b : Nat} {rt : Option FieldType} {rm : Room} {As rest st0 : List Value} {wc : va_W} {postc : Option Value → va_W → Prop} {host : String} (hC : Ctr l y cy mL rt rm E As wc postc) (hm : gMS y cy mL rt n) (hlk : Cond.methodLinkNest own index y host ∈ lw_tbl) (d : decode cc pc = .ok (.invokestatic index, 3)) (hst : st0 = As.reverse ++ rest) (hn : As.length = n) (hR : rm.frames + 1 ≤ R.frames ∧ 8 + (mL + 11) + rm.locals ≤ R.locals) (hu : u + rm.cells ≤ R.cells ∧ z + rm.slots ≤ R.slots) (hw8 : (rest.map fun v => v.category).sum ≤ 8) (is : List Nat) (his : is.map (fun i => ws[i]?) = wc.map some) (hnd : va_nd is = true) (k : ∀ (v : Option Value) (w1 : va_W), postc v w1 → Γ (u + rm.cells) (z + rm.slots) (pc + 3) lv (v.toList ++ rest) (gmerge is w1 ws)) : Γ u z pc lv st0 ws := by
  obtain ⟨p, e, s, m, args, below, meth, c, A, Q, ⟨hx, hb, hml, ho, hts, hK, hA, hN, hO⟩, rfl, hin, hr⟩ := h
  intro H locs ls hl hP hD hS
  subst hst
  refine g_after (va_runSN (g := F0 m pc ls (As.reverse ++ rest)) (n := n) (bytes := cy) (maxL := mL) (ret := rt) (host := host) ⟨hx, hb, hml, ho, hts⟩ (hC H.size) ⟨⟨⟨rfl, rfl, hR.1, hR.2, pay_in hts (g_good hm.1), List.mem_cons_self⟩, hts _ hm.1, hts _ hm.2.2.1, hm.2.2.2.1, g_sig hm.2.2.2.2, va_Nw.use rfl (hN _ hlk rfl)⟩, hts _ hm.2.1, trivial⟩ ⟨g_blind, g_pre hK hN hO hP hD hS hA is his hnd⟩ rfl hn hl.1.1 rfl (lv_room hw8) d hu) hl hP hD hS hA is his (fun v w1 hp => k v w1 hp)
theorem g_callI {Γ : gT} {l : Launch} {R : Room} {cc : ByteArray} {nL : Nat} {own : String} {E : gE} {ret : Option FieldType} {init : Bool} {post : Option Value → Nat → Nat → va_W → Prop} {u z pc : Nat} {lv : gLV} {ws : va_W} (h : IsG Γ l R cc nL own E ret init post) {y : MethodName} {cy : ByteArray} {mL n index b : Nat} {rm : Room} {As rest st0 : List Value} {wc : va_W} {postc : Option Value → va_W → Prop} (hC : Ctr l y cy mL none rm E (.ref b :: As) wc postc) (hm : gMI y cy mL n) (hlk : Cond.methodLink own index y ∈ gTT) (d : decode cc pc = .ok (.invokespecial index, 3)) (hst : st0 = As.reverse ++ .ref b :: rest) (hn : As.length = n) (hR : rm.frames + 1 ≤ R.frames ∧ 8 + (mL + 11) + rm.locals ≤ R.locals) (hu : u + rm.cells ≤ R.cells ∧ z + rm.slots ≤ R.slots) (hw8 : (rest.map fun v => v.category).sum ≤ 8) (is : List Nat) (his : is.map (fun i => ws[i]?) = wc.map some) (hnd : va_nd is = true) (k : ∀ (v : Option Value) (w1 : va_W), postc v w1 → Γ (u + rm.cells) (z + rm.slots) (pc + 3) lv (v.toList ++ rest) (gmerge is w1 ws)) : Γ u z pc lv st0 ws := by
  obtain ⟨p, e, s, m, args, below, meth, c, A, Q, ⟨hx, hb, hml, ho, hts, hK, hA, hN, hO⟩, rfl, hin, hr⟩ := h
  intro H locs ls hl hP hD hS
  subst hst
  refine g_after (va_runI (g := F0 m pc ls (As.reverse ++ .ref b :: rest)) (n := n) (bytes := cy) (maxL := mL) ⟨hx, hb, hml, ho, hts⟩ (hC H.size) ⟨⟨rfl, rfl, hR.1, hR.2, pay_in hts (g_good hm.1), List.mem_cons_self, hts _ hm.1, hts _ hm.2.2.1, hm.2.2.2.2.1, g_sig hm.2.2.2.2.2, hts _ hlk⟩, hm.2.2.2.1, hts _ hm.2.1⟩ ⟨g_blind, g_pre hK hN hO hP hD hS hA is his hnd⟩ rfl hn hl.1.1 rfl (lv_room hw8) d hu) hl hP hD hS hA is his (fun v w1 hp => k v w1 hp)
theorem g_callIN {Γ : gT} {l : Launch} {R : Room} {cc : ByteArray} {nL : Nat} {own : String} {E : gE} {ret : Option FieldType} {init : Bool} {post : Option Value → Nat → Nat → va_W → Prop} {u z pc : Nat} {lv : gLV} {ws : va_W} (h : IsG Γ l R cc nL own E ret init post) {y : MethodName} {cy : ByteArray} {mL n index b : Nat} {rm : Room} {As rest st0 : List Value} {wc : va_W} {postc : Option Value → va_W → Prop} {host : String} (hC : Ctr l y cy mL none rm E (.ref b :: As) wc postc) (hm : gMI y cy mL n) (hlk : Cond.methodLinkNest own index y host ∈ lw_tbl) (d : decode cc pc = .ok (.invokespecial index, 3)) (hst : st0 = As.reverse ++ .ref b :: rest) (hn : As.length = n) (hR : rm.frames + 1 ≤ R.frames ∧ 8 + (mL + 11) + rm.locals ≤ R.locals) (hu : u + rm.cells ≤ R.cells ∧ z + rm.slots ≤ R.slots) (hw8 : (rest.map fun v => v.category).sum ≤ 8) (is : List Nat) (his : is.map (fun i => ws[i]?) = wc.map some) (hnd : va_nd is = true) (k : ∀ (v : Option Value) (w1 : va_W), postc v w1 → Γ (u + rm.cells) (z + rm.slots) (pc + 3) lv (v.toList ++ rest) (gmerge is w1 ws)) : Γ u z pc lv st0 ws := by
  obtain ⟨p, e, s, m, args, below, meth, c, A, Q, ⟨hx, hb, hml, ho, hts, hK, hA, hN, hO⟩, rfl, hin, hr⟩ := h
  intro H locs ls hl hP hD hS
  subst hst
  refine g_after (va_runIN (g := F0 m pc ls (As.reverse ++ .ref b :: rest)) (n := n) (bytes := cy) (maxL := mL) (host := host) ⟨hx, hb, hml, ho, hts⟩ (hC H.size) ⟨⟨⟨rfl, rfl, hR.1, hR.2, pay_in hts (g_good hm.1), List.mem_cons_self⟩, hts _ hm.1, hts _ hm.2.2.1, hm.2.2.2.2.1, g_sig hm.2.2.2.2.2, va_Nw.use rfl (hN _ hlk rfl)⟩, hm.2.2.2.1, hts _ hm.2.1⟩ ⟨g_blind, g_pre hK hN hO hP hD hS hA is his hnd⟩ rfl hn hl.1.1 rfl (lv_room hw8) d hu) hl hP hD hS hA is his (fun v w1 hp => k v w1 hp)
/-- a boolean as the machine has it -/
def bI (b : Bool) : Int32 := if b then 1 else 0
theorem bI_nar (b : Bool) : narrow .boolean (.int (bI b)) = .int (bI b) := by cases b <;> rfl
theorem bI_0 {b : Bool} : bI b = 0 ↔ b = false := by cases b <;> decide
theorem bI_n0 {b : Bool} : ¬ bI b = 0 ↔ b = true := by cases b <;> decide
/-- a contract whose answer and world are told as functions -/
abbrev CtrF (l : Launch) (y : MethodName) (cc : ByteArray) (maxL : Nat) (ret : Option FieldType) (rm : Room) (E : gE) (av : List Value) (wc : va_W) (v0 : Option Value) (w0 : va_W) : Prop := Ctr l y cc maxL ret rm E av wc (fun v w => v = v0 ∧ w = w0)
abbrev gR (f n : Nat) : Room := { frames := f, cells := 0, slots := 0, locals := n }
theorem gset_self {ws : va_W} {i : Nat} {x : Nat × va_E} (h : ws[i]? = some x) : ws.set i x = ws := by
  obtain ⟨hl, he⟩ := List.getElem?_eq_some_iff.mp h
  rw [← he]
  exact List.set_getElem_self hl
theorem gmerge_self : ∀ (is : List Nat) (wc ws : va_W), is.map (fun i => ws[i]?) = wc.map some → gmerge is wc ws = ws
  | [], [], ws, _ => List.append_nil ws
  | [], x :: wc, ws, h => by cases h
  | i :: is, [], ws, _ => rfl
  | i :: is, x :: wc, ws, h => by
    simp only [List.map_cons, List.cons.injEq] at h
    show gmerge is wc (ws.set i x) = ws
    rw [gset_self h.1]
    exact gmerge_self is wc ws h.2
theorem g_cVr {Γ : gT} {l : Launch} {R : Room} {cc : ByteArray} {nL : Nat} {own : String} {E : gE} {ret : Option FieldType} {init : Bool} {post : Option Value → Nat → Nat → va_W → Prop} {u z pc : Nat} {lv : gLV} {ws : va_W} (h : IsG Γ l R cc nL own E ret init post) {y : MethodName} {cy : ByteArray} {mL n index b f lo : Nat} {rt : Option FieldType} {As rest st0 : List Value} {wc : va_W} {v0 : Value} {C : String} {ci : Nat} {fs : List Value} {T : u_T} {N : Nat} (hC : CtrF l y cy mL rt (gR f lo) E (.ref b :: As) wc (some v0) wc) (hm : gMV C y cy mL rt n) (hlk : Cond.methodLink own index y ∈ gTT) (d : decode cc pc = .ok (.invokevirtual index, 3)) (hst : st0 = As.reverse ++ .ref b :: rest) (hn : As.length = n) (hu : u ≤ R.cells ∧ z ≤ R.slots) (hR : f + 1 ≤ R.frames ∧ 8 + (mL + 11) + lo ≤ R.locals) (hw8 : (rest.map fun v => v.category).sum ≤ 8) (is : List Nat) (his : is.map (fun i => ws[i]?) = wc.map some) (hnd : va_nd is = true) (q0 : Nat) (he : ws[q0]? = some (b, .inr (ci, fs))) (hci : vwCl[ci]? = some (C, T, N)) (k : Γ u z (pc + 3) lv (v0 :: rest) ws) : Γ u z pc lv st0 ws := by
  refine g_callV h hC hm hlk d hst hn hR hu hw8 is his hnd q0 he hci (fun v w1 hp => ?_)
  obtain ⟨rfl, rfl⟩ := hp
  rw [gmerge_self is _ ws his]
  exact k
theorem g_cVw {Γ : gT} {l : Launch} {R : Room} {cc : ByteArray} {nL : Nat} {own : String} {E : gE} {ret : Option FieldType} {init : Bool} {post : Option Value → Nat → Nat → va_W → Prop} {u z pc : Nat} {lv : gLV} {ws : va_W} (h : IsG Γ l R cc nL own E ret init post) {ws' : va_W} {y : MethodName} {cy : ByteArray} {mL n index b f lo : Nat} {rt : Option FieldType} {As rest st0 : List Value} {wc w0 : va_W} {v0 : Value} {C : String} {ci : Nat} {fs : List Value} {T : u_T} {N : Nat} (hC : CtrF l y cy mL rt (gR f lo) E (.ref b :: As) wc (some v0) w0) (hm : gMV C y cy mL rt n) (hlk : Cond.methodLink own index y ∈ gTT) (d : decode cc pc = .ok (.invokevirtual index, 3)) (hst : st0 = As.reverse ++ .ref b :: rest) (hn : As.length = n) (hu : u ≤ R.cells ∧ z ≤ R.slots) (hR : f + 1 ≤ R.frames ∧ 8 + (mL + 11) + lo ≤ R.locals) (hw8 : (rest.map fun v => v.category).sum ≤ 8) (is : List Nat) (his : is.map (fun i => ws[i]?) = wc.map some) (hnd : va_nd is = true) (q0 : Nat) (he : ws[q0]? = some (b, .inr (ci, fs))) (hci : vwCl[ci]? = some (C, T, N)) (hw' : gmerge is w0 ws = ws') (k : Γ u z (pc + 3) lv (v0 :: rest) ws') : Γ u z pc lv st0 ws := by
  refine g_callV h hC hm hlk d hst hn hR hu hw8 is his hnd q0 he hci (fun v w1 hp => ?_)
  obtain ⟨rfl, rfl⟩ := hp
  rw [hw']
  exact k
theorem g_cVv {Γ : gT} {l : Launch} {R : Room} {cc : ByteArray} {nL : Nat} {own : String} {E : gE} {ret : Option FieldType} {init : Bool} {post : Option Value → Nat → Nat → va_W → Prop} {u z pc : Nat} {lv : gLV} {ws : va_W} (h : IsG Γ l R cc nL own E ret init post) {ws' : va_W} {y : MethodName} {cy : ByteArray} {mL n index b f lo : Nat} {rt : Option FieldType} {As rest st0 : List Value} {wc w0 : va_W} {C : String} {ci : Nat} {fs : List Value} {T : u_T} {N : Nat} (hC : CtrF l y cy mL rt (gR f lo) E (.ref b :: As) wc none w0) (hm : gMV C y cy mL rt n) (hlk : Cond.methodLink own index y ∈ gTT) (d : decode cc pc = .ok (.invokevirtual index, 3)) (hst : st0 = As.reverse ++ .ref b :: rest) (hn : As.length = n) (hu : u ≤ R.cells ∧ z ≤ R.slots) (hR : f + 1 ≤ R.frames ∧ 8 + (mL + 11) + lo ≤ R.locals) (hw8 : (rest.map fun v => v.category).sum ≤ 8) (is : List Nat) (his : is.map (fun i => ws[i]?) = wc.map some) (hnd : va_nd is = true) (q0 : Nat) (he : ws[q0]? = some (b, .inr (ci, fs))) (hci : vwCl[ci]? = some (C, T, N)) (hw' : gmerge is w0 ws = ws') (k : Γ u z (pc + 3) lv rest ws') : Γ u z pc lv st0 ws := by
  refine g_callV h hC hm hlk d hst hn hR hu hw8 is his hnd q0 he hci (fun v w1 hp => ?_)
  obtain ⟨rfl, rfl⟩ := hp
  rw [hw']
  exact k
theorem g_cSr {Γ : gT} {l : Launch} {R : Room} {cc : ByteArray} {nL : Nat} {own : String} {E : gE} {ret : Option FieldType} {init : Bool} {post : Option Value → Nat → Nat → va_W → Prop} {u z pc : Nat} {lv : gLV} {ws : va_W} (h : IsG Γ l R cc nL own E ret init post) {y : MethodName} {cy : ByteArray} {mL n index f lo : Nat} {rt : Option FieldType} {As rest st0 : List Value} {wc : va_W} {v0 : Value} (hC : CtrF l y cy mL rt (gR f lo) E As wc (some v0) wc) (hm : gMS y cy mL rt n) (hlk : Cond.methodLink own index y ∈ gTT) (d : decode cc pc = .ok (.invokestatic index, 3)) (hst : st0 = As.reverse ++ rest) (hn : As.length = n) (hu : u ≤ R.cells ∧ z ≤ R.slots) (hR : f + 1 ≤ R.frames ∧ 8 + (mL + 11) + lo ≤ R.locals) (hw8 : (rest.map fun v => v.category).sum ≤ 8) (is : List Nat) (his : is.map (fun i => ws[i]?) = wc.map some) (hnd : va_nd is = true) (k : Γ u z (pc + 3) lv (v0 :: rest) ws) : Γ u z pc lv st0 ws := by
  refine g_callS (b := 0) h hC hm hlk d hst hn hR hu hw8 is his hnd (fun v w1 hp => ?_)
  obtain ⟨rfl, rfl⟩ := hp
  rw [gmerge_self is _ ws his]
  exact k
theorem g_cSw {Γ : gT} {l : Launch} {R : Room} {cc : ByteArray} {nL : Nat} {own : String} {E : gE} {ret : Option FieldType} {init : Bool} {post : Option Value → Nat → Nat → va_W → Prop} {u z pc : Nat} {lv : gLV} {ws : va_W} (h : IsG Γ l R cc nL own E ret init post) {ws' : va_W} {y : MethodName} {cy : ByteArray} {mL n index f lo : Nat} {rt : Option FieldType} {As rest st0 : List Value} {wc w0 : va_W} {v0 : Value} (hC : CtrF l y cy mL rt (gR f lo) E As wc (some v0) w0) (hm : gMS y cy mL rt n) (hlk : Cond.methodLink own index y ∈ gTT) (d : decode cc pc = .ok (.invokestatic index, 3)) (hst : st0 = As.reverse ++ rest) (hn : As.length = n) (hu : u ≤ R.cells ∧ z ≤ R.slots) (hR : f + 1 ≤ R.frames ∧ 8 + (mL + 11) + lo ≤ R.locals) (hw8 : (rest.map fun v => v.category).sum ≤ 8) (is : List Nat) (his : is.map (fun i => ws[i]?) = wc.map some) (hnd : va_nd is = true) (hw' : gmerge is w0 ws = ws') (k : Γ u z (pc + 3) lv (v0 :: rest) ws') : Γ u z pc lv st0 ws := by
  refine g_callS (b := 0) h hC hm hlk d hst hn hR hu hw8 is his hnd (fun v w1 hp => ?_)
  obtain ⟨rfl, rfl⟩ := hp
  rw [hw']
  exact k
theorem g_cSv {Γ : gT} {l : Launch} {R : Room} {cc : ByteArray} {nL : Nat} {own : String} {E : gE} {ret : Option FieldType} {init : Bool} {post : Option Value → Nat → Nat → va_W → Prop} {u z pc : Nat} {lv : gLV} {ws : va_W} (h : IsG Γ l R cc nL own E ret init post) {ws' : va_W} {y : MethodName} {cy : ByteArray} {mL n index f lo : Nat} {rt : Option FieldType} {As rest st0 : List Value} {wc w0 : va_W} (hC : CtrF l y cy mL rt (gR f lo) E As wc none w0) (hm : gMS y cy mL rt n) (hlk : Cond.methodLink own index y ∈ gTT) (d : decode cc pc = .ok (.invokestatic index, 3)) (hst : st0 = As.reverse ++ rest) (hn : As.length = n) (hu : u ≤ R.cells ∧ z ≤ R.slots) (hR : f + 1 ≤ R.frames ∧ 8 + (mL + 11) + lo ≤ R.locals) (hw8 : (rest.map fun v => v.category).sum ≤ 8) (is : List Nat) (his : is.map (fun i => ws[i]?) = wc.map some) (hnd : va_nd is = true) (hw' : gmerge is w0 ws = ws') (k : Γ u z (pc + 3) lv rest ws') : Γ u z pc lv st0 ws := by
  refine g_callS (b := 0) h hC hm hlk d hst hn hR hu hw8 is his hnd (fun v w1 hp => ?_)
  obtain ⟨rfl, rfl⟩ := hp
  rw [hw']
  exact k
theorem g_cNr {Γ : gT} {l : Launch} {R : Room} {cc : ByteArray} {nL : Nat} {own : String} {E : gE} {ret : Option FieldType} {init : Bool} {post : Option Value → Nat → Nat → va_W → Prop} {u z pc : Nat} {lv : gLV} {ws : va_W} (h : IsG Γ l R cc nL own E ret init post) {y : MethodName} {cy : ByteArray} {mL n index f lo : Nat} {rt : Option FieldType} {As rest st0 : List Value} {wc : va_W} {v0 : Value} {host : String} (hC : CtrF l y cy mL rt (gR f lo) E As wc (some v0) wc) (hm : gMS y cy mL rt n) (hlk : Cond.methodLinkNest own index y host ∈ lw_tbl) (d : decode cc pc = .ok (.invokestatic index, 3)) (hst : st0 = As.reverse ++ rest) (hn : As.length = n) (hu : u ≤ R.cells ∧ z ≤ R.slots) (hR : f + 1 ≤ R.frames ∧ 8 + (mL + 11) + lo ≤ R.locals) (hw8 : (rest.map fun v => v.category).sum ≤ 8) (is : List Nat) (his : is.map (fun i => ws[i]?) = wc.map some) (hnd : va_nd is = true) (k : Γ u z (pc + 3) lv (v0 :: rest) ws) : Γ u z pc lv st0 ws := by
  refine g_callSN (b := 0) h hC hm hlk d hst hn hR hu hw8 is his hnd (fun v w1 hp => ?_)
  obtain ⟨rfl, rfl⟩ := hp
  rw [gmerge_self is _ ws his]
  exact k
theorem g_cNw {Γ : gT} {l : Launch} {R : Room} {cc : ByteArray} {nL : Nat} {own : String} {E : gE} {ret : Option FieldType} {init : Bool} {post : Option Value → Nat → Nat → va_W → Prop} {u z pc : Nat} {lv : gLV} {ws : va_W} (h : IsG Γ l R cc nL own E ret init post) {ws' : va_W} {y : MethodName} {cy : ByteArray} {mL n index f lo : Nat} {rt : Option FieldType} {As rest st0 : List Value} {wc w0 : va_W} {v0 : Value} {host : String} (hC : CtrF l y cy mL rt (gR f lo) E As wc (some v0) w0) (hm : gMS y cy mL rt n) (hlk : Cond.methodLinkNest own index y host ∈ lw_tbl) (d : decode cc pc = .ok (.invokestatic index, 3)) (hst : st0 = As.reverse ++ rest) (hn : As.length = n) (hu : u ≤ R.cells ∧ z ≤ R.slots) (hR : f + 1 ≤ R.frames ∧ 8 + (mL + 11) + lo ≤ R.locals) (hw8 : (rest.map fun v => v.category).sum ≤ 8) (is : List Nat) (his : is.map (fun i => ws[i]?) = wc.map some) (hnd : va_nd is = true) (hw' : gmerge is w0 ws = ws') (k : Γ u z (pc + 3) lv (v0 :: rest) ws') : Γ u z pc lv st0 ws := by
  refine g_callSN (b := 0) h hC hm hlk d hst hn hR hu hw8 is his hnd (fun v w1 hp => ?_)
  obtain ⟨rfl, rfl⟩ := hp
  rw [hw']
  exact k
theorem g_cNv {Γ : gT} {l : Launch} {R : Room} {cc : ByteArray} {nL : Nat} {own : String} {E : gE} {ret : Option FieldType} {init : Bool} {post : Option Value → Nat → Nat → va_W → Prop} {u z pc : Nat} {lv : gLV} {ws : va_W} (h : IsG Γ l R cc nL own E ret init post) {ws' : va_W} {y : MethodName} {cy : ByteArray} {mL n index f lo : Nat} {rt : Option FieldType} {As rest st0 : List Value} {wc w0 : va_W} {host : String} (hC : CtrF l y cy mL rt (gR f lo) E As wc none w0) (hm : gMS y cy mL rt n) (hlk : Cond.methodLinkNest own index y host ∈ lw_tbl) (d : decode cc pc = .ok (.invokestatic index, 3)) (hst : st0 = As.reverse ++ rest) (hn : As.length = n) (hu : u ≤ R.cells ∧ z ≤ R.slots) (hR : f + 1 ≤ R.frames ∧ 8 + (mL + 11) + lo ≤ R.locals) (hw8 : (rest.map fun v => v.category).sum ≤ 8) (is : List Nat) (his : is.map (fun i => ws[i]?) = wc.map some) (hnd : va_nd is = true) (hw' : gmerge is w0 ws = ws') (k : Γ u z (pc + 3) lv rest ws') : Γ u z pc lv st0 ws := by
  refine g_callSN (b := 0) h hC hm hlk d hst hn hR hu hw8 is his hnd (fun v w1 hp => ?_)
  obtain ⟨rfl, rfl⟩ := hp
  rw [hw']
  exact k
theorem g_ifb_eq {Γ : gT} {l : Launch} {R : Room} {cc : ByteArray} {nL : Nat} {own : String} {E : gE} {ret : Option FieldType} {init : Bool} {post : Option Value → Nat → Nat → va_W → Prop} {u z pc : Nat} {lv : gLV} {st : List Value} {ws : va_W} (h : IsG Γ l R cc nL own E ret init post) {bb : Bool} {off : Int} {tgt : Nat} (d : decode cc pc = .ok (.ifCond .eq off, 3)) (ht : (pc : Int) + off = (tgt : Int)) (kt : bb = false → Γ u z tgt lv st ws) (kf : bb = true → Γ u z (pc + 3) lv st ws) : Γ u z pc lv (.int (bI bb) :: st) ws := by
  exact g_if_eq h d ht (fun q => kt (bI_0.mp q)) (fun q => kf (bI_n0.mp q))
theorem g_ifb_ne {Γ : gT} {l : Launch} {R : Room} {cc : ByteArray} {nL : Nat} {own : String} {E : gE} {ret : Option FieldType} {init : Bool} {post : Option Value → Nat → Nat → va_W → Prop} {u z pc : Nat} {lv : gLV} {st : List Value} {ws : va_W} (h : IsG Γ l R cc nL own E ret init post) {bb : Bool} {off : Int} {tgt : Nat} (d : decode cc pc = .ok (.ifCond .ne off, 3)) (ht : (pc : Int) + off = (tgt : Int)) (kt : bb = true → Γ u z tgt lv st ws) (kf : bb = false → Γ u z (pc + 3) lv st ws) : Γ u z pc lv (.int (bI bb) :: st) ws := by
  exact g_if_ne h d ht (fun q => kt (bI_n0.mp q)) (fun q => kf (bI_0.mp q))
theorem g_topi {Γ : gT} {u z pc : Nat} {lv : gLV} {st : List Value} {ws : va_W} {x : Int32} (y : Int32) (h : x = y) (k : Γ u z pc lv (.int y :: st) ws) : Γ u z pc lv (.int x :: st) ws := h ▸ k
theorem g_topl {Γ : gT} {u z pc : Nat} {lv : gLV} {st : List Value} {ws : va_W} {x : Int64} (y : Int64) (h : x = y) (k : Γ u z pc lv (.long y :: st) ws) : Γ u z pc lv (.long x :: st) ws := h ▸ k
theorem g_lv {Γ : gT} {u z pc : Nat} {lv : gLV} {st : List Value} {ws : va_W} (lv' : gLV) (h : lv = lv') (k : Γ u z pc lv' st ws) : Γ u z pc lv st ws := h ▸ k
theorem g_as {Γ : gT} {u z pc pc' : Nat} {lv lv' : gLV} {st st' : List Value} {ws ws' : va_W} (h0 : pc = pc') (h1 : lv = lv') (h2 : st = st') (h3 : ws = ws') (k : Γ u z pc' lv' st' ws') : Γ u z pc lv st ws := by subst h0; subst h1; subst h2; subst h3; exact k
