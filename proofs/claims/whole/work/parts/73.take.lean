/-! the reference's scratch -/
def scr (S S' : gS) : Prop := (∀ k, k ≠ 20 → iF S' k = iF S k) ∧ (∀ k, k ≠ 25 → lF S' k = lF S k) ∧ (∀ k, k ≠ 21 → iA S' k = iA S k) ∧ (∀ k, k < 22 → lA S' k = lA S k)
theorem scr_refl (S : gS) : scr S S := ⟨fun _ _ => rfl, fun _ _ => rfl, fun _ _ => rfl, fun _ _ => rfl⟩
theorem scr_trans {S S' S2 : gS} (h : scr S S') (h2 : scr S' S2) : scr S S2 := ⟨fun k hk => (h2.1 k hk).trans (h.1 k hk), fun k hk => (h2.2.1 k hk).trans (h.2.1 k hk), fun k hk => (h2.2.2.1 k hk).trans (h.2.2.1 k hk), fun k hk => (h2.2.2.2 k hk).trans (h.2.2.2 k hk)⟩
theorem rR_scr {T : sWB} {S S' : gS} {c : Nat} (h : rR T S c) (q : scr S S') : rR T S' c := by
  obtain ⟨q1, q2, q3, q4⟩ := q
  unfold rR at *
  rw [q3 0 (by decide), q3 1 (by decide), q1 2 (by decide), q3 3 (by decide), q3 4 (by decide), q1 12 (by decide), q1 13 (by decide), q1 14 (by decide), q1 15 (by decide), q3 16 (by decide), q4 17 (by decide), q2 18 (by decide), q2 19 (by decide), q2 11 (by decide), q1 5 (by decide), q3 6 (by decide), q3 7 (by decide), q3 9 (by decide), q1 8 (by decide), q4 10 (by decide)]
  exact h
theorem uG_n {α : Type} {f : Nat → α} {k j : Nat} {v : α} (h : j ≠ k) : uG f k v j = f j := if_neg h
theorem uG_s {α : Type} {f : Nat → α} {k : Nat} {v : α} : uG f k v k = v := if_pos rfl
theorem iF_sI (S : gS) (k : Nat) (v : Int32) : iF (sI S k v) k = v := if_pos rfl
theorem iA_sA (S : gS) (k : Nat) (f : Nat → Int32) : iA (sA S k f) k = f := if_pos rfl
theorem lF_sL (S : gS) (k : Nat) (v : Int64) : lF (sL S k v) k = v := if_pos rfl
theorem lA_sB (S : gS) (k : Nat) (f : Nat → Int64) : lA (sB S k f) k = f := if_pos rfl
theorem lA_sB_n (S : gS) {k j : Nat} (f : Nat → Int64) (h : j ≠ k) : lA (sB S k f) j = lA S j := if_neg h
theorem scr_sI (S : gS) (v : Int32) : scr S (sI S 20 v) := ⟨fun k hk => uG_n hk, fun _ _ => rfl, fun _ _ => rfl, fun _ _ => rfl⟩
theorem scr_sL (S : gS) (v : Int64) : scr S (sL S 25 v) := ⟨fun _ _ => rfl, fun k hk => uG_n hk, fun _ _ => rfl, fun _ _ => rfl⟩
theorem scr_sA (S : gS) (v : Nat → Int32) : scr S (sA S 21 v) := ⟨fun _ _ => rfl, fun _ _ => rfl, fun k hk => uG_n hk, fun _ _ => rfl⟩
theorem scr_sB (S : gS) {b : Nat} (hb : 22 ≤ b) (v : Nat → Int64) : scr S (sB S b v) := ⟨fun _ _ => rfl, fun _ _ => rfl, fun _ _ => rfl, fun k hk => uG_n (by omega)⟩
/-- a model is taken -/
def mtk (S : gS) (m : Nat) : Prop := iF S 20 = nI (popc m) ∧ ∀ i, i < popc m → iA S 21 i = nI (nthB 8 m i)
theorem mtk_scr {S S' : gS} {m : Nat} (h : mtk S m) (e1 : iF S' 20 = iF S 20) (e2 : iA S' 21 = iA S 21) : mtk S' m := by
  unfold mtk
  rw [e1, e2]
  exact h
set_option maxRecDepth 100000 in
theorem shr_bit : ∀ m, m < 256 → ∀ c, c < 8 → (((nI m >>> (nI c &&& 31)) &&& (1 : Int32)) = (1 : Int32) ↔ m.testBit c = true) := by decide +kernel
set_option maxRecDepth 100000 in
theorem plN_s : ∀ m, m < 256 → ∀ c, c < 8 → plN m (c + 1) = plN m c + (if m.testBit c = true then 1 else 0) := by decide +kernel
set_option maxRecDepth 100000 in
theorem plN_8 : ∀ m, m < 256 → plN m 8 = popc m := by decide +kernel
theorem tk_loop {fu m : Nat} (hm : m < 256) (h4 : popc m ≤ 4) : ∀ (j c : Nat) (S : gS), c ≤ 8 → 8 - c < j → iF S 20 = nI (plN m c) → (∀ i, i < plN m c → iA S 21 i = nI (nthB 8 m i)) → ∃ S', lX11_takeModel_7 fu (nI m) j (nI c) S = some S' ∧ scr S S' ∧ mtk S' m := by
  intro j
  induction j with
  | zero => intro c S _ hj; exact absurd hj (Nat.not_lt_zero _)
  | succ j ih =>
    intro c S hc hj h20 h21
    rw [lX11_takeModel_7]
    by_cases e : c = 8
    · subst e
      rw [plN_8 m hm] at h20 h21
      rw [if_pos (show (8 : Int32) ≤ nI 8 by decide +kernel)]
      exact ⟨S, rfl, scr_refl S, h20, h21⟩
    · rw [if_neg (show ¬ (8 : Int32) ≤ nI c from nI_ge (a := c) (b := 8) (by omega) (by decide))]
      have ps := plN_s m hm c (by omega)
      by_cases b : m.testBit c = true
      · rw [if_pos ((shr_bit m hm c (by omega)).mpr b), h20]
        rw [if_pos b] at ps
        have p2 := plN_2 m hm c (by omega) b
        rw [gIx_n (by omega) (by decide)]
        simp only [Option.bind_some, nI_1]
        obtain ⟨S', g1, g2, g3⟩ := ih (c + 1) (sI (sAu S 21 (plN m c) (nI c)) 20 (iF (sAu S 21 (plN m c) (nI c)) 20 + 1)) (by omega) (by omega) (by
          rw [iF_sI]
          show iF S 20 + 1 = _
          rw [h20, nI_1, ps]) (fun i hi => by
          show iA (sA S 21 (upd (iA S 21) (plN m c) (nI c))) 21 i = _
          rw [iA_sA]
          by_cases q : i = plN m c
          · rw [q, pk_us, p2.2]
          · rw [pk_un q]
            exact h21 i (by omega))
        exact ⟨S', g1, scr_trans (scr_trans (scr_sA S _) (scr_sI _ _)) g2, g3⟩
      · rw [if_neg (fun q => b ((shr_bit m hm c (by omega)).mp q)), nI_1]
        rw [if_neg b] at ps
        exact ih (c + 1) S (by omega) (by omega) (by rw [ps]; exact h20) (by rw [ps]; exact h21)
theorem take_eq {fu m : Nat} (hfu : 10 ≤ fu) (hm : m < 256) (h4 : popc m ≤ 4) (S : gS) : ∃ S', fX11_takeModel fu S (nI m) = some S' ∧ scr S S' ∧ mtk S' m := by
  unfold fX11_takeModel
  simp only [Option.bind_some]
  obtain ⟨S', g1, g2, g3⟩ := tk_loop (fu := fu) hm h4 fu 0 (sI S 20 0) (by omega) (by omega) (by rw [iF_sI, plN, Nat.pow_zero, Nat.mod_one]; rfl) (fun i hi => absurd hi (by simp [plN, Nat.mod_one, popc]))
  rw [nI_0] at g1
  exact ⟨S', g1, scr_trans (scr_sI S _) g2, g3⟩
/-! the reference's determinants -/
def ent (f g : Nat → Int64) (p r c : Nat) : Int64 := if c = p then g r else f (4 * r + c)
theorem ent_eq {fu : Nat} {S : gS} {v : Int32} {p : Nat} (hv : ∀ c, c < 4 → (nI c = v ↔ c = p)) {r c : Nat} (hr : r < 4) (hc : c < 4) : fX11_entry fu S (nI r) (nI c) v = some (ent (lA S 22) (lA S 23) p r c) := by
  unfold fX11_entry ent
  by_cases e : c = p
  · rw [if_pos e, if_pos ((hv c hc).mpr e), gIx_n hr (by decide)]
    rfl
  · rw [if_neg e, if_neg (fun q => e ((hv c hc).mp q)), show (4 : Int32) * nI r + nI c = nI (4 * r + c) by
      rw [show (4 : Int32) = nI 4 from rfl, pk_mul, nI_add], gIx_n (by omega) (by decide)]
    rfl
theorem two_eq {fu : Nat} {S : gS} {v : Int32} {p : Nat} (hv : ∀ c, c < 4 → (nI c = v ↔ c = p)) {r s c d : Nat} (hr : r < 4) (hs : s < 4) (hc : c < 4) (hd : d < 4) : fX11_two fu S (nI r) (nI s) (nI c) (nI d) v = some (q2 (ent (lA S 22) (lA S 23) p) r s c d) := by
  unfold fX11_two
  rw [ent_eq hv hr hc, ent_eq hv hs hd, ent_eq hv hr hd, ent_eq hv hs hc]
  rfl
theorem three_eq {fu : Nat} {S : gS} {v : Int32} {p : Nat} (hv : ∀ c, c < 4 → (nI c = v ↔ c = p)) {r s t c d e : Nat} (hr : r < 4) (hs : s < 4) (ht : t < 4) (hc : c < 4) (hd : d < 4) (he : e < 4) : fX11_three fu S (nI r) (nI s) (nI t) (nI c) (nI d) (nI e) v = some (q3 (ent (lA S 22) (lA S 23) p) r s t c d e) := by
  unfold fX11_three
  rw [ent_eq hv hr hc, ent_eq hv hr hd, ent_eq hv hr he, two_eq hv hs ht hd he, two_eq hv hs ht hc he, two_eq hv hs ht hc hd]
  rfl
theorem whole_eq {fu : Nat} {S : gS} {v : Int32} {p n : Nat} (h1 : 1 ≤ n) (h4 : n ≤ 4) (hn : iF S 20 = nI n) (hv : ∀ c, c < 4 → (nI c = v ↔ c = p)) : fX11_whole fu S v = some (qn (ent (lA S 22) (lA S 23) p) n) := by
  have E : ∀ r c, r < 4 → c < 4 → fX11_entry fu S (nI r) (nI c) v = some (ent (lA S 22) (lA S 23) p r c) := fun r c hr hc => ent_eq hv hr hc
  unfold fX11_whole
  rw [hn]
  have hc : n = 1 ∨ n = 2 ∨ n = 3 ∨ n = 4 := by omega
  rcases hc with rfl | rfl | rfl | rfl
  · rw [if_pos (show nI 1 = 1 from rfl), show fX11_entry fu S 0 0 v = _ from E 0 0 (by decide) (by decide)]
    rfl
  · rw [if_neg (show ¬ nI 2 = 1 by decide +kernel), if_pos (show nI 2 = 2 from rfl), show fX11_two fu S 0 1 0 1 v = _ from two_eq (r := 0) (s := 1) (c := 0) (d := 1) hv (by decide) (by decide) (by decide) (by decide)]
    rfl
  · rw [if_neg (show ¬ nI 3 = 1 by decide +kernel), if_neg (show ¬ nI 3 = 2 by decide +kernel), if_pos (show nI 3 = 3 from rfl), show fX11_three fu S 0 1 2 0 1 2 v = _ from three_eq (r := 0) (s := 1) (t := 2) (c := 0) (d := 1) (e := 2) hv (by decide) (by decide) (by decide) (by decide) (by decide) (by decide)]
    rfl
  · rw [if_neg (show ¬ nI 4 = 1 by decide +kernel), if_neg (show ¬ nI 4 = 2 by decide +kernel), if_neg (show ¬ nI 4 = 3 by decide +kernel), show fX11_entry fu S 0 0 v = _ from E 0 0 (by decide) (by decide), show fX11_entry fu S 0 1 v = _ from E 0 1 (by decide) (by decide), show fX11_entry fu S 0 2 v = _ from E 0 2 (by decide) (by decide), show fX11_entry fu S 0 3 v = _ from E 0 3 (by decide) (by decide), show fX11_three fu S 1 2 3 1 2 3 v = _ from three_eq (r := 1) (s := 2) (t := 3) (c := 1) (d := 2) (e := 3) hv (by decide) (by decide) (by decide) (by decide) (by decide) (by decide), show fX11_three fu S 1 2 3 0 2 3 v = _ from three_eq (r := 1) (s := 2) (t := 3) (c := 0) (d := 2) (e := 3) hv (by decide) (by decide) (by decide) (by decide) (by decide) (by decide), show fX11_three fu S 1 2 3 0 1 3 v = _ from three_eq (r := 1) (s := 2) (t := 3) (c := 0) (d := 1) (e := 3) hv (by decide) (by decide) (by decide) (by decide) (by decide) (by decide), show fX11_three fu S 1 2 3 0 1 2 v = _ from three_eq (r := 1) (s := 2) (t := 3) (c := 0) (d := 1) (e := 2) hv (by decide) (by decide) (by decide) (by decide) (by decide) (by decide)]
    rfl
