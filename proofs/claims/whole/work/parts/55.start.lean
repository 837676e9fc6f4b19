/-! the start -/
def inF (g : Nat → Int32) (t : Nat) : Nat → Int32 := fun j => if 88 ≤ j ∧ j < 88 + t then 1 else if 124 ≤ j ∧ j < 124 + t then 0 else g j
theorem inF_0 (g : Nat → Int32) : inF g 0 = g := by
  funext j
  unfold inF
  rw [if_neg (by omega), if_neg (by omega)]
theorem inF_s (g : Nat → Int32) {t : Nat} (ht : t < 36) : upd (upd (inF g t) (88 + t) 1) (124 + t) 0 = inF g (t + 1) := by
  funext j
  by_cases a : j = 124 + t
  · rw [a, pk_us]
    unfold inF
    rw [if_neg (by omega), if_pos (by omega)]
  · rw [pk_un a]
    by_cases b : j = 88 + t
    · rw [b, pk_us]
      unfold inF
      rw [if_pos (by omega)]
    · rw [pk_un b]
      unfold inF
      by_cases c : 88 ≤ j ∧ j < 88 + t
      · rw [if_pos c, if_pos (by omega)]
      · rw [if_neg c, if_neg (show ¬ (88 ≤ j ∧ j < 88 + (t + 1)) by omega)]
        by_cases d : 124 ≤ j ∧ j < 124 + t
        · rw [if_pos d, if_pos (show 124 ≤ j ∧ j < 124 + (t + 1) by omega)]
        · rw [if_neg d, if_neg (show ¬ (124 ≤ j ∧ j < 124 + (t + 1)) by omega)]
theorem init142 {fu : Nat} (S : gS) (g : Nat → Int32) : ∀ (j t : Nat), t ≤ 36 → 36 - t < j → lX11_init_142 fu j (nI t) (sA S 0 (inF g t)) = some (sA S 0 (inF g 36)) := by
  intro j
  induction j with
  | zero => intro t _ hj; exact absurd hj (Nat.not_lt_zero _)
  | succ j ih =>
    intro t ht hj
    rw [lX11_init_142]
    by_cases e : t = 36
    · subst e
      rw [if_pos (by decide)]
    · rw [if_neg (show ¬ (36 : Int32) ≤ nI t from nI_ge (b := 36) (by omega) (by decide)), gIx_a (a := 88) 88 rfl (by omega) (by decide), gIx_a (a := 124) 124 rfl (by omega) (by decide)]
      simp only [Option.bind_some]
      rw [sAu_sA, sAu_sA, nI_1, inF_s g (by omega)]
      exact ih (t + 1) (by omega) (by omega)
def ssF (t : Nat) : Nat → Int32 := fun j => if j < t then -1 else 0
theorem ssF_s (t : Nat) : upd (ssF t) t (-1) = ssF (t + 1) := by
  funext j
  unfold upd ssF
  by_cases a : j = t
  · rw [if_pos a, if_pos (by omega)]
  · rw [if_neg a]
    by_cases b : j < t
    · rw [if_pos b, if_pos (by omega)]
    · rw [if_neg b, if_neg (by omega)]
theorem init122 {fu : Nat} (S : gS) : ∀ (j t : Nat), t ≤ 3 → 3 - t < j → lX11_init_122 fu j (nI t) (sA S 4 (ssF t)) = lX11_init_142 fu fu 0 (sA S 4 (ssF 3)) := by
  intro j
  induction j with
  | zero => intro t _ hj; exact absurd hj (Nat.not_lt_zero _)
  | succ j ih =>
    intro t ht hj
    rw [lX11_init_122]
    by_cases e : t = 3
    · subst e
      rw [if_pos (by decide)]
    · rw [if_neg (show ¬ (3 : Int32) ≤ nI t from nI_ge (b := 3) (by omega) (by decide)), gIx_n (by omega) (by decide)]
      simp only [Option.bind_some]
      rw [sAu_sA, nI_1, ssF_s]
      exact ih (t + 1) (by omega) (by omega)
def r0S : gS := sA (sA z0X11 4 (ssF 3)) 0 (inF (fun _ => 0) 36)
theorem init_eq {fu : Nat} (hfu : 40 ≤ fu) : fX11_init fu z0X11 = some r0S := by
  unfold fX11_init
  have h1 := init122 (fu := fu) z0X11 fu 0 (by omega) (by omega)
  have e1 : sA z0X11 4 (ssF 0) = z0X11 := sA_self z0X11 4
  rw [e1, nI_0] at h1
  rw [h1]
  have h2 := init142 (fu := fu) (sA z0X11 4 (ssF 3)) (fun _ => 0) fu 0 (by omega) (by omega)
  have e2 : sA (sA z0X11 4 (ssF 3)) 0 (inF (fun _ => 0) 0) = sA z0X11 4 (ssF 3) := by
    rw [inF_0]
    exact sA_self (sA z0X11 4 (ssF 3)) 0
  rw [e2, nI_0] at h2
  exact h2
theorem start_rR : rR z0X10 r0S 0 := by
  unfold rR
  refine ⟨?_, ⟨rfl, fun q => by cases q⟩, fun k hk => ?_, fun j _ => Nat.zero_le _, ⟨rfl, rfl, by decide, fun q => by cases q⟩, rfl, ⟨Nat.zero_le _, rfl, fun j hj => absurd hj (Nat.not_lt_zero _)⟩, ⟨rfl, 0, by decide, rfl, fun j hj => absurd hj (Nat.not_lt_zero _)⟩, fun k _ _ => ⟨0, Nat.le_refl _, rfl, rfl⟩⟩
  · show rSt z0X10.1 (inF (fun _ => 0) 36)
    refine ⟨⟨Nat.zero_le _, rfl, fun j hj => absurd hj (Nat.not_lt_zero _)⟩, ⟨Nat.zero_le _, rfl, fun j hj => absurd hj (Nat.not_lt_zero _)⟩, ⟨Nat.zero_le _, rfl, fun j hj => absurd hj (Nat.not_lt_zero _)⟩, fun j hj => ?_⟩
    have a : inF (fun _ => 0) 36 (88 + j) = 1 := if_pos (by omega)
    have b : inF (fun _ => 0) 36 (124 + j) = 0 := by
      unfold inF
      rw [if_neg (by omega), if_pos (by omega)]
    rw [a, b]
    exact ⟨(show false = decide ((1 : Int32) ≤ 0) by decide), by decide, by decide, fun q => by cases q⟩
  · have e : ∀ k, k < 3 → z0X10.2.2.2.1.1 k = -1 := fun k hk => if_pos hk
    refine ⟨?_, ?_, fun j hj => ?_⟩
    · rw [e k hk]
      exact if_pos hk
    · rw [e k hk]
      decide
    · rw [e k hk] at hj
      have : (-1 : Int32).toInt = -1 := rfl
      omega
