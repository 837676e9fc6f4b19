/-! weighing and gathering -/
def xr (s : sSt) (i c : Nat) : Int64 := if c < 8 then (shw s.1.1 s.1.2.1 s.1.2.2.1 s.1.2.2.2 (nI c) (s.2.1.2.1 i)).toInt64 else (s.2.1.2.2 i).toInt64
def rowF (r0 x : Nat → Int64) (t : Nat) : Nat → Int64 := fun c => if c < t then x c else r0 c
theorem rowF_0 (r0 x : Nat → Int64) : rowF r0 x 0 = r0 := by
  funext c
  exact if_neg (Nat.not_lt_zero _)
theorem rowF_s (r0 x : Nat → Int64) (t : Nat) {v : Int64} (hv : v = x t) : vp_updL (rowF r0 x t) t v = rowF r0 x (t + 1) := by
  funext c
  unfold vp_updL rowF
  by_cases e : c = t
  · rw [if_pos e, if_pos (by omega), e, hv]
  · rw [if_neg e]
    by_cases q : c < t
    · rw [if_pos q, if_pos (by omega)]
    · rw [if_neg q, if_neg (by omega)]
def wT (tb x : Nat → Int64) (v : Int64) (m : Nat) : Nat → Int64 := fun k => if k < m then tb k + v * x (k / 9) * x (k % 9) else tb k
theorem wT_0 (tb x : Nat → Int64) (v : Int64) : wT tb x v 0 = tb := by
  funext c
  exact if_neg (Nat.not_lt_zero _)
theorem wT_s (tb x : Nat → Int64) (v : Int64) {a b : Nat} (hb : b < 9) : vp_updL (wT tb x v (9 * a + b)) (9 * a + b) (wT tb x v (9 * a + b) (9 * a + b) + v * x a * x b) = wT tb x v (9 * a + (b + 1)) := by
  funext c
  unfold vp_updL wT
  by_cases e : c = 9 * a + b
  · rw [if_pos e, if_neg (by omega), if_pos (by omega), e, show (9 * a + b) / 9 = a by omega, show (9 * a + b) % 9 = b by omega]
  · rw [if_neg e]
    by_cases q : c < 9 * a + b
    · rw [if_pos q, if_pos (by omega)]
    · rw [if_neg q, if_neg (by omega)]
theorem wT_z (tb x : Nat → Int64) (v : Int64) {a b : Nat} (hb : b ≤ 9) (h : v * x a = 0) : wT tb x v (9 * a + b) = wT tb x v (9 * (a + 1)) := by
  funext c
  unfold wT
  by_cases q : c < 9 * a + b
  · rw [if_pos q, if_pos (by omega)]
  · rw [if_neg q]
    by_cases w : c < 9 * (a + 1)
    · rw [if_pos w, show c / 9 = a by omega, h, Int64.zero_mul, Int64.add_zero]
    · rw [if_neg w]
theorem wg_86 {k64 : Int32 → sPd → Option sPd} {fu : Nat} {s : sSt} {v1 v3 : Int32} {row tb x : Nat → Int64} {rs : (Nat → Nat) × Nat × (Nat → Int64)} {v : Int64} {a : Nat} (ha : a < 9) (hrow : ∀ c, c < 9 → row c = x c) : ∀ (j b : Nat), b ≤ 9 → 9 - b < j → lX4_weigh_86 k64 fu s v1 v3 j (nI a) (v * x a) (nI b) (row, wT tb x v (9 * a + b), rs) = k64 (nI (a + 1)) (row, wT tb x v (9 * (a + 1)), rs) := by
  intro j
  induction j with
  | zero => intro b _ hj; exact absurd hj (Nat.not_lt_zero _)
  | succ j ih =>
    intro b hb hj
    rw [lX4_weigh_86, nI_1]
    by_cases z : v * x a = 0
    · rw [if_pos z, wT_z tb x v hb z]
    · rw [if_neg z]
      by_cases e : b = 9
      · subst e
        rw [if_pos (show (9 : Int32) ≤ nI 9 by decide +kernel)]
        rfl
      · rw [if_neg (show ¬ (9 : Int32) ≤ nI b from nI_ge (a := b) (b := 9) (by omega) (by decide)), show (nI a * 9 + nI b) = nI (9 * a + b) by
          rw [show (9 : Int32) = nI 9 from rfl, pk_mul, nI_add, Nat.mul_comm], gIx_n (by omega) (by decide), gIx_n (by omega) (by decide)]
        simp only [Option.bind_some, nI_1]
        rw [← ih (b + 1) (by omega) (by omega)]
        congr 1
        unfold st_X4_1
        simp only
        rw [hrow b (by omega), wT_s tb x v (by omega)]
theorem wg_64 {fu : Nat} (hfu : 12 ≤ fu) {s : sSt} {v1 v3 : Int32} {row tb x : Nat → Int64} {rs : (Nat → Nat) × Nat × (Nat → Int64)} (hrow : ∀ c, c < 9 → row c = x c) : ∀ (j a : Nat), a ≤ 9 → 9 - a < j → lX4_weigh_64 fu s v1 v3 j (nI a) (row, wT tb x v3.toInt64 (9 * a), rs) = some (row, wT tb x v3.toInt64 81, rs) := by
  intro j
  induction j with
  | zero => intro a _ hj; exact absurd hj (Nat.not_lt_zero _)
  | succ j ih =>
    intro a ha hj
    rw [lX4_weigh_64]
    by_cases e : a = 9
    · subst e
      rw [if_pos (show (9 : Int32) ≤ nI 9 by decide +kernel)]
    · rw [if_neg (show ¬ (9 : Int32) ≤ nI a from nI_ge (a := a) (b := 9) (by omega) (by decide)), gIx_n (by omega) (by decide)]
      simp only [Option.bind_some]
      rw [hrow a (by omega)]
      have := wg_86 (k64 := lX4_weigh_64 fu s v1 v3 j) (fu := fu) (s := s) (v1 := v1) (v3 := v3) (tb := tb) (rs := rs) (v := v3.toInt64) (show a < 9 by omega) hrow fu 0 (by omega) (by omega)
      rw [nI_0] at this
      rw [show 9 * a = 9 * a + 0 by omega, this]
      exact ih (a + 1) (by omega) (by omega)
theorem wg_13 {fu : Nat} (hfu : 12 ≤ fu) {s : sSt} {i : Nat} {v3 : Int32} (h8 : s.1.2.1 ≤ 8) (h20 : s.2.1.1 ≤ 20) (hi : i < s.2.1.1) {r0 tb : Nat → Int64} {rs : (Nat → Nat) × Nat × (Nat → Int64)} : ∀ (j t : Nat), t ≤ 8 → 8 - t < j → lX4_weigh_13 fu s (nI i) v3 j (s.2.1.2.1 i) (nI t) (rowF r0 (xr s i) t, tb, rs) = some (rowF r0 (xr s i) 9, wT tb (xr s i) v3.toInt64 81, rs) := by
  intro j
  induction j with
  | zero => intro t _ hj; exact absurd hj (Nat.not_lt_zero _)
  | succ j ih =>
    intro t ht hj
    rw [lX4_weigh_13]
    by_cases e : t = 8
    · subst e
      rw [if_pos (show (8 : Int32) ≤ nI 8 by decide +kernel), fX3_second, if_pos ⟨h20, by decide⟩, pget_lt hi (by omega)]
      simp only [Option.bind_some]
      have e1 : st_X4_0 (rowF r0 (xr s i) 8, tb, rs) (vp_updL (rowF r0 (xr s i) 8) 8 (s.2.1.2.2 i).toInt64) = (rowF r0 (xr s i) 9, wT tb (xr s i) v3.toInt64 (9 * 0), rs) := by
        unfold st_X4_0
        simp only
        rw [rowF_s r0 (xr s i) 8 (by unfold xr; rw [if_neg (by decide)]), Nat.mul_zero, wT_0]
      rw [e1]
      have := wg_64 hfu (s := s) (v1 := nI i) (v3 := v3) (row := rowF r0 (xr s i) 9) (tb := tb) (x := xr s i) (rs := rs) (fun c hc => if_pos hc) fu 0 (by omega) (by omega)
      rw [nI_0] at this
      exact this
    · rw [if_neg (show ¬ (8 : Int32) ≤ nI t from nI_ge (a := t) (b := 8) (by omega) (by decide)), fX0_shownIn, if_pos h8, gIx_n (by omega) (by decide)]
      simp only [Option.bind_some, nI_1]
      rw [← ih (t + 1) (by omega) (by omega)]
      congr 1
      unfold st_X4_0
      simp only
      rw [rowF_s r0 (xr s i) t (by unfold xr; rw [if_pos (by omega)])]
theorem weigh_eq {fu : Nat} (hfu : 12 ≤ fu) {s : sSt} {i : Nat} {v3 : Int32} (h8 : s.1.2.1 ≤ 8) (h20 : s.2.1.1 ≤ 20) (hi : i < s.2.1.1) (p : sPd) : fX4_weigh fu p s (nI i) v3 = some (rowF p.1 (xr s i) 9, wT p.2.1 (xr s i) v3.toInt64 81, p.2.2) := by
  unfold fX4_weigh
  rw [fX3_first, if_pos ⟨h20, by decide⟩, pget_lt hi (by omega)]
  simp only [Option.bind_some]
  have := wg_13 hfu (v3 := v3) h8 h20 hi (r0 := p.1) (tb := p.2.1) (rs := p.2.2) fu 0 (by omega) (by omega)
  rw [nI_0, rowF_0] at this
  exact this
def gsm : Nat → (Nat → Int64) → Int64
  | 0, _ => 0
  | n + 1, F => gsm n F + F n
theorem gsm_ext {F G : Nat → Int64} : ∀ n, (∀ r, r < n → F r = G r) → gsm n F = gsm n G
  | 0, _ => rfl
  | n + 1, h => by rw [gsm, gsm, gsm_ext n (fun r hr => h r (by omega)), h n (by omega)]
theorem gsm_out (F : Nat → Int64) (o : Nat) : ∀ n, gsm n (fun r => if r = o then 0 else F r) = if o < n then gsm n F - F o else gsm n F
  | 0 => by simp [gsm]
  | n + 1 => by
    rw [gsm, gsm, gsm_out F o n]
    by_cases q : o < n
    · rw [if_pos q, if_neg (show ¬ n = o by omega), if_pos (show o < n + 1 by omega)]
      grind
    · by_cases e : n = o
      · rw [if_neg q, if_pos e, if_pos (show o < n + 1 by omega), e]
        grind
      · rw [if_neg q, if_neg e, if_neg (show ¬ o < n + 1 by omega)]
/-- the table of the readings -/
def gTb (s : sSt) (t0 : Nat → Int64) (n : Nat) : Nat → Int64 := fun k => if k < 81 then gsm n (fun r => xr s r (k / 9) * xr s r (k % 9)) else t0 k
theorem gTb_s (s : sSt) (t0 : Nat → Int64) (n : Nat) : wT (gTb s t0 n) (xr s n) 1 81 = gTb s t0 (n + 1) := by
  funext k
  unfold wT gTb
  by_cases q : k < 81
  · rw [if_pos q, if_pos q, if_pos q, gsm, Int64.one_mul]
  · rw [if_neg q, if_neg q, if_neg q]
theorem gather_loop {fu : Nat} (hfu : 30 ≤ fu) {s : sSt} (h8 : s.1.2.1 ≤ 8) (h20 : s.2.1.1 ≤ 20) {t0 : Nat → Int64} {rs : (Nat → Nat) × Nat × (Nat → Int64)} : ∀ (j i : Nat) (row : Nat → Int64), i ≤ s.2.1.1 → s.2.1.1 - i < j → ∃ row', lX4_gather_10 fu s j (nI i) (row, gTb s t0 i, rs) = some (row', gTb s t0 s.2.1.1, rs) := by
  intro j
  induction j with
  | zero => intro i row _ hj; exact absurd hj (Nat.not_lt_zero _)
  | succ j ih =>
    intro i row hi hj
    rw [lX4_gather_10, fX3_length]
    simp only [Option.bind_some]
    by_cases e : i = s.2.1.1
    · rw [e, if_pos (nI_le (Nat.le_refl _) (by omega))]
      exact ⟨row, rfl⟩
    · rw [if_neg (nI_ge (by omega) (by omega)), weigh_eq (by omega) h8 h20 (by omega)]
      simp only [Option.bind_some, nI_1]
      rw [show ((1 : Int32).toInt64) = 1 from rfl, gTb_s]
      exact ih (i + 1) _ (by omega) (by omega)
theorem gather_eq {fu : Nat} (hfu : 30 ≤ fu) {s : sSt} (h8 : s.1.2.1 ≤ 8) (h20 : s.2.1.1 ≤ 20) (p : sPd) : ∃ row, fX4_gather fu p s = some (row, gTb s p.2.1 s.2.1.1, p.2.2) := by
  unfold fX4_gather
  rw [fJ7_fill_d0a16, if_pos (by decide)]
  simp only [Option.bind_some]
  have e : st_X4_1 p (fillL 0 p.2.1 81) = (p.1, gTb s p.2.1 0, p.2.2) := rfl
  rw [e]
  have := gather_loop hfu h8 h20 (t0 := p.2.1) (rs := p.2.2) fu 0 p.1 (by omega) (by omega)
  rw [nI_0] at this
  exact this
/-- what a reading shows, one left out -/
def xo (s : sSt) (o r c : Nat) : Int64 := if r = o then 0 else xr s r c
def As (s : sSt) (o m i j : Nat) : Int64 := gsm s.2.1.1 (fun r => xo s o r (cxm m i) * xo s o r (cxm m j))
theorem As_sy (s : sSt) (o m i j : Nat) : As s o m i j = As s o m j i := gsm_ext _ (fun r _ => Int64.mul_comm _ _)
theorem cxm_le {m : Nat} (hm : m < 256) (i : Nat) : cxm m i ≤ 8 := by
  unfold cxm
  split
  · next h => 
    have := (plN_1 m hm i (by have := popc_8 m; omega) h).2.1
    omega
  · exact Nat.le_refl _
theorem gTb_As {s : sSt} {t0 : Nat → Int64} {m o : Nat} (hm : m < 256) (ho : s.2.1.1 ≤ o) (i j : Nat) : gTb s t0 s.2.1.1 (cxm m i * 9 + cxm m j) = As s o m i j := by
  have h1 := cxm_le hm i
  have h2 := cxm_le hm j
  unfold gTb As
  rw [if_pos (by omega), show (cxm m i * 9 + cxm m j) / 9 = cxm m i by omega, show (cxm m i * 9 + cxm m j) % 9 = cxm m j by omega]
  refine gsm_ext _ (fun r hr => ?_)
  unfold xo
  rw [if_neg (by omega), if_neg (by omega)]
theorem wT_As {s : sSt} {t0 : Nat → Int64} {m o : Nat} (hm : m < 256) (ho : o < s.2.1.1) (i j : Nat) : wT (gTb s t0 s.2.1.1) (xr s o) (-1) 81 (cxm m i * 9 + cxm m j) = As s o m i j := by
  have h1 := cxm_le hm i
  have h2 := cxm_le hm j
  unfold wT gTb As
  rw [if_pos (by omega), if_pos (by omega), show (cxm m i * 9 + cxm m j) / 9 = cxm m i by omega, show (cxm m i * 9 + cxm m j) % 9 = cxm m j by omega]
  have := gsm_out (fun r => xr s r (cxm m i) * xr s r (cxm m j)) o s.2.1.1
  rw [if_pos ho] at this
  have e : gsm s.2.1.1 (fun r => xo s o r (cxm m i) * xo s o r (cxm m j)) = gsm s.2.1.1 (fun r => if r = o then 0 else xr s r (cxm m i) * xr s r (cxm m j)) := gsm_ext _ (fun r hr => by
    unfold xo
    by_cases q : r = o
    · rw [if_pos q, if_pos q, if_pos q, Int64.zero_mul]
    · rw [if_neg q, if_neg q, if_neg q])
  rw [e, this]
  grind
theorem wT_back (tb x : Nat → Int64) : wT (wT tb x (-1) 81) x 1 81 = tb := by
  funext k
  unfold wT
  by_cases q : k < 81
  · rw [if_pos q, if_pos q]
    grind
  · rw [if_neg q, if_neg q]
/-- what is told of a model that was solved -/
def tld (p : sPd) (A : Nat → Nat → Int64) (n : Nat) : Prop := fX4_below p = some (qn A n) ∧ (∀ q, q < n → fX4_above p (nI q) = some (qA A n q)) ∧ fX4_squares p = some (sLf A n n)
theorem psol_eq {p : sPd} {m : Nat} {A : Nat → Nat → Int64} (hp : rPd p) (hm : m < 256) (h1 : 1 ≤ popc m) (h4 : popc m ≤ 4) (hA : ∀ i j, i ≤ popc m → j ≤ popc m → p.2.1 (cxm m i * 9 + cxm m j) = A i j) (hs : ∀ i j, A i j = A j i) : ∃ r : (Nat → Nat) × Nat × (Nat → Int64), fX4_solve p (nI m) = some (!decide (qn A (popc m) = 0), (p.1, p.2.1, r)) ∧ (∀ j, j < 5 → r.1 j ≤ 8) ∧ ∀ row tb, tld (row, tb, r) A (popc m) := by
  have hcn := colN_eq (co := p.2.2.1) hm h4
  obtain ⟨g1, g2, g3⟩ := sv (tb := p.2.1) (co := p.2.2.1) (mn := p.2.2.2.2) hm h1 h4 hA hs
  refine ⟨(cols m p.2.2.1, colN m p.2.2.1, sMn p.2.1 p.2.2.1 p.2.2.2.2 m), ?_, cols_le hp, fun row tb => ⟨?_, fun q hq => ?_, ?_⟩⟩
  · unfold fX4_solve
    rw [gIx_n hm (by decide)]
    simp only [Option.bind_some]
    rw [if_pos (co5_of hp)]
    unfold firm
    rw [hcn, g1]
  · unfold fX4_below
    simp only [hcn]
    rw [if_pos h4, g1]
  · unfold fX4_above
    simp only [hcn]
    rw [gIx_n hq (by omega)]
    simp only [Option.bind_some]
    rw [if_pos h4, g2 q hq]
  · unfold fX4_squares
    simp only [hcn]
    rw [if_pos h4, g3]
theorem without_eq {fu : Nat} (hfu : 30 ≤ fu) {s : sSt} (h8 : s.1.2.1 ≤ 8) (h20 : s.2.1.1 ≤ 20) {p : sPd} {t0 : Nat → Int64} (hp : rPd p) (ht : p.2.1 = gTb s t0 s.2.1.1) {m o : Nat} (hm : m < 256) (h1 : 1 ≤ popc m) (h4 : popc m ≤ 4) (ho : o < s.2.1.1) : ∃ p', fX4_solveWithout fu p s (nI o) (nI m) = some (!decide (qn (As s o m) (popc m) = 0), p') ∧ rPd p' ∧ p'.2.1 = gTb s t0 s.2.1.1 ∧ tld p' (As s o m) (popc m) := by
  unfold fX4_solveWithout
  rw [weigh_eq (by omega) h8 h20 ho, ht]
  simp only [Option.bind_some]
  rw [show ((-1 : Int32).toInt64) = -1 from rfl]
  obtain ⟨r, e1, e2, e3⟩ := psol_eq (p := (rowF p.1 (xr s o) 9, wT (gTb s t0 s.2.1.1) (xr s o) (-1) 81, p.2.2)) (A := As s o m) hp hm h1 h4 (fun i j _ _ => wT_As hm ho i j) (As_sy s o m)
  rw [e1]
  simp only [Option.bind_some]
  rw [weigh_eq (by omega) h8 h20 ho]
  simp only [Option.bind_some]
  rw [show ((1 : Int32).toInt64) = 1 from rfl, wT_back]
  exact ⟨_, rfl, e2, rfl, e3 _ _⟩
