/-! best: both searches go the same way, given what one try does -/
def mkM (M : sMs) (l a : Int64) : sMs := (M.1, M.2.1, M.2.2.1, M.2.2.2.1, l, a)
/-- one try does the same on both sides -/
def tryOk (fu : Nat) (M : sMs) (S : gS) (w cd : Int32 → Int32 → Int32 → Int32 → Int64) (m s n t : Int32) : Prop :=
  (∀ l a, fX1_tryOut fu (mkM M l a) m s n t = some (if w m s n t < l then mkM M (w m s n t) (cd m s n t) else mkM M l a)) ∧ fX11_worstWith fu S m s n t = some (w m s n t) ∧ fX11_code fu m s n t = some (cd m s n t)
theorem st4 : ∀ r, r < 7 → (4 : Int32) - nI (r + 1) + 1 = 4 - nI r ∧ ¬ (3 : Int32) < 4 - nI (r + 1) ∧ wit (4 - nI (r + 1)) (-3) 3 = true := by decide +kernel
theorem bs_s1 {fu : Nat} {M : sMs} {S : gS} {w cd : Int32 → Int32 → Int32 → Int32 → Int64} (nm m : Int32) (hT : ∀ s, wit s (-3) 3 = true → tryOk fu M S w cd m s (-1) 0) : ∀ (r j : Nat) (l a : Int64), r ≤ 7 → r < j → ∃ l2 a2, (∀ k17, lX1_run_28 k17 fu j m (4 - nI r) (mkM M l a) = k17 (m + 1) (mkM M l2 a2)) ∧ (∀ k46, lX11_best_57 k46 fu j l a nm m (4 - nI r) S = k46 l2 a2 nm (m + 1) S) := by
  intro r
  induction r with
  | zero =>
    intro j l a _ hj
    obtain ⟨j, rfl⟩ : ∃ i, j = i + 1 := ⟨j - 1, by omega⟩
    refine ⟨l, a, fun k => ?_, fun k => ?_⟩
    · rw [lX1_run_28, if_pos (by decide)]
    · rw [lX11_best_57, if_pos (by decide)]
  | succ r ih =>
    intro j l a hr hj
    obtain ⟨j, rfl⟩ : ∃ i, j = i + 1 := ⟨j - 1, by omega⟩
    obtain ⟨e1, e2, e3⟩ := st4 r (by omega)
    obtain ⟨t1, t2, t3⟩ := hT _ e3
    by_cases z : (4 : Int32) - nI (r + 1) = 0
    · obtain ⟨l2, a2, i1, i2⟩ := ih j l a (by omega) (by omega)
      refine ⟨l2, a2, fun k => ?_, fun k => ?_⟩
      · rw [lX1_run_28, if_neg e2, if_pos z, e1]
        exact i1 k
      · rw [lX11_best_57, if_neg e2, if_pos z]
        unfold jX11_best_82 jX11_best_104
        have hl : l ≤ l := by rw [i64_le]; omega
        rw [if_pos hl, if_pos hl, e1]
        exact i2 k
    · by_cases q : w m (4 - nI (r + 1)) (-1) 0 < l
      · obtain ⟨l2, a2, i1, i2⟩ := ih j (w m (4 - nI (r + 1)) (-1) 0) (cd m (4 - nI (r + 1)) (-1) 0) (by omega) (by omega)
        have q' : ¬ l ≤ w m (4 - nI (r + 1)) (-1) 0 := i64_nle.mpr q
        refine ⟨l2, a2, fun k => ?_, fun k => ?_⟩
        · rw [lX1_run_28, if_neg e2, if_neg z, t1, if_pos q]
          simp only [Option.bind_some]
          rw [e1]
          exact i1 k
        · rw [lX11_best_57, if_neg e2, if_neg z, t2]
          simp only [Option.bind_some]
          unfold jX11_best_82 jX11_best_104
          rw [if_neg q', t3]
          simp only [Option.bind_some]
          rw [if_neg q', e1]
          exact i2 k
      · obtain ⟨l2, a2, i1, i2⟩ := ih j l a (by omega) (by omega)
        have q' : l ≤ w m (4 - nI (r + 1)) (-1) 0 := by rw [i64_le]; rw [i64_lt] at q; omega
        refine ⟨l2, a2, fun k => ?_, fun k => ?_⟩
        · rw [lX1_run_28, if_neg e2, if_neg z, t1, if_neg q]
          simp only [Option.bind_some]
          rw [e1]
          exact i1 k
        · rw [lX11_best_57, if_neg e2, if_neg z, t2]
          simp only [Option.bind_some]
          unfold jX11_best_82 jX11_best_104
          rw [if_pos q', if_pos q', e1]
          exact i2 k
theorem bs_t {fu : Nat} {M : sMs} {S : gS} {w cd : Int32 → Int32 → Int32 → Int32 → Int64} (nm m s n : Int32) (hT : ∀ t, wit t (-3) 3 = true → tryOk fu M S w cd m s n t) : ∀ (r j : Nat) (l a : Int64), r ≤ 7 → r < j → ∃ l2 a2, (∀ k4, lX1_trySecond_16 k4 fu m s j n (4 - nI r) (mkM M l a) = k4 (n + 1) (mkM M l2 a2)) ∧ (∀ k134 k145 k157, lX11_best_173 k134 k145 k157 fu j l a nm m s n (4 - nI r) S = k157 l2 a2 nm m s (n + 1) S) := by
  intro r
  induction r with
  | zero =>
    intro j l a _ hj
    obtain ⟨j, rfl⟩ : ∃ i, j = i + 1 := ⟨j - 1, by omega⟩
    refine ⟨l, a, fun k => ?_, fun k1 k2 k => ?_⟩
    · rw [lX1_trySecond_16, if_pos (by decide)]
    · rw [lX11_best_173, if_pos (by decide)]
  | succ r ih =>
    intro j l a hr hj
    obtain ⟨j, rfl⟩ : ∃ i, j = i + 1 := ⟨j - 1, by omega⟩
    obtain ⟨e1, e2, e3⟩ := st4 r (by omega)
    obtain ⟨t1, t2, t3⟩ := hT _ e3
    by_cases z : (4 : Int32) - nI (r + 1) = 0
    · obtain ⟨l2, a2, i1, i2⟩ := ih j l a (by omega) (by omega)
      refine ⟨l2, a2, fun k => ?_, fun k1 k2 k => ?_⟩
      · rw [lX1_trySecond_16, if_neg e2, if_pos z, e1]
        exact i1 k
      · rw [lX11_best_173, if_neg e2, if_pos z]
        unfold jX11_best_200 jX11_best_224
        have hl : l ≤ l := by rw [i64_le]; omega
        rw [if_pos hl, if_pos hl, e1]
        exact i2 k1 k2 k
    · by_cases q : w m s n (4 - nI (r + 1)) < l
      · obtain ⟨l2, a2, i1, i2⟩ := ih j (w m s n (4 - nI (r + 1))) (cd m s n (4 - nI (r + 1))) (by omega) (by omega)
        have q' : ¬ l ≤ w m s n (4 - nI (r + 1)) := i64_nle.mpr q
        refine ⟨l2, a2, fun k => ?_, fun k1 k2 k => ?_⟩
        · rw [lX1_trySecond_16, if_neg e2, if_neg z, t1, if_pos q]
          simp only [Option.bind_some]
          rw [e1]
          exact i1 k
        · rw [lX11_best_173, if_neg e2, if_neg z, t2]
          simp only [Option.bind_some]
          unfold jX11_best_200 jX11_best_224
          rw [if_neg q', t3]
          simp only [Option.bind_some]
          rw [if_neg q', e1]
          exact i2 k1 k2 k
      · obtain ⟨l2, a2, i1, i2⟩ := ih j l a (by omega) (by omega)
        have q' : l ≤ w m s n (4 - nI (r + 1)) := by rw [i64_le]; rw [i64_lt] at q; omega
        refine ⟨l2, a2, fun k => ?_, fun k1 k2 k => ?_⟩
        · rw [lX1_trySecond_16, if_neg e2, if_neg z, t1, if_neg q]
          simp only [Option.bind_some]
          rw [e1]
          exact i1 k
        · rw [lX11_best_173, if_neg e2, if_neg z, t2]
          simp only [Option.bind_some]
          unfold jX11_best_200 jX11_best_224
          rw [if_pos q', if_pos q', e1]
          exact i2 k1 k2 k
theorem neg3 : (-3 : Int32) = 4 - nI 7 := by decide
theorem bs_n {fu : Nat} (hfu : 20 ≤ fu) {M : sMs} {S : gS} {w cd : Int32 → Int32 → Int32 → Int32 → Int64} {nm : Nat} (hnm : nm ≤ 8) (hM : M.2.2.2.1 = nI nm) (m s : Int32) (hs : ¬ s = 0) {n0 : Nat} (hT : ∀ n t, n0 ≤ n → n < nm → wit t (-3) 3 = true → tryOk fu M S w cd m s (nI n) t) : ∀ (r j : Nat) (l a : Int64) (n : Nat), n ≤ 16 → n0 ≤ n → n + r = max nm n → r < j → ∃ l2 a2, lX1_trySecond_4 fu m s j (nI n) (mkM M l a) = some (mkM M l2 a2) ∧ (∀ k134 k145, lX11_best_157 k134 k145 fu j l a (nI nm) m s (nI n) S = k145 l2 a2 (nI nm) m (s + 1) S) := by
  intro r
  induction r with
  | zero =>
    intro j l a n h16 h0 hn hj
    obtain ⟨j, rfl⟩ : ∃ i, j = i + 1 := ⟨j - 1, by omega⟩
    have hle : nI nm ≤ nI n := nI_le (by omega) (by omega)
    refine ⟨l, a, ?_, fun k1 k => ?_⟩
    · rw [lX1_trySecond_4, if_pos (show (mkM M l a).2.2.2.1 ≤ nI n from by show M.2.2.2.1 ≤ nI n; rw [hM]; exact hle)]
    · rw [lX11_best_157, if_pos hle]
  | succ r ih =>
    intro j l a n h16 h0 hn hj
    obtain ⟨j, rfl⟩ : ∃ i, j = i + 1 := ⟨j - 1, by omega⟩
    have hlt : n < nm := by omega
    have hle : ¬ nI nm ≤ nI n := nI_ge hlt (by omega)
    obtain ⟨l1, a1, i1, i2⟩ := bs_t (fu := fu) (M := M) (S := S) (w := w) (cd := cd) (nI nm) m s (nI n) (fun t ht => hT n t h0 hlt ht) 7 fu l a (by omega) (by omega)
    obtain ⟨l2, a2, g1, g2⟩ := ih j l1 a1 (n + 1) (by omega) (by omega) (by omega) (by omega)
    rw [← neg3] at i1 i2
    refine ⟨l2, a2, ?_, fun k1 k => ?_⟩
    · rw [lX1_trySecond_4, if_neg (show ¬ (mkM M l a).2.2.2.1 ≤ nI n from by show ¬ M.2.2.2.1 ≤ nI n; rw [hM]; exact hle), i1, nI_1]
      exact g1
    · rw [lX11_best_157, if_neg hle, if_neg hs, i2, nI_1]
      exact g2 k1 k
theorem bs_s2 {fu : Nat} (hfu : 20 ≤ fu) {M : sMs} {S : gS} {w cd : Int32 → Int32 → Int32 → Int32 → Int64} {nm : Nat} (hnm : nm ≤ 8) (hM : M.2.2.2.1 = nI nm) {i : Nat} (hi : i < nm) (hT : ∀ s n t, i < n → n < nm → wit s (-3) 3 = true → wit t (-3) 3 = true → tryOk fu M S w cd (nI i) s (nI n) t) : ∀ (r j : Nat) (l a : Int64), r ≤ 7 → r < j → ∃ l2 a2, (∀ k59, lX1_run_70 k59 fu j (nI i) (4 - nI r) (mkM M l a) = k59 (nI (i + 1)) (mkM M l2 a2)) ∧ (∀ k134, lX11_best_145 k134 fu j l a (nI nm) (nI i) (4 - nI r) S = k134 l2 a2 (nI nm) (nI (i + 1)) S) := by
  intro r
  induction r with
  | zero =>
    intro j l a _ hj
    obtain ⟨j, rfl⟩ : ∃ i, j = i + 1 := ⟨j - 1, by omega⟩
    refine ⟨l, a, fun k => ?_, fun k => ?_⟩
    · rw [lX1_run_70, if_pos (by decide), nI_1]
    · rw [lX11_best_145, if_pos (by decide), nI_1]
  | succ r ih =>
    intro j l a hr hj
    obtain ⟨j, rfl⟩ : ∃ i, j = i + 1 := ⟨j - 1, by omega⟩
    obtain ⟨e1, e2, e3⟩ := st4 r (by omega)
    by_cases z : (4 : Int32) - nI (r + 1) = 0
    · obtain ⟨l2, a2, i1, i2⟩ := ih j l a (by omega) (by omega)
      refine ⟨l2, a2, fun k => ?_, fun k => ?_⟩
      · rw [lX1_run_70, if_neg e2, if_pos z, e1]
        exact i1 k
      · rw [lX11_best_145, if_neg e2, nI_1]
        obtain ⟨f, hf⟩ : ∃ f, fu = f + 1 := ⟨fu - 1, by omega⟩
        have hh : lX11_best_157 k (lX11_best_145 k fu j) fu fu l a (nI nm) (nI i) (4 - nI (r + 1)) (nI (i + 1)) S = lX11_best_145 k fu j l a (nI nm) (nI i) (4 - nI (r + 1) + 1) S := by
          have : ∀ f2, lX11_best_157 k (lX11_best_145 k fu j) fu (f2 + 1) l a (nI nm) (nI i) (4 - nI (r + 1)) (nI (i + 1)) S = lX11_best_145 k fu j l a (nI nm) (nI i) (4 - nI (r + 1) + 1) S := fun f2 => by
            rw [lX11_best_157, if_pos z, ite_self]
          have h2 := this f
          rw [← hf] at h2
          exact h2
        rw [hh, e1]
        exact i2 k
    · obtain ⟨l1, a1, g1, g2⟩ := bs_n hfu (w := w) (cd := cd) hnm hM (nI i) (4 - nI (r + 1)) z (n0 := i + 1) (fun n t h0 h1 ht => hT _ n t (by omega) h1 e3 ht) (nm - (i + 1)) fu l a (i + 1) (by omega) (Nat.le_refl _) (by omega) (by omega)
      obtain ⟨l2, a2, i1, i2⟩ := ih j l1 a1 (by omega) (by omega)
      refine ⟨l2, a2, fun k => ?_, fun k => ?_⟩
      · rw [lX1_run_70, if_neg e2, if_neg z]
        unfold fX1_trySecond
        rw [nI_1, g1]
        simp only [Option.bind_some]
        rw [e1]
        exact i1 k
      · rw [lX11_best_145, if_neg e2, nI_1, g2, e1]
        exact i2 k
theorem bs_m2 {fu : Nat} (hfu : 20 ≤ fu) {M : sMs} {S : gS} {w cd : Int32 → Int32 → Int32 → Int32 → Int64} {nm : Nat} (hnm : nm ≤ 8) (hM : M.2.2.2.1 = nI nm) (hT : ∀ i s n t, i < n → n < nm → wit s (-3) 3 = true → wit t (-3) 3 = true → tryOk fu M S w cd (nI i) s (nI n) t) : ∀ (r j : Nat) (l a : Int64) (i : Nat), i + r = nm → r < j → ∃ l2 a2, lX1_run_59 fu j (nI i) (mkM M l a) = some (a2, mkM M l2 a2) ∧ lX11_best_134 fu j l a (nI nm) (nI i) S = some (a2, S) := by
  intro r
  induction r with
  | zero =>
    intro j l a i hi hj
    obtain ⟨j, rfl⟩ : ∃ i, j = i + 1 := ⟨j - 1, by omega⟩
    have hle : nI nm ≤ nI i := nI_le (by omega) (by omega)
    refine ⟨l, a, ?_, ?_⟩
    · rw [lX1_run_59, if_pos (show (mkM M l a).2.2.2.1 ≤ nI i from by show M.2.2.2.1 ≤ nI i; rw [hM]; exact hle)]
      rfl
    · rw [lX11_best_134, if_pos hle]
  | succ r ih =>
    intro j l a i hi hj
    obtain ⟨j, rfl⟩ : ∃ i, j = i + 1 := ⟨j - 1, by omega⟩
    have hle : ¬ nI nm ≤ nI i := nI_ge (by omega) (by omega)
    obtain ⟨l1, a1, i1, i2⟩ := bs_s2 hfu (w := w) (cd := cd) hnm hM (show i < nm by omega) (fun s n t h0 h1 hs ht => hT i s n t h0 h1 hs ht) 7 fu l a (by omega) (by omega)
    obtain ⟨l2, a2, g1, g2⟩ := ih j l1 a1 (i + 1) (by omega) (by omega)
    rw [← neg3] at i1 i2
    refine ⟨l2, a2, ?_, ?_⟩
    · rw [lX1_run_59, if_neg (show ¬ (mkM M l a).2.2.2.1 ≤ nI i from by show ¬ M.2.2.2.1 ≤ nI i; rw [hM]; exact hle), i1]
      exact g1
    · rw [lX11_best_134, if_neg hle, i2]
      exact g2
theorem bs_m1 {fu : Nat} (hfu : 20 ≤ fu) {M : sMs} {S : gS} {w cd : Int32 → Int32 → Int32 → Int32 → Int64} {nm : Nat} (hnm : nm ≤ 8) (hM : M.2.2.2.1 = nI nm) (hT1 : ∀ i s, i < nm → wit s (-3) 3 = true → tryOk fu M S w cd (nI i) s (-1) 0) (hT : ∀ i s n t, i < n → n < nm → wit s (-3) 3 = true → wit t (-3) 3 = true → tryOk fu M S w cd (nI i) s (nI n) t) : ∀ (r j : Nat) (l a : Int64) (i : Nat), i + r = nm → r < j → ∃ l2 a2, lX1_run_17 fu j (nI i) (mkM M l a) = some (a2, mkM M l2 a2) ∧ lX11_best_46 fu j l a (nI nm) (nI i) S = some (a2, S) := by
  intro r
  induction r with
  | zero =>
    intro j l a i hi hj
    obtain ⟨j, rfl⟩ : ∃ i, j = i + 1 := ⟨j - 1, by omega⟩
    have hle : nI nm ≤ nI i := nI_le (by omega) (by omega)
    obtain ⟨l2, a2, g1, g2⟩ := bs_m2 hfu hnm hM hT nm fu l a 0 (by omega) (by omega)
    rw [nI_0] at g1 g2
    refine ⟨l2, a2, ?_, ?_⟩
    · rw [lX1_run_17, if_pos (show (mkM M l a).2.2.2.1 ≤ nI i from by show M.2.2.2.1 ≤ nI i; rw [hM]; exact hle)]
      exact g1
    · rw [lX11_best_46, if_pos hle]
      exact g2
  | succ r ih =>
    intro j l a i hi hj
    obtain ⟨j, rfl⟩ : ∃ i, j = i + 1 := ⟨j - 1, by omega⟩
    have hle : ¬ nI nm ≤ nI i := nI_ge (by omega) (by omega)
    obtain ⟨l1, a1, i1, i2⟩ := bs_s1 (fu := fu) (M := M) (S := S) (w := w) (cd := cd) (nI nm) (nI i) (fun s hs => hT1 i s (by omega) hs) 7 fu l a (by omega) (by omega)
    obtain ⟨l2, a2, g1, g2⟩ := ih j l1 a1 (i + 1) (by omega) (by omega)
    rw [← neg3] at i1 i2
    refine ⟨l2, a2, ?_, ?_⟩
    · rw [lX1_run_17, if_neg (show ¬ (mkM M l a).2.2.2.1 ≤ nI i from by show ¬ M.2.2.2.1 ≤ nI i; rw [hM]; exact hle), i1, nI_1]
      exact g1
    · rw [lX11_best_46, if_neg hle, i2, nI_1]
      exact g2
