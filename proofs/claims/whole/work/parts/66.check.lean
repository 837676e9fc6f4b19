/-! check, whole -/
theorem p_check {fu : Nat} (hfu : 80 ≤ fu) : St_check fu := by
  intro T S c h hc
  have h' : rR (st_X10_10 T 0) (sI S 8 0) c := by
    obtain ⟨h1, h2, h3, h4, h5, h6, h7, h8, h9⟩ := h
    exact ⟨h1, h2, h3, h4, h5, h6, h7, ⟨rfl, 0, by omega, rfl, fun j hj => absurd hj (by omega)⟩, h9⟩
  obtain ⟨q1, k, q2, q3, q4⟩ := h.2.2.2.2.2.2.2.1
  unfold fX10_check fX11_check fX10_judge
  simp only [Option.bind_some]
  rcases why_cases h' fu with ⟨e1, e2⟩ | ⟨e1, e2⟩ | ⟨e1, e2, hcs, hf⟩
  · rw [e1, e2]
    simp only [Option.bind_some, obind_eta]
    rw [if_neg (by decide), if_neg (by decide)]
    exact ref2 h' hc
  · rw [e1, e2]
    simp only [Option.bind_some, obind_eta]
    rw [if_neg (by decide), if_neg (by decide)]
    exact ref7 h' hc
  · rw [e1, e2]
    simp only [Option.bind_some, if_true]
    rw [q1, q3]
    have hpc := popc_pcN _ hcs
    have hpl := pcN_le 8 (st_X10_10 T 0).2.2.2.2.2.1.2.2.1
    obtain ⟨v, w1, w2⟩ := check_join hfu hcs hf q2 (fun j hj => q4 j hj) 8 0 fu fu (by omega) (by omega) (by omega) (by omega) (fun i _ => by rw [Nat.zero_add])
    have w1' : lX10_judge_7 fu (st_X10_10 T 0) (nI k) fu 0 0 0 = some v := w1
    have w2' : lX11_check_30 fu fu (nI k) 0 (sI S 8 0) = some (v.toInt64, sI S 8 0) := w2
    rw [w1', w2']
    exact rOk_same h' _
