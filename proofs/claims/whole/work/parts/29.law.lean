theorem gl_his1 {w w2 : va_W} {n : Nat} (h : w.length = n) : (List.range' 0 n).map (fun i => (w ++ w2)[i]?) = w.map some := by
  subst h
  apply List.ext_getElem?
  intro i
  rw [List.getElem?_map, List.getElem?_map]
  by_cases hi : i < w.length
  · rw [List.getElem?_range' hi, List.getElem?_eq_getElem hi]
    simp [List.getElem?_append_left hi, hi]
  · rw [List.getElem?_eq_none (by simp; omega), List.getElem?_eq_none (by omega)]
    rfl
theorem gl_his2 {w w2 : va_W} {n m : Nat} (h : w.length = n) (h2 : w2.length = m) : (List.range' n m).map (fun i => (w ++ w2)[i]?) = w2.map some := by
  subst h
  subst h2
  apply List.ext_getElem?
  intro i
  rw [List.getElem?_map, List.getElem?_map]
  by_cases hi : i < w2.length
  · rw [List.getElem?_range' hi, List.getElem?_eq_getElem hi]
    simp [List.getElem?_append_right, hi]
  · rw [List.getElem?_eq_none (by simp; omega), List.getElem?_eq_none (by omega)]
    rfl
theorem mgL1 {E : gE} {a b : Nat → Nat} {T T2 : sWB} {S : gS} : gmerge (List.range' 0 55) (wWB E a T2) (wWB E a T ++ wRf E b S) = wWB E a T2 ++ wRf E b S := by
  have h := gmerge_mid (wWB E a T2) (wWB E a T) [] (wRf E b S) rfl
  exact h
theorem mgL2 {E : gE} {a b : Nat → Nat} {T : sWB} {S S2 : gS} : gmerge (List.range' 55 16) (wRf E b S2) (wWB E a T ++ wRf E b S) = wWB E a T ++ wRf E b S2 := by
  have h := gmerge_mid (wRf E b S2) (wRf E b S) (wWB E a T) [] rfl
  rw [List.append_nil, List.append_nil] at h
  exact h
theorem gmerge_lst {x y : Nat × va_E} {ws w : va_W} {p : Nat} (hp : p = ws.length) : gmerge [p] (x :: w) (ws ++ [y]) = ws ++ (x :: w) := by
  subst hp
  show (ws ++ [y]).set ws.length x ++ w = _
  simp
/-- a number that isn't 0, as a boolean -/
def nz (x : Int32) : Bool := !decide (x = 0)
theorem g_nz {Γ : gT} {l : Launch} {R : Room} {cc : ByteArray} {nL : Nat} {own : String} {E : gE} {ret : Option FieldType} {init : Bool} {post : Option Value → Nat → Nat → va_W → Prop} {u z pc : Nat} {lv : gLV} {st : List Value} {ws : va_W} (h : IsG Γ l R cc nL own E ret init post) {x : Int32} (d1 : decode cc pc = .ok (.ifCond .eq 7, 3)) (d2 : decode cc (pc + 3) = .ok (.iconst 1, 1)) (d3 : decode cc (pc + 4) = .ok (.goto 4, 3)) (d4 : decode cc (pc + 7) = .ok (.iconst 0, 1)) (k : Γ u z (pc + 8) lv (.int (bI (nz x)) :: st) ws) : Γ u z pc lv (.int x :: st) ws := by
  refine g_if_eq (tgt := pc + 7) h d1 (by omega) (fun c => ?_) (fun c => ?_)
  · refine g_iconst (v := 0) h d4 (by decide) ?_
    have e : bI (nz x) = 0 := by rw [nz, decide_eq_true c]; rfl
    rw [e] at k
    exact k
  · refine g_iconst (v := 1) h d2 (by decide) ?_
    refine g_goto (tgt := pc + 8) h d3 (by omega) ?_
    have e : bI (nz x) = 1 := by rw [nz, decide_eq_false c]; rfl
    rw [e] at k
    exact k
theorem rR_mono {T : sWB} {S : gS} {c : Nat} (h : rR T S c) : rR T S (c + 1) := by
  obtain ⟨h1, h2, h3, h4, h5, h6, h7, h8, h9⟩ := h
  unfold rR
  refine ⟨h1, h2, h3, h4, h5, h6, h7, h8, fun k k1 k2 => ?_⟩
  obtain ⟨m, m1, m2⟩ := h9 k k1 k2
  exact ⟨m, by omega, m2⟩
set_option maxHeartbeats 8000000 in
set_option maxRecDepth 100000 in
/-- the law's loop -/
theorem law_loop {fu : Nat} (H_cause : St_cause fu) (H_shows : St_shows fu) (H_as : St_as fu) (H_read : St_read fu) (H_drop : St_drop fu) (H_reading : St_reading fu) (H_sheet : St_sheet fu) (H_put : St_put fu) (H_lay : St_lay fu) (H_find : St_find fu) (H_loose : St_loose fu) (H_size : St_size fu) (H_left : St_left fu) (H_sum : St_sum fu) (H_foretold : St_foretold fu) (H_model : St_model fu) (H_few : St_few fu) (H_doubt : St_doubt fu) (H_spare : St_spare fu) (H_mend : St_mend fu) (H_span : St_span fu) (H_behind : St_behind fu) (H_worst : St_worst fu) (H_best : St_best fu) (H_paper : St_paper fu) (H_day : St_day fu) (H_anew : St_anew fu) (H_mean : St_mean fu) (H_change : St_change fu) (H_tell : St_tell fu) (H_check : St_check fu) (H_keep : St_keep fu) (H_back : St_back fu) (H_count : St_count fu) (H_found : St_found fu) {Γ : gT} {l : Launch} {E : gE} {b0 L : Nat} {xs : Nat → Int32} {a b : Nat → Nat} {ret : Option FieldType} {init : Bool} {post : Option Value → Nat → Nat → va_W → Prop} (h : IsG2 (gZL b0 L xs) Γ l room_1 cL_law 4 RL E ret init post) (hL : L ≤ 3584)
    (hend : ∀ (lv : gLV) (ws : va_W), Γ 71 1882 1341 lv [.int 1] ws) : ∀ (n i c : Nat) (T : sWB) (S : gS), rR T S c → i = 7 * c → c ≤ 512 → L + 7 - i < n → Γ 71 1882 18 [some (.ref b0), some (.ref (a 0)), some (.ref (b 0)), some (.int (nI i))] [] (wWB E a T ++ wRf E b S) := by
  have hL31 : L < 2 ^ 31 := by omega
  intro n
  induction n with
  | zero => intro i c T S _ _ _ hj; exact absurd hj (Nat.not_lt_zero _)
  | succ n ih =>
    intro i c T S hR hi hc2 hj
    refine g_iload_n h.to dL_law_18 rfl ?_
    refine g_aload_n h.to dL_law_19 rfl ?_
    refine g_slen h dL_law_20 ?_
    refine g_bipush (v := 7) h.to dL_law_21 (by decide) ?_
    refine g_isub h.to dL_law_23 ?_
    have e7 := pk_sub_toInt (a := L) (b := 7) (by omega) (by decide)
    refine g_ic_gt h.to dL_law_24 rfl (fun c24 => ?_) (fun c24 => ?_)
    · refine g_iconst (v := 1) h.to dL_law_1340 (by decide) ?_
      exact hend _ _
    have hlt : i + 7 ≤ L := by
      rw [i32_lt, nI_toInt (by omega)] at c24
      have e8 : (nI L - 7).toInt = (L : Int) - 7 := e7
      rw [e8] at c24
      omega
    have hc : c < 512 := by omega
    have next : ∀ (T2 : sWB) (S2 : gS), rR T2 S2 (c + 1) ∨ rR T2 S2 c → Γ 71 1882 1334 [some (.ref b0), some (.ref (a 0)), some (.ref (b 0)), some (.int (nI i))] [] (wWB E a T2 ++ wRf E b S2) := by
      intro T2 S2 h2
      have h3 : rR T2 S2 (c + 1) := h2.elim id rR_mono
      refine g_iinc (v := nI (i + 7)) (lv' := [some _, some _, some _, some _]) h.to dL_law_1334 rfl (nI_add i 7) (by decide) rfl ?_
      refine g_goto h.to dL_law_1337 rfl ?_
      exact ih (i + 7) (c + 1) T2 S2 h3 (by omega) (by omega) (by omega)
    replace next := fun T2 S2 h2 => next T2 S2 h2
    refine g_aload_n h.to dL_law_27 rfl ?_
    refine g_iload_n h.to dL_law_28 rfl ?_
    refine g_sld h dL_law_29 i rfl (by omega) hL31 ?_
    refine g_bipush (v := 63) h.to dL_law_30 (by decide) ?_
    refine g_iand h.to dL_law_32 ?_
    refine g_ts35_0 h.to dL_law_33 rfl rfl rfl rfl rfl rfl rfl rfl rfl rfl rfl rfl rfl rfl rfl rfl rfl rfl rfl rfl rfl rfl rfl rfl rfl rfl rfl rfl rfl rfl rfl rfl rfl rfl rfl rfl (fun _ => ?_) (fun _ => ?_) (fun _ => ?_) (fun _ => ?_) (fun _ => ?_) (fun _ => ?_) (fun _ => ?_) (fun _ => ?_) (fun _ => ?_) (fun _ => ?_) (fun _ => ?_) (fun _ => ?_) (fun _ => ?_) (fun _ => ?_) (fun _ => ?_) (fun _ => ?_) (fun _ => ?_) (fun _ => ?_) (fun _ => ?_) (fun _ => ?_) (fun _ => ?_) (fun _ => ?_) (fun _ => ?_) (fun _ => ?_) (fun _ => ?_) (fun _ => ?_) (fun _ => ?_) (fun _ => ?_) (fun _ => ?_) (fun _ => ?_) (fun _ => ?_) (fun _ => ?_) (fun _ => ?_) (fun _ => ?_) (fun _ => ?_) (fun _ => ?_)
    · obtain ⟨v, T2, S2, hx, hy, hR2⟩ := H_cause T S c hR hc (xs (i + 1)) (xs (i + 2)) (xs (i + 3))
      refine g_aload_n h.to dL_law_188 rfl ?_
      refine g_aload_n h.to dL_law_189 rfl ?_
      refine g_iload_n h.to dL_law_190 rfl ?_
      refine g_iconst (v := 1) h.to dL_law_191 (by decide) ?_
      refine g_iadd h.to dL_law_192 ?_
      refine g_sld h dL_law_193 (i + 1) (nI_add i 1) (by omega) hL31 ?_
      refine g_aload_n h.to dL_law_194 rfl ?_
      refine g_iload_n h.to dL_law_195 rfl ?_
      refine g_iconst (v := 2) h.to dL_law_196 (by decide) ?_
      refine g_iadd h.to dL_law_197 ?_
      refine g_sld h dL_law_198 (i + 2) (nI_add i 2) (by omega) hL31 ?_
      refine g_aload_n h.to dL_law_199 rfl ?_
      refine g_iload_n h.to dL_law_200 rfl ?_
      refine g_iconst (v := 3) h.to dL_law_201 (by decide) ?_
      refine g_iadd h.to dL_law_202 ?_
      refine g_sld h dL_law_203 (i + 3) (nI_add i 3) (by omega) hL31 ?_
      refine g_cVw (ws' := wWB E a T2 ++ wRf E b S) h.to (qX10_cause (a0 := a) hx) mX10_cause lkL_13 dL_law_204 rfl rfl ⟨Nat.le_of_ble_eq_true rfl, Nat.le_of_ble_eq_true rfl⟩ ⟨Nat.le_of_ble_eq_true rfl, Nat.le_of_ble_eq_true rfl⟩ (Nat.le_of_ble_eq_true rfl) (List.range' 0 55) (gl_his1 rfl) rfl 0 rfl rfl mgL1 ?_
      refine g_aload_n h.to dL_law_207 rfl ?_
      refine g_aload_n h.to dL_law_208 rfl ?_
      refine g_iload_n h.to dL_law_209 rfl ?_
      refine g_iconst (v := 1) h.to dL_law_210 (by decide) ?_
      refine g_iadd h.to dL_law_211 ?_
      refine g_sld h dL_law_212 (i + 1) (nI_add i 1) (by omega) hL31 ?_
      refine g_aload_n h.to dL_law_213 rfl ?_
      refine g_iload_n h.to dL_law_214 rfl ?_
      refine g_iconst (v := 2) h.to dL_law_215 (by decide) ?_
      refine g_iadd h.to dL_law_216 ?_
      refine g_sld h dL_law_217 (i + 2) (nI_add i 2) (by omega) hL31 ?_
      refine g_aload_n h.to dL_law_218 rfl ?_
      refine g_iload_n h.to dL_law_219 rfl ?_
      refine g_iconst (v := 3) h.to dL_law_220 (by decide) ?_
      refine g_iadd h.to dL_law_221 ?_
      refine g_sld h dL_law_222 (i + 3) (nI_add i 3) (by omega) hL31 ?_
      refine g_cVw (ws' := wWB E a T2 ++ wRf E b S2) h.to (qX11_cause (a0 := b) hy) mX11_cause lkL_17 dL_law_223 rfl rfl ⟨Nat.le_of_ble_eq_true rfl, Nat.le_of_ble_eq_true rfl⟩ ⟨Nat.le_of_ble_eq_true rfl, Nat.le_of_ble_eq_true rfl⟩ (Nat.le_of_ble_eq_true rfl) (List.range' 55 16) (gl_his2 rfl rfl) rfl 55 rfl rfl mgL2 ?_
      refine g_lcmp h.to dL_law_226 ?_
      refine g_lif_eq h.to dL_law_227 rfl (fun _ => ?_) (fun q => absurd rfl q)
      exact next T2 S2 (Or.inl hR2)
    · obtain ⟨v, T2, S2, hx, hy, hR2⟩ := H_shows T S c hR hc (xs (i + 1)) (xs (i + 2))
      refine g_aload_n h.to dL_law_232 rfl ?_
      refine g_aload_n h.to dL_law_233 rfl ?_
      refine g_iload_n h.to dL_law_234 rfl ?_
      refine g_iconst (v := 1) h.to dL_law_235 (by decide) ?_
      refine g_iadd h.to dL_law_236 ?_
      refine g_sld h dL_law_237 (i + 1) (nI_add i 1) (by omega) hL31 ?_
      refine g_aload_n h.to dL_law_238 rfl ?_
      refine g_iload_n h.to dL_law_239 rfl ?_
      refine g_iconst (v := 2) h.to dL_law_240 (by decide) ?_
      refine g_iadd h.to dL_law_241 ?_
      refine g_sld h dL_law_242 (i + 2) (nI_add i 2) (by omega) hL31 ?_
      refine g_cVw (ws' := wWB E a T2 ++ wRf E b S) h.to (qX10_shows (a0 := a) hx) mX10_shows lkL_18 dL_law_243 rfl rfl ⟨Nat.le_of_ble_eq_true rfl, Nat.le_of_ble_eq_true rfl⟩ ⟨Nat.le_of_ble_eq_true rfl, Nat.le_of_ble_eq_true rfl⟩ (Nat.le_of_ble_eq_true rfl) (List.range' 0 55) (gl_his1 rfl) rfl 0 rfl rfl mgL1 ?_
      refine g_aload_n h.to dL_law_246 rfl ?_
      refine g_aload_n h.to dL_law_247 rfl ?_
      refine g_iload_n h.to dL_law_248 rfl ?_
      refine g_iconst (v := 1) h.to dL_law_249 (by decide) ?_
      refine g_iadd h.to dL_law_250 ?_
      refine g_sld h dL_law_251 (i + 1) (nI_add i 1) (by omega) hL31 ?_
      refine g_aload_n h.to dL_law_252 rfl ?_
      refine g_iload_n h.to dL_law_253 rfl ?_
      refine g_iconst (v := 2) h.to dL_law_254 (by decide) ?_
      refine g_iadd h.to dL_law_255 ?_
      refine g_sld h dL_law_256 (i + 2) (nI_add i 2) (by omega) hL31 ?_
      refine g_cVw (ws' := wWB E a T2 ++ wRf E b S2) h.to (qX11_shows (a0 := b) hy) mX11_shows lkL_22 dL_law_257 rfl rfl ⟨Nat.le_of_ble_eq_true rfl, Nat.le_of_ble_eq_true rfl⟩ ⟨Nat.le_of_ble_eq_true rfl, Nat.le_of_ble_eq_true rfl⟩ (Nat.le_of_ble_eq_true rfl) (List.range' 55 16) (gl_his2 rfl rfl) rfl 55 rfl rfl mgL2 ?_
      refine g_lcmp h.to dL_law_260 ?_
      refine g_lif_eq h.to dL_law_261 rfl (fun _ => ?_) (fun q => absurd rfl q)
      exact next T2 S2 (Or.inl hR2)
    · obtain ⟨v, T2, S2, hx, hy, hR2⟩ := H_as T S c hR hc (xs (i + 1)) (xs (i + 2))
      refine g_aload_n h.to dL_law_266 rfl ?_
      refine g_aload_n h.to dL_law_267 rfl ?_
      refine g_iload_n h.to dL_law_268 rfl ?_
      refine g_iconst (v := 1) h.to dL_law_269 (by decide) ?_
      refine g_iadd h.to dL_law_270 ?_
      refine g_sld h dL_law_271 (i + 1) (nI_add i 1) (by omega) hL31 ?_
      refine g_aload_n h.to dL_law_272 rfl ?_
      refine g_iload_n h.to dL_law_273 rfl ?_
      refine g_iconst (v := 2) h.to dL_law_274 (by decide) ?_
      refine g_iadd h.to dL_law_275 ?_
      refine g_sld h dL_law_276 (i + 2) (nI_add i 2) (by omega) hL31 ?_
      refine g_cVw (ws' := wWB E a T2 ++ wRf E b S) h.to (qX10_as (a0 := a) hx) mX10_as lkL_23 dL_law_277 rfl rfl ⟨Nat.le_of_ble_eq_true rfl, Nat.le_of_ble_eq_true rfl⟩ ⟨Nat.le_of_ble_eq_true rfl, Nat.le_of_ble_eq_true rfl⟩ (Nat.le_of_ble_eq_true rfl) (List.range' 0 55) (gl_his1 rfl) rfl 0 rfl rfl mgL1 ?_
      refine g_aload_n h.to dL_law_280 rfl ?_
      refine g_aload_n h.to dL_law_281 rfl ?_
      refine g_iload_n h.to dL_law_282 rfl ?_
      refine g_iconst (v := 1) h.to dL_law_283 (by decide) ?_
      refine g_iadd h.to dL_law_284 ?_
      refine g_sld h dL_law_285 (i + 1) (nI_add i 1) (by omega) hL31 ?_
      refine g_aload_n h.to dL_law_286 rfl ?_
      refine g_iload_n h.to dL_law_287 rfl ?_
      refine g_iconst (v := 2) h.to dL_law_288 (by decide) ?_
      refine g_iadd h.to dL_law_289 ?_
      refine g_sld h dL_law_290 (i + 2) (nI_add i 2) (by omega) hL31 ?_
      refine g_cVw (ws' := wWB E a T2 ++ wRf E b S2) h.to (qX11_as (a0 := b) hy) mX11_as lkL_26 dL_law_291 rfl rfl ⟨Nat.le_of_ble_eq_true rfl, Nat.le_of_ble_eq_true rfl⟩ ⟨Nat.le_of_ble_eq_true rfl, Nat.le_of_ble_eq_true rfl⟩ (Nat.le_of_ble_eq_true rfl) (List.range' 55 16) (gl_his2 rfl rfl) rfl 55 rfl rfl mgL2 ?_
      refine g_lcmp h.to dL_law_294 ?_
      refine g_lif_eq h.to dL_law_295 rfl (fun _ => ?_) (fun q => absurd rfl q)
      exact next T2 S2 (Or.inl hR2)
    · obtain ⟨v, T2, S2, hx, hy, hR2⟩ := H_read T S c hR hc (xs (i + 1)) (xs (i + 2))
      refine g_aload_n h.to dL_law_300 rfl ?_
      refine g_aload_n h.to dL_law_301 rfl ?_
      refine g_iload_n h.to dL_law_302 rfl ?_
      refine g_iconst (v := 1) h.to dL_law_303 (by decide) ?_
      refine g_iadd h.to dL_law_304 ?_
      refine g_sld h dL_law_305 (i + 1) (nI_add i 1) (by omega) hL31 ?_
      refine g_aload_n h.to dL_law_306 rfl ?_
      refine g_iload_n h.to dL_law_307 rfl ?_
      refine g_iconst (v := 2) h.to dL_law_308 (by decide) ?_
      refine g_iadd h.to dL_law_309 ?_
      refine g_sld h dL_law_310 (i + 2) (nI_add i 2) (by omega) hL31 ?_
      refine g_cVw (ws' := wWB E a T2 ++ wRf E b S) h.to (qX10_read (a0 := a) hx) mX10_read lkL_27 dL_law_311 rfl rfl ⟨Nat.le_of_ble_eq_true rfl, Nat.le_of_ble_eq_true rfl⟩ ⟨Nat.le_of_ble_eq_true rfl, Nat.le_of_ble_eq_true rfl⟩ (Nat.le_of_ble_eq_true rfl) (List.range' 0 55) (gl_his1 rfl) rfl 0 rfl rfl mgL1 ?_
      refine g_aload_n h.to dL_law_314 rfl ?_
      refine g_aload_n h.to dL_law_315 rfl ?_
      refine g_iload_n h.to dL_law_316 rfl ?_
      refine g_iconst (v := 1) h.to dL_law_317 (by decide) ?_
      refine g_iadd h.to dL_law_318 ?_
      refine g_sld h dL_law_319 (i + 1) (nI_add i 1) (by omega) hL31 ?_
      refine g_aload_n h.to dL_law_320 rfl ?_
      refine g_iload_n h.to dL_law_321 rfl ?_
      refine g_iconst (v := 2) h.to dL_law_322 (by decide) ?_
      refine g_iadd h.to dL_law_323 ?_
      refine g_sld h dL_law_324 (i + 2) (nI_add i 2) (by omega) hL31 ?_
      refine g_cVw (ws' := wWB E a T2 ++ wRf E b S2) h.to (qX11_read (a0 := b) hy) mX11_read lkL_30 dL_law_325 rfl rfl ⟨Nat.le_of_ble_eq_true rfl, Nat.le_of_ble_eq_true rfl⟩ ⟨Nat.le_of_ble_eq_true rfl, Nat.le_of_ble_eq_true rfl⟩ (Nat.le_of_ble_eq_true rfl) (List.range' 55 16) (gl_his2 rfl rfl) rfl 55 rfl rfl mgL2 ?_
      refine g_lcmp h.to dL_law_328 ?_
      refine g_lif_eq h.to dL_law_329 rfl (fun _ => ?_) (fun q => absurd rfl q)
      exact next T2 S2 (Or.inl hR2)
    · obtain ⟨v, T2, S2, hx, hy, hR2⟩ := H_drop T S c hR hc (xs (i + 1))
      refine g_aload_n h.to dL_law_334 rfl ?_
      refine g_aload_n h.to dL_law_335 rfl ?_
      refine g_iload_n h.to dL_law_336 rfl ?_
      refine g_iconst (v := 1) h.to dL_law_337 (by decide) ?_
      refine g_iadd h.to dL_law_338 ?_
      refine g_sld h dL_law_339 (i + 1) (nI_add i 1) (by omega) hL31 ?_
      refine g_cVw (ws' := wWB E a T2 ++ wRf E b S) h.to (qX10_drop (a0 := a) hx) mX10_drop lkL_31 dL_law_340 rfl rfl ⟨Nat.le_of_ble_eq_true rfl, Nat.le_of_ble_eq_true rfl⟩ ⟨Nat.le_of_ble_eq_true rfl, Nat.le_of_ble_eq_true rfl⟩ (Nat.le_of_ble_eq_true rfl) (List.range' 0 55) (gl_his1 rfl) rfl 0 rfl rfl mgL1 ?_
      refine g_aload_n h.to dL_law_343 rfl ?_
      refine g_aload_n h.to dL_law_344 rfl ?_
      refine g_iload_n h.to dL_law_345 rfl ?_
      refine g_iconst (v := 1) h.to dL_law_346 (by decide) ?_
      refine g_iadd h.to dL_law_347 ?_
      refine g_sld h dL_law_348 (i + 1) (nI_add i 1) (by omega) hL31 ?_
      refine g_cVw (ws' := wWB E a T2 ++ wRf E b S2) h.to (qX11_drop (a0 := b) hy) mX11_drop lkL_35 dL_law_349 rfl rfl ⟨Nat.le_of_ble_eq_true rfl, Nat.le_of_ble_eq_true rfl⟩ ⟨Nat.le_of_ble_eq_true rfl, Nat.le_of_ble_eq_true rfl⟩ (Nat.le_of_ble_eq_true rfl) (List.range' 55 16) (gl_his2 rfl rfl) rfl 55 rfl rfl mgL2 ?_
      refine g_lcmp h.to dL_law_352 ?_
      refine g_lif_eq h.to dL_law_353 rfl (fun _ => ?_) (fun q => absurd rfl q)
      exact next T2 S2 (Or.inl hR2)
    · obtain ⟨v, T2, S2, hx, hy, hR2⟩ := H_reading T S c hR hc (xs (i + 1)) (xs (i + 2))
      refine g_aload_n h.to dL_law_358 rfl ?_
      refine g_aload_n h.to dL_law_359 rfl ?_
      refine g_iload_n h.to dL_law_360 rfl ?_
      refine g_iconst (v := 1) h.to dL_law_361 (by decide) ?_
      refine g_iadd h.to dL_law_362 ?_
      refine g_sld h dL_law_363 (i + 1) (nI_add i 1) (by omega) hL31 ?_
      refine g_aload_n h.to dL_law_364 rfl ?_
      refine g_iload_n h.to dL_law_365 rfl ?_
      refine g_iconst (v := 2) h.to dL_law_366 (by decide) ?_
      refine g_iadd h.to dL_law_367 ?_
      refine g_sld h dL_law_368 (i + 2) (nI_add i 2) (by omega) hL31 ?_
      refine g_cVw (ws' := wWB E a T2 ++ wRf E b S) h.to (qX10_reading (a0 := a) hx) mX10_reading lkL_36 dL_law_369 rfl rfl ⟨Nat.le_of_ble_eq_true rfl, Nat.le_of_ble_eq_true rfl⟩ ⟨Nat.le_of_ble_eq_true rfl, Nat.le_of_ble_eq_true rfl⟩ (Nat.le_of_ble_eq_true rfl) (List.range' 0 55) (gl_his1 rfl) rfl 0 rfl rfl mgL1 ?_
      refine g_aload_n h.to dL_law_372 rfl ?_
      refine g_aload_n h.to dL_law_373 rfl ?_
      refine g_iload_n h.to dL_law_374 rfl ?_
      refine g_iconst (v := 1) h.to dL_law_375 (by decide) ?_
      refine g_iadd h.to dL_law_376 ?_
      refine g_sld h dL_law_377 (i + 1) (nI_add i 1) (by omega) hL31 ?_
      refine g_aload_n h.to dL_law_378 rfl ?_
      refine g_iload_n h.to dL_law_379 rfl ?_
      refine g_iconst (v := 2) h.to dL_law_380 (by decide) ?_
      refine g_iadd h.to dL_law_381 ?_
      refine g_sld h dL_law_382 (i + 2) (nI_add i 2) (by omega) hL31 ?_
      refine g_cVw (ws' := wWB E a T2 ++ wRf E b S2) h.to (qX11_reading (a0 := b) hy) mX11_reading lkL_39 dL_law_383 rfl rfl ⟨Nat.le_of_ble_eq_true rfl, Nat.le_of_ble_eq_true rfl⟩ ⟨Nat.le_of_ble_eq_true rfl, Nat.le_of_ble_eq_true rfl⟩ (Nat.le_of_ble_eq_true rfl) (List.range' 55 16) (gl_his2 rfl rfl) rfl 55 rfl rfl mgL2 ?_
      refine g_lcmp h.to dL_law_386 ?_
      refine g_lif_eq h.to dL_law_387 rfl (fun _ => ?_) (fun q => absurd rfl q)
      exact next T2 S2 (Or.inl hR2)
    · obtain ⟨v, T2, S2, hx, hy, hR2⟩ := H_sheet T S c hR hc (xs (i + 1)) (xs (i + 2))
      refine g_aload_n h.to dL_law_392 rfl ?_
      refine g_aload_n h.to dL_law_393 rfl ?_
      refine g_iload_n h.to dL_law_394 rfl ?_
      refine g_iconst (v := 1) h.to dL_law_395 (by decide) ?_
      refine g_iadd h.to dL_law_396 ?_
      refine g_sld h dL_law_397 (i + 1) (nI_add i 1) (by omega) hL31 ?_
      refine g_aload_n h.to dL_law_398 rfl ?_
      refine g_iload_n h.to dL_law_399 rfl ?_
      refine g_iconst (v := 2) h.to dL_law_400 (by decide) ?_
      refine g_iadd h.to dL_law_401 ?_
      refine g_sld h dL_law_402 (i + 2) (nI_add i 2) (by omega) hL31 ?_
      refine g_cVw (ws' := wWB E a T2 ++ wRf E b S) h.to (qX10_sheet (a0 := a) hx) mX10_sheet lkL_40 dL_law_403 rfl rfl ⟨Nat.le_of_ble_eq_true rfl, Nat.le_of_ble_eq_true rfl⟩ ⟨Nat.le_of_ble_eq_true rfl, Nat.le_of_ble_eq_true rfl⟩ (Nat.le_of_ble_eq_true rfl) (List.range' 0 55) (gl_his1 rfl) rfl 0 rfl rfl mgL1 ?_
      refine g_aload_n h.to dL_law_406 rfl ?_
      refine g_aload_n h.to dL_law_407 rfl ?_
      refine g_iload_n h.to dL_law_408 rfl ?_
      refine g_iconst (v := 1) h.to dL_law_409 (by decide) ?_
      refine g_iadd h.to dL_law_410 ?_
      refine g_sld h dL_law_411 (i + 1) (nI_add i 1) (by omega) hL31 ?_
      refine g_aload_n h.to dL_law_412 rfl ?_
      refine g_iload_n h.to dL_law_413 rfl ?_
      refine g_iconst (v := 2) h.to dL_law_414 (by decide) ?_
      refine g_iadd h.to dL_law_415 ?_
      refine g_sld h dL_law_416 (i + 2) (nI_add i 2) (by omega) hL31 ?_
      refine g_cVw (ws' := wWB E a T2 ++ wRf E b S2) h.to (qX11_sheet (a0 := b) hy) mX11_sheet lkL_43 dL_law_417 rfl rfl ⟨Nat.le_of_ble_eq_true rfl, Nat.le_of_ble_eq_true rfl⟩ ⟨Nat.le_of_ble_eq_true rfl, Nat.le_of_ble_eq_true rfl⟩ (Nat.le_of_ble_eq_true rfl) (List.range' 55 16) (gl_his2 rfl rfl) rfl 55 rfl rfl mgL2 ?_
      refine g_lcmp h.to dL_law_420 ?_
      refine g_lif_eq h.to dL_law_421 rfl (fun _ => ?_) (fun q => absurd rfl q)
      exact next T2 S2 (Or.inl hR2)
    · obtain ⟨v, T2, S2, hx, hy, hR2⟩ := H_put T S c hR hc (xs (i + 1)) (xs (i + 2)) (xs (i + 3))
      refine g_aload_n h.to dL_law_426 rfl ?_
      refine g_aload_n h.to dL_law_427 rfl ?_
      refine g_iload_n h.to dL_law_428 rfl ?_
      refine g_iconst (v := 1) h.to dL_law_429 (by decide) ?_
      refine g_iadd h.to dL_law_430 ?_
      refine g_sld h dL_law_431 (i + 1) (nI_add i 1) (by omega) hL31 ?_
      refine g_aload_n h.to dL_law_432 rfl ?_
      refine g_iload_n h.to dL_law_433 rfl ?_
      refine g_iconst (v := 2) h.to dL_law_434 (by decide) ?_
      refine g_iadd h.to dL_law_435 ?_
      refine g_sld h dL_law_436 (i + 2) (nI_add i 2) (by omega) hL31 ?_
      refine g_aload_n h.to dL_law_437 rfl ?_
      refine g_iload_n h.to dL_law_438 rfl ?_
      refine g_iconst (v := 3) h.to dL_law_439 (by decide) ?_
      refine g_iadd h.to dL_law_440 ?_
      refine g_sld h dL_law_441 (i + 3) (nI_add i 3) (by omega) hL31 ?_
      refine g_cVw (ws' := wWB E a T2 ++ wRf E b S) h.to (qX10_put (a0 := a) hx) mX10_put lkL_44 dL_law_442 rfl rfl ⟨Nat.le_of_ble_eq_true rfl, Nat.le_of_ble_eq_true rfl⟩ ⟨Nat.le_of_ble_eq_true rfl, Nat.le_of_ble_eq_true rfl⟩ (Nat.le_of_ble_eq_true rfl) (List.range' 0 55) (gl_his1 rfl) rfl 0 rfl rfl mgL1 ?_
      refine g_aload_n h.to dL_law_445 rfl ?_
      refine g_aload_n h.to dL_law_446 rfl ?_
      refine g_iload_n h.to dL_law_447 rfl ?_
      refine g_iconst (v := 1) h.to dL_law_448 (by decide) ?_
      refine g_iadd h.to dL_law_449 ?_
      refine g_sld h dL_law_450 (i + 1) (nI_add i 1) (by omega) hL31 ?_
      refine g_aload_n h.to dL_law_451 rfl ?_
      refine g_iload_n h.to dL_law_452 rfl ?_
      refine g_iconst (v := 2) h.to dL_law_453 (by decide) ?_
      refine g_iadd h.to dL_law_454 ?_
      refine g_sld h dL_law_455 (i + 2) (nI_add i 2) (by omega) hL31 ?_
      refine g_aload_n h.to dL_law_456 rfl ?_
      refine g_iload_n h.to dL_law_457 rfl ?_
      refine g_iconst (v := 3) h.to dL_law_458 (by decide) ?_
      refine g_iadd h.to dL_law_459 ?_
      refine g_sld h dL_law_460 (i + 3) (nI_add i 3) (by omega) hL31 ?_
      refine g_cVw (ws' := wWB E a T2 ++ wRf E b S2) h.to (qX11_put (a0 := b) hy) mX11_put lkL_47 dL_law_461 rfl rfl ⟨Nat.le_of_ble_eq_true rfl, Nat.le_of_ble_eq_true rfl⟩ ⟨Nat.le_of_ble_eq_true rfl, Nat.le_of_ble_eq_true rfl⟩ (Nat.le_of_ble_eq_true rfl) (List.range' 55 16) (gl_his2 rfl rfl) rfl 55 rfl rfl mgL2 ?_
      refine g_lcmp h.to dL_law_464 ?_
      refine g_lif_eq h.to dL_law_465 rfl (fun _ => ?_) (fun q => absurd rfl q)
      exact next T2 S2 (Or.inl hR2)
    · obtain ⟨v, T2, S2, hx, hy, hR2⟩ := H_lay T S c hR hc (xs (i + 1)) (xs (i + 2))
      refine g_aload_n h.to dL_law_470 rfl ?_
      refine g_aload_n h.to dL_law_471 rfl ?_
      refine g_iload_n h.to dL_law_472 rfl ?_
      refine g_iconst (v := 1) h.to dL_law_473 (by decide) ?_
      refine g_iadd h.to dL_law_474 ?_
      refine g_sld h dL_law_475 (i + 1) (nI_add i 1) (by omega) hL31 ?_
      refine g_aload_n h.to dL_law_476 rfl ?_
      refine g_iload_n h.to dL_law_477 rfl ?_
      refine g_iconst (v := 2) h.to dL_law_478 (by decide) ?_
      refine g_iadd h.to dL_law_479 ?_
      refine g_sld h dL_law_480 (i + 2) (nI_add i 2) (by omega) hL31 ?_
      refine g_cVw (ws' := wWB E a T2 ++ wRf E b S) h.to (qX10_lay (a0 := a) hx) mX10_lay lkL_48 dL_law_481 rfl rfl ⟨Nat.le_of_ble_eq_true rfl, Nat.le_of_ble_eq_true rfl⟩ ⟨Nat.le_of_ble_eq_true rfl, Nat.le_of_ble_eq_true rfl⟩ (Nat.le_of_ble_eq_true rfl) (List.range' 0 55) (gl_his1 rfl) rfl 0 rfl rfl mgL1 ?_
      refine g_aload_n h.to dL_law_484 rfl ?_
      refine g_aload_n h.to dL_law_485 rfl ?_
      refine g_iload_n h.to dL_law_486 rfl ?_
      refine g_iconst (v := 1) h.to dL_law_487 (by decide) ?_
      refine g_iadd h.to dL_law_488 ?_
      refine g_sld h dL_law_489 (i + 1) (nI_add i 1) (by omega) hL31 ?_
      refine g_aload_n h.to dL_law_490 rfl ?_
      refine g_iload_n h.to dL_law_491 rfl ?_
      refine g_iconst (v := 2) h.to dL_law_492 (by decide) ?_
      refine g_iadd h.to dL_law_493 ?_
      refine g_sld h dL_law_494 (i + 2) (nI_add i 2) (by omega) hL31 ?_
      refine g_cVw (ws' := wWB E a T2 ++ wRf E b S2) h.to (qX11_lay (a0 := b) hy) mX11_lay lkL_51 dL_law_495 rfl rfl ⟨Nat.le_of_ble_eq_true rfl, Nat.le_of_ble_eq_true rfl⟩ ⟨Nat.le_of_ble_eq_true rfl, Nat.le_of_ble_eq_true rfl⟩ (Nat.le_of_ble_eq_true rfl) (List.range' 55 16) (gl_his2 rfl rfl) rfl 55 rfl rfl mgL2 ?_
      refine g_lcmp h.to dL_law_498 ?_
      refine g_lif_eq h.to dL_law_499 rfl (fun _ => ?_) (fun q => absurd rfl q)
      exact next T2 S2 (Or.inl hR2)
    · obtain ⟨v, T2, S2, hx, hy, hR2⟩ := H_find T S c hR hc (xs (i + 1))
      refine g_aload_n h.to dL_law_504 rfl ?_
      refine g_aload_n h.to dL_law_505 rfl ?_
      refine g_iload_n h.to dL_law_506 rfl ?_
      refine g_iconst (v := 1) h.to dL_law_507 (by decide) ?_
      refine g_iadd h.to dL_law_508 ?_
      refine g_sld h dL_law_509 (i + 1) (nI_add i 1) (by omega) hL31 ?_
      refine g_cVw (ws' := wWB E a T2 ++ wRf E b S) h.to (qX10_find (a0 := a) hx) mX10_find lkL_52 dL_law_510 rfl rfl ⟨Nat.le_of_ble_eq_true rfl, Nat.le_of_ble_eq_true rfl⟩ ⟨Nat.le_of_ble_eq_true rfl, Nat.le_of_ble_eq_true rfl⟩ (Nat.le_of_ble_eq_true rfl) (List.range' 0 55) (gl_his1 rfl) rfl 0 rfl rfl mgL1 ?_
      refine g_aload_n h.to dL_law_513 rfl ?_
      refine g_aload_n h.to dL_law_514 rfl ?_
      refine g_iload_n h.to dL_law_515 rfl ?_
      refine g_iconst (v := 1) h.to dL_law_516 (by decide) ?_
      refine g_iadd h.to dL_law_517 ?_
      refine g_sld h dL_law_518 (i + 1) (nI_add i 1) (by omega) hL31 ?_
      refine g_cVw (ws' := wWB E a T2 ++ wRf E b S2) h.to (qX11_find (a0 := b) hy) mX11_find lkL_55 dL_law_519 rfl rfl ⟨Nat.le_of_ble_eq_true rfl, Nat.le_of_ble_eq_true rfl⟩ ⟨Nat.le_of_ble_eq_true rfl, Nat.le_of_ble_eq_true rfl⟩ (Nat.le_of_ble_eq_true rfl) (List.range' 55 16) (gl_his2 rfl rfl) rfl 55 rfl rfl mgL2 ?_
      refine g_lcmp h.to dL_law_522 ?_
      refine g_lif_eq h.to dL_law_523 rfl (fun _ => ?_) (fun q => absurd rfl q)
      exact next T2 S2 (Or.inl hR2)
    · obtain ⟨v, hx, hy⟩ := H_loose T S c hR
      refine g_aload_n h.to dL_law_528 rfl ?_
      refine g_cVr h.to (qX10_loose (a0 := a) hx) mX10_loose lkL_56 dL_law_529 rfl rfl ⟨Nat.le_of_ble_eq_true rfl, Nat.le_of_ble_eq_true rfl⟩ ⟨Nat.le_of_ble_eq_true rfl, Nat.le_of_ble_eq_true rfl⟩ (Nat.le_of_ble_eq_true rfl) (List.range' 0 55) (gl_his1 rfl) rfl 0 rfl rfl ?_
      refine g_aload_n h.to dL_law_532 rfl ?_
      refine g_cVr h.to (qX11_loose (a0 := b) hy) mX11_loose lkL_60 dL_law_533 rfl rfl ⟨Nat.le_of_ble_eq_true rfl, Nat.le_of_ble_eq_true rfl⟩ ⟨Nat.le_of_ble_eq_true rfl, Nat.le_of_ble_eq_true rfl⟩ (Nat.le_of_ble_eq_true rfl) (List.range' 55 16) (gl_his2 rfl rfl) rfl 55 rfl rfl ?_
      refine g_lcmp h.to dL_law_536 ?_
      refine g_lif_eq h.to dL_law_537 rfl (fun _ => ?_) (fun q => absurd rfl q)
      exact next T S (Or.inr hR)
    · obtain ⟨v, T2, S2, hx, hy, hR2⟩ := H_size T S c hR hc (xs (i + 1)) (nz (xs (i + 2)))
      refine g_aload_n h.to dL_law_542 rfl ?_
      refine g_aload_n h.to dL_law_543 rfl ?_
      refine g_iload_n h.to dL_law_544 rfl ?_
      refine g_iconst (v := 1) h.to dL_law_545 (by decide) ?_
      refine g_iadd h.to dL_law_546 ?_
      refine g_sld h dL_law_547 (i + 1) (nI_add i 1) (by omega) hL31 ?_
      refine g_aload_n h.to dL_law_548 rfl ?_
      refine g_iload_n h.to dL_law_549 rfl ?_
      refine g_iconst (v := 2) h.to dL_law_550 (by decide) ?_
      refine g_iadd h.to dL_law_551 ?_
      refine g_sld h dL_law_552 (i + 2) (nI_add i 2) (by omega) hL31 ?_
      refine g_nz h.to dL_law_553 dL_law_556 dL_law_557 dL_law_560 ?_
      refine g_cVw (ws' := wWB E a T2 ++ wRf E b S) h.to (qX10_size (a0 := a) hx) mX10_size lkL_61 dL_law_561 rfl rfl ⟨Nat.le_of_ble_eq_true rfl, Nat.le_of_ble_eq_true rfl⟩ ⟨Nat.le_of_ble_eq_true rfl, Nat.le_of_ble_eq_true rfl⟩ (Nat.le_of_ble_eq_true rfl) (List.range' 0 55) (gl_his1 rfl) rfl 0 rfl rfl mgL1 ?_
      refine g_aload_n h.to dL_law_564 rfl ?_
      refine g_aload_n h.to dL_law_565 rfl ?_
      refine g_iload_n h.to dL_law_566 rfl ?_
      refine g_iconst (v := 1) h.to dL_law_567 (by decide) ?_
      refine g_iadd h.to dL_law_568 ?_
      refine g_sld h dL_law_569 (i + 1) (nI_add i 1) (by omega) hL31 ?_
      refine g_aload_n h.to dL_law_570 rfl ?_
      refine g_iload_n h.to dL_law_571 rfl ?_
      refine g_iconst (v := 2) h.to dL_law_572 (by decide) ?_
      refine g_iadd h.to dL_law_573 ?_
      refine g_sld h dL_law_574 (i + 2) (nI_add i 2) (by omega) hL31 ?_
      refine g_nz h.to dL_law_575 dL_law_578 dL_law_579 dL_law_582 ?_
      refine g_cVw (ws' := wWB E a T2 ++ wRf E b S2) h.to (qX11_size (a0 := b) hy) mX11_size lkL_65 dL_law_583 rfl rfl ⟨Nat.le_of_ble_eq_true rfl, Nat.le_of_ble_eq_true rfl⟩ ⟨Nat.le_of_ble_eq_true rfl, Nat.le_of_ble_eq_true rfl⟩ (Nat.le_of_ble_eq_true rfl) (List.range' 55 16) (gl_his2 rfl rfl) rfl 55 rfl rfl mgL2 ?_
      refine g_lcmp h.to dL_law_586 ?_
      refine g_lif_eq h.to dL_law_587 rfl (fun _ => ?_) (fun q => absurd rfl q)
      exact next T2 S2 (Or.inl hR2)
    · obtain ⟨v, T2, S2, hx, hy, hR2⟩ := H_left T S c hR hc (xs (i + 1)) (nz (xs (i + 2)))
      refine g_aload_n h.to dL_law_592 rfl ?_
      refine g_aload_n h.to dL_law_593 rfl ?_
      refine g_iload_n h.to dL_law_594 rfl ?_
      refine g_iconst (v := 1) h.to dL_law_595 (by decide) ?_
      refine g_iadd h.to dL_law_596 ?_
      refine g_sld h dL_law_597 (i + 1) (nI_add i 1) (by omega) hL31 ?_
      refine g_aload_n h.to dL_law_598 rfl ?_
      refine g_iload_n h.to dL_law_599 rfl ?_
      refine g_iconst (v := 2) h.to dL_law_600 (by decide) ?_
      refine g_iadd h.to dL_law_601 ?_
      refine g_sld h dL_law_602 (i + 2) (nI_add i 2) (by omega) hL31 ?_
      refine g_nz h.to dL_law_603 dL_law_606 dL_law_607 dL_law_610 ?_
      refine g_cVw (ws' := wWB E a T2 ++ wRf E b S) h.to (qX10_left (a0 := a) hx) mX10_left lkL_66 dL_law_611 rfl rfl ⟨Nat.le_of_ble_eq_true rfl, Nat.le_of_ble_eq_true rfl⟩ ⟨Nat.le_of_ble_eq_true rfl, Nat.le_of_ble_eq_true rfl⟩ (Nat.le_of_ble_eq_true rfl) (List.range' 0 55) (gl_his1 rfl) rfl 0 rfl rfl mgL1 ?_
      refine g_aload_n h.to dL_law_614 rfl ?_
      refine g_aload_n h.to dL_law_615 rfl ?_
      refine g_iload_n h.to dL_law_616 rfl ?_
      refine g_iconst (v := 1) h.to dL_law_617 (by decide) ?_
      refine g_iadd h.to dL_law_618 ?_
      refine g_sld h dL_law_619 (i + 1) (nI_add i 1) (by omega) hL31 ?_
      refine g_aload_n h.to dL_law_620 rfl ?_
      refine g_iload_n h.to dL_law_621 rfl ?_
      refine g_iconst (v := 2) h.to dL_law_622 (by decide) ?_
      refine g_iadd h.to dL_law_623 ?_
      refine g_sld h dL_law_624 (i + 2) (nI_add i 2) (by omega) hL31 ?_
      refine g_nz h.to dL_law_625 dL_law_628 dL_law_629 dL_law_632 ?_
      refine g_cVw (ws' := wWB E a T2 ++ wRf E b S2) h.to (qX11_left (a0 := b) hy) mX11_left lkL_69 dL_law_633 rfl rfl ⟨Nat.le_of_ble_eq_true rfl, Nat.le_of_ble_eq_true rfl⟩ ⟨Nat.le_of_ble_eq_true rfl, Nat.le_of_ble_eq_true rfl⟩ (Nat.le_of_ble_eq_true rfl) (List.range' 55 16) (gl_his2 rfl rfl) rfl 55 rfl rfl mgL2 ?_
      refine g_lcmp h.to dL_law_636 ?_
      refine g_lif_eq h.to dL_law_637 rfl (fun _ => ?_) (fun q => absurd rfl q)
      exact next T2 S2 (Or.inl hR2)
    · obtain ⟨v, T2, S2, hx, hy, hR2⟩ := H_sum T S c hR hc (nz (xs (i + 1)))
      refine g_aload_n h.to dL_law_642 rfl ?_
      refine g_aload_n h.to dL_law_643 rfl ?_
      refine g_iload_n h.to dL_law_644 rfl ?_
      refine g_iconst (v := 1) h.to dL_law_645 (by decide) ?_
      refine g_iadd h.to dL_law_646 ?_
      refine g_sld h dL_law_647 (i + 1) (nI_add i 1) (by omega) hL31 ?_
      refine g_nz h.to dL_law_648 dL_law_651 dL_law_652 dL_law_655 ?_
      refine g_cVw (ws' := wWB E a T2 ++ wRf E b S) h.to (qX10_sum (a0 := a) hx) mX10_sum lkL_70 dL_law_656 rfl rfl ⟨Nat.le_of_ble_eq_true rfl, Nat.le_of_ble_eq_true rfl⟩ ⟨Nat.le_of_ble_eq_true rfl, Nat.le_of_ble_eq_true rfl⟩ (Nat.le_of_ble_eq_true rfl) (List.range' 0 55) (gl_his1 rfl) rfl 0 rfl rfl mgL1 ?_
      refine g_aload_n h.to dL_law_659 rfl ?_
      refine g_aload_n h.to dL_law_660 rfl ?_
      refine g_iload_n h.to dL_law_661 rfl ?_
      refine g_iconst (v := 1) h.to dL_law_662 (by decide) ?_
      refine g_iadd h.to dL_law_663 ?_
      refine g_sld h dL_law_664 (i + 1) (nI_add i 1) (by omega) hL31 ?_
      refine g_nz h.to dL_law_665 dL_law_668 dL_law_669 dL_law_672 ?_
      refine g_cVw (ws' := wWB E a T2 ++ wRf E b S2) h.to (qX11_sum (a0 := b) hy) mX11_sum lkL_74 dL_law_673 rfl rfl ⟨Nat.le_of_ble_eq_true rfl, Nat.le_of_ble_eq_true rfl⟩ ⟨Nat.le_of_ble_eq_true rfl, Nat.le_of_ble_eq_true rfl⟩ (Nat.le_of_ble_eq_true rfl) (List.range' 55 16) (gl_his2 rfl rfl) rfl 55 rfl rfl mgL2 ?_
      refine g_lcmp h.to dL_law_676 ?_
      refine g_lif_eq h.to dL_law_677 rfl (fun _ => ?_) (fun q => absurd rfl q)
      exact next T2 S2 (Or.inl hR2)
    · obtain ⟨v, T2, S2, hx, hy, hR2⟩ := H_foretold T S c hR hc (xs (i + 1)) (nz (xs (i + 2)))
      refine g_aload_n h.to dL_law_682 rfl ?_
      refine g_aload_n h.to dL_law_683 rfl ?_
      refine g_iload_n h.to dL_law_684 rfl ?_
      refine g_iconst (v := 1) h.to dL_law_685 (by decide) ?_
      refine g_iadd h.to dL_law_686 ?_
      refine g_sld h dL_law_687 (i + 1) (nI_add i 1) (by omega) hL31 ?_
      refine g_aload_n h.to dL_law_688 rfl ?_
      refine g_iload_n h.to dL_law_689 rfl ?_
      refine g_iconst (v := 2) h.to dL_law_690 (by decide) ?_
      refine g_iadd h.to dL_law_691 ?_
      refine g_sld h dL_law_692 (i + 2) (nI_add i 2) (by omega) hL31 ?_
      refine g_nz h.to dL_law_693 dL_law_696 dL_law_697 dL_law_700 ?_
      refine g_cVw (ws' := wWB E a T2 ++ wRf E b S) h.to (qX10_foretold (a0 := a) hx) mX10_foretold lkL_75 dL_law_701 rfl rfl ⟨Nat.le_of_ble_eq_true rfl, Nat.le_of_ble_eq_true rfl⟩ ⟨Nat.le_of_ble_eq_true rfl, Nat.le_of_ble_eq_true rfl⟩ (Nat.le_of_ble_eq_true rfl) (List.range' 0 55) (gl_his1 rfl) rfl 0 rfl rfl mgL1 ?_
      refine g_aload_n h.to dL_law_704 rfl ?_
      refine g_aload_n h.to dL_law_705 rfl ?_
      refine g_iload_n h.to dL_law_706 rfl ?_
      refine g_iconst (v := 1) h.to dL_law_707 (by decide) ?_
      refine g_iadd h.to dL_law_708 ?_
      refine g_sld h dL_law_709 (i + 1) (nI_add i 1) (by omega) hL31 ?_
      refine g_aload_n h.to dL_law_710 rfl ?_
      refine g_iload_n h.to dL_law_711 rfl ?_
      refine g_iconst (v := 2) h.to dL_law_712 (by decide) ?_
      refine g_iadd h.to dL_law_713 ?_
      refine g_sld h dL_law_714 (i + 2) (nI_add i 2) (by omega) hL31 ?_
      refine g_nz h.to dL_law_715 dL_law_718 dL_law_719 dL_law_722 ?_
      refine g_cVw (ws' := wWB E a T2 ++ wRf E b S2) h.to (qX11_foretold (a0 := b) hy) mX11_foretold lkL_78 dL_law_723 rfl rfl ⟨Nat.le_of_ble_eq_true rfl, Nat.le_of_ble_eq_true rfl⟩ ⟨Nat.le_of_ble_eq_true rfl, Nat.le_of_ble_eq_true rfl⟩ (Nat.le_of_ble_eq_true rfl) (List.range' 55 16) (gl_his2 rfl rfl) rfl 55 rfl rfl mgL2 ?_
      refine g_lcmp h.to dL_law_726 ?_
      refine g_lif_eq h.to dL_law_727 rfl (fun _ => ?_) (fun q => absurd rfl q)
      exact next T2 S2 (Or.inl hR2)
    · obtain ⟨v, T2, S2, hx, hy, hR2⟩ := H_model T S c hR hc 
      refine g_aload_n h.to dL_law_732 rfl ?_
      refine g_cVw (ws' := wWB E a T2 ++ wRf E b S) h.to (qX10_model (a0 := a) hx) mX10_model lkL_79 dL_law_733 rfl rfl ⟨Nat.le_of_ble_eq_true rfl, Nat.le_of_ble_eq_true rfl⟩ ⟨Nat.le_of_ble_eq_true rfl, Nat.le_of_ble_eq_true rfl⟩ (Nat.le_of_ble_eq_true rfl) (List.range' 0 55) (gl_his1 rfl) rfl 0 rfl rfl mgL1 ?_
      refine g_aload_n h.to dL_law_736 rfl ?_
      refine g_cVw (ws' := wWB E a T2 ++ wRf E b S2) h.to (qX11_model (a0 := b) hy) mX11_model lkL_82 dL_law_737 rfl rfl ⟨Nat.le_of_ble_eq_true rfl, Nat.le_of_ble_eq_true rfl⟩ ⟨Nat.le_of_ble_eq_true rfl, Nat.le_of_ble_eq_true rfl⟩ (Nat.le_of_ble_eq_true rfl) (List.range' 55 16) (gl_his2 rfl rfl) rfl 55 rfl rfl mgL2 ?_
      refine g_lcmp h.to dL_law_740 ?_
      refine g_lif_eq h.to dL_law_741 rfl (fun _ => ?_) (fun q => absurd rfl q)
      exact next T2 S2 (Or.inl hR2)
    · obtain ⟨v, T2, S2, hx, hy, hR2⟩ := H_few T S c hR hc (xs (i + 1))
      refine g_aload_n h.to dL_law_746 rfl ?_
      refine g_aload_n h.to dL_law_747 rfl ?_
      refine g_iload_n h.to dL_law_748 rfl ?_
      refine g_iconst (v := 1) h.to dL_law_749 (by decide) ?_
      refine g_iadd h.to dL_law_750 ?_
      refine g_sld h dL_law_751 (i + 1) (nI_add i 1) (by omega) hL31 ?_
      refine g_cVw (ws' := wWB E a T2 ++ wRf E b S) h.to (qX10_few (a0 := a) hx) mX10_few lkL_83 dL_law_752 rfl rfl ⟨Nat.le_of_ble_eq_true rfl, Nat.le_of_ble_eq_true rfl⟩ ⟨Nat.le_of_ble_eq_true rfl, Nat.le_of_ble_eq_true rfl⟩ (Nat.le_of_ble_eq_true rfl) (List.range' 0 55) (gl_his1 rfl) rfl 0 rfl rfl mgL1 ?_
      refine g_aload_n h.to dL_law_755 rfl ?_
      refine g_aload_n h.to dL_law_756 rfl ?_
      refine g_iload_n h.to dL_law_757 rfl ?_
      refine g_iconst (v := 1) h.to dL_law_758 (by decide) ?_
      refine g_iadd h.to dL_law_759 ?_
      refine g_sld h dL_law_760 (i + 1) (nI_add i 1) (by omega) hL31 ?_
      refine g_cVw (ws' := wWB E a T2 ++ wRf E b S2) h.to (qX11_few (a0 := b) hy) mX11_few lkL_86 dL_law_761 rfl rfl ⟨Nat.le_of_ble_eq_true rfl, Nat.le_of_ble_eq_true rfl⟩ ⟨Nat.le_of_ble_eq_true rfl, Nat.le_of_ble_eq_true rfl⟩ (Nat.le_of_ble_eq_true rfl) (List.range' 55 16) (gl_his2 rfl rfl) rfl 55 rfl rfl mgL2 ?_
      refine g_lcmp h.to dL_law_764 ?_
      refine g_lif_eq h.to dL_law_765 rfl (fun _ => ?_) (fun q => absurd rfl q)
      exact next T2 S2 (Or.inl hR2)
    · obtain ⟨v, T2, S2, hx, hy, hR2⟩ := H_doubt T S c hR hc (xs (i + 1)) (nz (xs (i + 2))) (nz (xs (i + 3)))
      refine g_aload_n h.to dL_law_770 rfl ?_
      refine g_aload_n h.to dL_law_771 rfl ?_
      refine g_iload_n h.to dL_law_772 rfl ?_
      refine g_iconst (v := 1) h.to dL_law_773 (by decide) ?_
      refine g_iadd h.to dL_law_774 ?_
      refine g_sld h dL_law_775 (i + 1) (nI_add i 1) (by omega) hL31 ?_
      refine g_aload_n h.to dL_law_776 rfl ?_
      refine g_iload_n h.to dL_law_777 rfl ?_
      refine g_iconst (v := 2) h.to dL_law_778 (by decide) ?_
      refine g_iadd h.to dL_law_779 ?_
      refine g_sld h dL_law_780 (i + 2) (nI_add i 2) (by omega) hL31 ?_
      refine g_nz h.to dL_law_781 dL_law_784 dL_law_785 dL_law_788 ?_
      refine g_aload_n h.to dL_law_789 rfl ?_
      refine g_iload_n h.to dL_law_790 rfl ?_
      refine g_iconst (v := 3) h.to dL_law_791 (by decide) ?_
      refine g_iadd h.to dL_law_792 ?_
      refine g_sld h dL_law_793 (i + 3) (nI_add i 3) (by omega) hL31 ?_
      refine g_nz h.to dL_law_794 dL_law_797 dL_law_798 dL_law_801 ?_
      refine g_cVw (ws' := wWB E a T2 ++ wRf E b S) h.to (qX10_doubt (a0 := a) hx) mX10_doubt lkL_87 dL_law_802 rfl rfl ⟨Nat.le_of_ble_eq_true rfl, Nat.le_of_ble_eq_true rfl⟩ ⟨Nat.le_of_ble_eq_true rfl, Nat.le_of_ble_eq_true rfl⟩ (Nat.le_of_ble_eq_true rfl) (List.range' 0 55) (gl_his1 rfl) rfl 0 rfl rfl mgL1 ?_
      refine g_aload_n h.to dL_law_805 rfl ?_
      refine g_aload_n h.to dL_law_806 rfl ?_
      refine g_iload_n h.to dL_law_807 rfl ?_
      refine g_iconst (v := 1) h.to dL_law_808 (by decide) ?_
      refine g_iadd h.to dL_law_809 ?_
      refine g_sld h dL_law_810 (i + 1) (nI_add i 1) (by omega) hL31 ?_
      refine g_aload_n h.to dL_law_811 rfl ?_
      refine g_iload_n h.to dL_law_812 rfl ?_
      refine g_iconst (v := 2) h.to dL_law_813 (by decide) ?_
      refine g_iadd h.to dL_law_814 ?_
      refine g_sld h dL_law_815 (i + 2) (nI_add i 2) (by omega) hL31 ?_
      refine g_nz h.to dL_law_816 dL_law_819 dL_law_820 dL_law_823 ?_
      refine g_aload_n h.to dL_law_824 rfl ?_
      refine g_iload_n h.to dL_law_825 rfl ?_
      refine g_iconst (v := 3) h.to dL_law_826 (by decide) ?_
      refine g_iadd h.to dL_law_827 ?_
      refine g_sld h dL_law_828 (i + 3) (nI_add i 3) (by omega) hL31 ?_
      refine g_nz h.to dL_law_829 dL_law_832 dL_law_833 dL_law_836 ?_
      refine g_cVw (ws' := wWB E a T2 ++ wRf E b S2) h.to (qX11_doubt (a0 := b) hy) mX11_doubt lkL_91 dL_law_837 rfl rfl ⟨Nat.le_of_ble_eq_true rfl, Nat.le_of_ble_eq_true rfl⟩ ⟨Nat.le_of_ble_eq_true rfl, Nat.le_of_ble_eq_true rfl⟩ (Nat.le_of_ble_eq_true rfl) (List.range' 55 16) (gl_his2 rfl rfl) rfl 55 rfl rfl mgL2 ?_
      refine g_lcmp h.to dL_law_840 ?_
      refine g_lif_eq h.to dL_law_841 rfl (fun _ => ?_) (fun q => absurd rfl q)
      exact next T2 S2 (Or.inl hR2)
    · obtain ⟨v, T2, S2, hx, hy, hR2⟩ := H_spare T S c hR hc 
      refine g_aload_n h.to dL_law_846 rfl ?_
      refine g_cVw (ws' := wWB E a T2 ++ wRf E b S) h.to (qX10_spare (a0 := a) hx) mX10_spare lkL_92 dL_law_847 rfl rfl ⟨Nat.le_of_ble_eq_true rfl, Nat.le_of_ble_eq_true rfl⟩ ⟨Nat.le_of_ble_eq_true rfl, Nat.le_of_ble_eq_true rfl⟩ (Nat.le_of_ble_eq_true rfl) (List.range' 0 55) (gl_his1 rfl) rfl 0 rfl rfl mgL1 ?_
      refine g_aload_n h.to dL_law_850 rfl ?_
      refine g_cVw (ws' := wWB E a T2 ++ wRf E b S2) h.to (qX11_spare (a0 := b) hy) mX11_spare lkL_95 dL_law_851 rfl rfl ⟨Nat.le_of_ble_eq_true rfl, Nat.le_of_ble_eq_true rfl⟩ ⟨Nat.le_of_ble_eq_true rfl, Nat.le_of_ble_eq_true rfl⟩ (Nat.le_of_ble_eq_true rfl) (List.range' 55 16) (gl_his2 rfl rfl) rfl 55 rfl rfl mgL2 ?_
      refine g_lcmp h.to dL_law_854 ?_
      refine g_lif_eq h.to dL_law_855 rfl (fun _ => ?_) (fun q => absurd rfl q)
      exact next T2 S2 (Or.inl hR2)
    · obtain ⟨v, T2, S2, hx, hy, hR2⟩ := H_mend T S c hR hc (xs (i + 1)) (xs (i + 2))
      refine g_aload_n h.to dL_law_860 rfl ?_
      refine g_aload_n h.to dL_law_861 rfl ?_
      refine g_iload_n h.to dL_law_862 rfl ?_
      refine g_iconst (v := 1) h.to dL_law_863 (by decide) ?_
      refine g_iadd h.to dL_law_864 ?_
      refine g_sld h dL_law_865 (i + 1) (nI_add i 1) (by omega) hL31 ?_
      refine g_aload_n h.to dL_law_866 rfl ?_
      refine g_iload_n h.to dL_law_867 rfl ?_
      refine g_iconst (v := 2) h.to dL_law_868 (by decide) ?_
      refine g_iadd h.to dL_law_869 ?_
      refine g_sld h dL_law_870 (i + 2) (nI_add i 2) (by omega) hL31 ?_
      refine g_cVw (ws' := wWB E a T2 ++ wRf E b S) h.to (qX10_mend (a0 := a) hx) mX10_mend lkL_96 dL_law_871 rfl rfl ⟨Nat.le_of_ble_eq_true rfl, Nat.le_of_ble_eq_true rfl⟩ ⟨Nat.le_of_ble_eq_true rfl, Nat.le_of_ble_eq_true rfl⟩ (Nat.le_of_ble_eq_true rfl) (List.range' 0 55) (gl_his1 rfl) rfl 0 rfl rfl mgL1 ?_
      refine g_aload_n h.to dL_law_874 rfl ?_
      refine g_aload_n h.to dL_law_875 rfl ?_
      refine g_iload_n h.to dL_law_876 rfl ?_
      refine g_iconst (v := 1) h.to dL_law_877 (by decide) ?_
      refine g_iadd h.to dL_law_878 ?_
      refine g_sld h dL_law_879 (i + 1) (nI_add i 1) (by omega) hL31 ?_
      refine g_aload_n h.to dL_law_880 rfl ?_
      refine g_iload_n h.to dL_law_881 rfl ?_
      refine g_iconst (v := 2) h.to dL_law_882 (by decide) ?_
      refine g_iadd h.to dL_law_883 ?_
      refine g_sld h dL_law_884 (i + 2) (nI_add i 2) (by omega) hL31 ?_
      refine g_cVw (ws' := wWB E a T2 ++ wRf E b S2) h.to (qX11_mend (a0 := b) hy) mX11_mend lkL_99 dL_law_885 rfl rfl ⟨Nat.le_of_ble_eq_true rfl, Nat.le_of_ble_eq_true rfl⟩ ⟨Nat.le_of_ble_eq_true rfl, Nat.le_of_ble_eq_true rfl⟩ (Nat.le_of_ble_eq_true rfl) (List.range' 55 16) (gl_his2 rfl rfl) rfl 55 rfl rfl mgL2 ?_
      refine g_lcmp h.to dL_law_888 ?_
      refine g_lif_eq h.to dL_law_889 rfl (fun _ => ?_) (fun q => absurd rfl q)
      exact next T2 S2 (Or.inl hR2)
    · obtain ⟨v, T2, S2, hx, hy, hR2⟩ := H_span T S c hR hc (xs (i + 1)) (xs (i + 2)) (xs (i + 3))
      refine g_aload_n h.to dL_law_894 rfl ?_
      refine g_aload_n h.to dL_law_895 rfl ?_
      refine g_iload_n h.to dL_law_896 rfl ?_
      refine g_iconst (v := 1) h.to dL_law_897 (by decide) ?_
      refine g_iadd h.to dL_law_898 ?_
      refine g_sld h dL_law_899 (i + 1) (nI_add i 1) (by omega) hL31 ?_
      refine g_aload_n h.to dL_law_900 rfl ?_
      refine g_iload_n h.to dL_law_901 rfl ?_
      refine g_iconst (v := 2) h.to dL_law_902 (by decide) ?_
      refine g_iadd h.to dL_law_903 ?_
      refine g_sld h dL_law_904 (i + 2) (nI_add i 2) (by omega) hL31 ?_
      refine g_aload_n h.to dL_law_905 rfl ?_
      refine g_iload_n h.to dL_law_906 rfl ?_
      refine g_iconst (v := 3) h.to dL_law_907 (by decide) ?_
      refine g_iadd h.to dL_law_908 ?_
      refine g_sld h dL_law_909 (i + 3) (nI_add i 3) (by omega) hL31 ?_
      refine g_cVw (ws' := wWB E a T2 ++ wRf E b S) h.to (qX10_span (a0 := a) hx) mX10_span lkL_100 dL_law_910 rfl rfl ⟨Nat.le_of_ble_eq_true rfl, Nat.le_of_ble_eq_true rfl⟩ ⟨Nat.le_of_ble_eq_true rfl, Nat.le_of_ble_eq_true rfl⟩ (Nat.le_of_ble_eq_true rfl) (List.range' 0 55) (gl_his1 rfl) rfl 0 rfl rfl mgL1 ?_
      refine g_aload_n h.to dL_law_913 rfl ?_
      refine g_aload_n h.to dL_law_914 rfl ?_
      refine g_iload_n h.to dL_law_915 rfl ?_
      refine g_iconst (v := 1) h.to dL_law_916 (by decide) ?_
      refine g_iadd h.to dL_law_917 ?_
      refine g_sld h dL_law_918 (i + 1) (nI_add i 1) (by omega) hL31 ?_
      refine g_aload_n h.to dL_law_919 rfl ?_
      refine g_iload_n h.to dL_law_920 rfl ?_
      refine g_iconst (v := 2) h.to dL_law_921 (by decide) ?_
      refine g_iadd h.to dL_law_922 ?_
      refine g_sld h dL_law_923 (i + 2) (nI_add i 2) (by omega) hL31 ?_
      refine g_aload_n h.to dL_law_924 rfl ?_
      refine g_iload_n h.to dL_law_925 rfl ?_
      refine g_iconst (v := 3) h.to dL_law_926 (by decide) ?_
      refine g_iadd h.to dL_law_927 ?_
      refine g_sld h dL_law_928 (i + 3) (nI_add i 3) (by omega) hL31 ?_
      refine g_cVw (ws' := wWB E a T2 ++ wRf E b S2) h.to (qX11_span (a0 := b) hy) mX11_span lkL_103 dL_law_929 rfl rfl ⟨Nat.le_of_ble_eq_true rfl, Nat.le_of_ble_eq_true rfl⟩ ⟨Nat.le_of_ble_eq_true rfl, Nat.le_of_ble_eq_true rfl⟩ (Nat.le_of_ble_eq_true rfl) (List.range' 55 16) (gl_his2 rfl rfl) rfl 55 rfl rfl mgL2 ?_
      refine g_lcmp h.to dL_law_932 ?_
      refine g_lif_eq h.to dL_law_933 rfl (fun _ => ?_) (fun q => absurd rfl q)
      exact next T2 S2 (Or.inl hR2)
    · obtain ⟨v, T2, S2, hx, hy, hR2⟩ := H_behind T S c hR hc (xs (i + 1)) (xs (i + 2)) (xs (i + 3)) (xs (i + 4)) (xs (i + 5)) (nz (xs (i + 6)))
      refine g_aload_n h.to dL_law_938 rfl ?_
      refine g_aload_n h.to dL_law_939 rfl ?_
      refine g_iload_n h.to dL_law_940 rfl ?_
      refine g_iconst (v := 1) h.to dL_law_941 (by decide) ?_
      refine g_iadd h.to dL_law_942 ?_
      refine g_sld h dL_law_943 (i + 1) (nI_add i 1) (by omega) hL31 ?_
      refine g_aload_n h.to dL_law_944 rfl ?_
      refine g_iload_n h.to dL_law_945 rfl ?_
      refine g_iconst (v := 2) h.to dL_law_946 (by decide) ?_
      refine g_iadd h.to dL_law_947 ?_
      refine g_sld h dL_law_948 (i + 2) (nI_add i 2) (by omega) hL31 ?_
      refine g_aload_n h.to dL_law_949 rfl ?_
      refine g_iload_n h.to dL_law_950 rfl ?_
      refine g_iconst (v := 3) h.to dL_law_951 (by decide) ?_
      refine g_iadd h.to dL_law_952 ?_
      refine g_sld h dL_law_953 (i + 3) (nI_add i 3) (by omega) hL31 ?_
      refine g_aload_n h.to dL_law_954 rfl ?_
      refine g_iload_n h.to dL_law_955 rfl ?_
      refine g_iconst (v := 4) h.to dL_law_956 (by decide) ?_
      refine g_iadd h.to dL_law_957 ?_
      refine g_sld h dL_law_958 (i + 4) (nI_add i 4) (by omega) hL31 ?_
      refine g_aload_n h.to dL_law_959 rfl ?_
      refine g_iload_n h.to dL_law_960 rfl ?_
      refine g_iconst (v := 5) h.to dL_law_961 (by decide) ?_
      refine g_iadd h.to dL_law_962 ?_
      refine g_sld h dL_law_963 (i + 5) (nI_add i 5) (by omega) hL31 ?_
      refine g_aload_n h.to dL_law_964 rfl ?_
      refine g_iload_n h.to dL_law_965 rfl ?_
      refine g_bipush (v := 6) h.to dL_law_966 (by decide) ?_
      refine g_iadd h.to dL_law_968 ?_
      refine g_sld h dL_law_969 (i + 6) (nI_add i 6) (by omega) hL31 ?_
      refine g_nz h.to dL_law_970 dL_law_973 dL_law_974 dL_law_977 ?_
      refine g_cVw (ws' := wWB E a T2 ++ wRf E b S) h.to (qX10_behind (a0 := a) hx) mX10_behind lkL_104 dL_law_978 rfl rfl ⟨Nat.le_of_ble_eq_true rfl, Nat.le_of_ble_eq_true rfl⟩ ⟨Nat.le_of_ble_eq_true rfl, Nat.le_of_ble_eq_true rfl⟩ (Nat.le_of_ble_eq_true rfl) (List.range' 0 55) (gl_his1 rfl) rfl 0 rfl rfl mgL1 ?_
      refine g_aload_n h.to dL_law_981 rfl ?_
      refine g_aload_n h.to dL_law_982 rfl ?_
      refine g_iload_n h.to dL_law_983 rfl ?_
      refine g_iconst (v := 1) h.to dL_law_984 (by decide) ?_
      refine g_iadd h.to dL_law_985 ?_
      refine g_sld h dL_law_986 (i + 1) (nI_add i 1) (by omega) hL31 ?_
      refine g_aload_n h.to dL_law_987 rfl ?_
      refine g_iload_n h.to dL_law_988 rfl ?_
      refine g_iconst (v := 2) h.to dL_law_989 (by decide) ?_
      refine g_iadd h.to dL_law_990 ?_
      refine g_sld h dL_law_991 (i + 2) (nI_add i 2) (by omega) hL31 ?_
      refine g_aload_n h.to dL_law_992 rfl ?_
      refine g_iload_n h.to dL_law_993 rfl ?_
      refine g_iconst (v := 3) h.to dL_law_994 (by decide) ?_
      refine g_iadd h.to dL_law_995 ?_
      refine g_sld h dL_law_996 (i + 3) (nI_add i 3) (by omega) hL31 ?_
      refine g_aload_n h.to dL_law_997 rfl ?_
      refine g_iload_n h.to dL_law_998 rfl ?_
      refine g_iconst (v := 4) h.to dL_law_999 (by decide) ?_
      refine g_iadd h.to dL_law_1000 ?_
      refine g_sld h dL_law_1001 (i + 4) (nI_add i 4) (by omega) hL31 ?_
      refine g_aload_n h.to dL_law_1002 rfl ?_
      refine g_iload_n h.to dL_law_1003 rfl ?_
      refine g_iconst (v := 5) h.to dL_law_1004 (by decide) ?_
      refine g_iadd h.to dL_law_1005 ?_
      refine g_sld h dL_law_1006 (i + 5) (nI_add i 5) (by omega) hL31 ?_
      refine g_aload_n h.to dL_law_1007 rfl ?_
      refine g_iload_n h.to dL_law_1008 rfl ?_
      refine g_bipush (v := 6) h.to dL_law_1009 (by decide) ?_
      refine g_iadd h.to dL_law_1011 ?_
      refine g_sld h dL_law_1012 (i + 6) (nI_add i 6) (by omega) hL31 ?_
      refine g_nz h.to dL_law_1013 dL_law_1016 dL_law_1017 dL_law_1020 ?_
      refine g_cVw (ws' := wWB E a T2 ++ wRf E b S2) h.to (qX11_behind (a0 := b) hy) mX11_behind lkL_108 dL_law_1021 rfl rfl ⟨Nat.le_of_ble_eq_true rfl, Nat.le_of_ble_eq_true rfl⟩ ⟨Nat.le_of_ble_eq_true rfl, Nat.le_of_ble_eq_true rfl⟩ (Nat.le_of_ble_eq_true rfl) (List.range' 55 16) (gl_his2 rfl rfl) rfl 55 rfl rfl mgL2 ?_
      refine g_lcmp h.to dL_law_1024 ?_
      refine g_lif_eq h.to dL_law_1025 rfl (fun _ => ?_) (fun q => absurd rfl q)
      exact next T2 S2 (Or.inl hR2)
    · obtain ⟨v, T2, S2, hx, hy, hR2⟩ := H_worst T S c hR hc (nz (xs (i + 1)))
      refine g_aload_n h.to dL_law_1030 rfl ?_
      refine g_aload_n h.to dL_law_1031 rfl ?_
      refine g_iload_n h.to dL_law_1032 rfl ?_
      refine g_iconst (v := 1) h.to dL_law_1033 (by decide) ?_
      refine g_iadd h.to dL_law_1034 ?_
      refine g_sld h dL_law_1035 (i + 1) (nI_add i 1) (by omega) hL31 ?_
      refine g_nz h.to dL_law_1036 dL_law_1039 dL_law_1040 dL_law_1043 ?_
      refine g_cVw (ws' := wWB E a T2 ++ wRf E b S) h.to (qX10_worst (a0 := a) hx) mX10_worst lkL_109 dL_law_1044 rfl rfl ⟨Nat.le_of_ble_eq_true rfl, Nat.le_of_ble_eq_true rfl⟩ ⟨Nat.le_of_ble_eq_true rfl, Nat.le_of_ble_eq_true rfl⟩ (Nat.le_of_ble_eq_true rfl) (List.range' 0 55) (gl_his1 rfl) rfl 0 rfl rfl mgL1 ?_
      refine g_aload_n h.to dL_law_1047 rfl ?_
      refine g_aload_n h.to dL_law_1048 rfl ?_
      refine g_iload_n h.to dL_law_1049 rfl ?_
      refine g_iconst (v := 1) h.to dL_law_1050 (by decide) ?_
      refine g_iadd h.to dL_law_1051 ?_
      refine g_sld h dL_law_1052 (i + 1) (nI_add i 1) (by omega) hL31 ?_
      refine g_nz h.to dL_law_1053 dL_law_1056 dL_law_1057 dL_law_1060 ?_
      refine g_cVw (ws' := wWB E a T2 ++ wRf E b S2) h.to (qX11_worst (a0 := b) hy) mX11_worst lkL_112 dL_law_1061 rfl rfl ⟨Nat.le_of_ble_eq_true rfl, Nat.le_of_ble_eq_true rfl⟩ ⟨Nat.le_of_ble_eq_true rfl, Nat.le_of_ble_eq_true rfl⟩ (Nat.le_of_ble_eq_true rfl) (List.range' 55 16) (gl_his2 rfl rfl) rfl 55 rfl rfl mgL2 ?_
      refine g_lcmp h.to dL_law_1064 ?_
      refine g_lif_eq h.to dL_law_1065 rfl (fun _ => ?_) (fun q => absurd rfl q)
      exact next T2 S2 (Or.inl hR2)
    · obtain ⟨v, T2, S2, hx, hy, hR2⟩ := H_best T S c hR hc 
      refine g_aload_n h.to dL_law_1070 rfl ?_
      refine g_cVw (ws' := wWB E a T2 ++ wRf E b S) h.to (qX10_best (a0 := a) hx) mX10_best lkL_113 dL_law_1071 rfl rfl ⟨Nat.le_of_ble_eq_true rfl, Nat.le_of_ble_eq_true rfl⟩ ⟨Nat.le_of_ble_eq_true rfl, Nat.le_of_ble_eq_true rfl⟩ (Nat.le_of_ble_eq_true rfl) (List.range' 0 55) (gl_his1 rfl) rfl 0 rfl rfl mgL1 ?_
      refine g_aload_n h.to dL_law_1074 rfl ?_
      refine g_cVw (ws' := wWB E a T2 ++ wRf E b S2) h.to (qX11_best (a0 := b) hy) mX11_best lkL_116 dL_law_1075 rfl rfl ⟨Nat.le_of_ble_eq_true rfl, Nat.le_of_ble_eq_true rfl⟩ ⟨Nat.le_of_ble_eq_true rfl, Nat.le_of_ble_eq_true rfl⟩ (Nat.le_of_ble_eq_true rfl) (List.range' 55 16) (gl_his2 rfl rfl) rfl 55 rfl rfl mgL2 ?_
      refine g_lcmp h.to dL_law_1078 ?_
      refine g_lif_eq h.to dL_law_1079 rfl (fun _ => ?_) (fun q => absurd rfl q)
      exact next T2 S2 (Or.inl hR2)
    · obtain ⟨v, T2, S2, hx, hy, hR2⟩ := H_paper T S c hR hc 
      refine g_aload_n h.to dL_law_1084 rfl ?_
      refine g_cVw (ws' := wWB E a T2 ++ wRf E b S) h.to (qX10_paper (a0 := a) hx) mX10_paper lkL_117 dL_law_1085 rfl rfl ⟨Nat.le_of_ble_eq_true rfl, Nat.le_of_ble_eq_true rfl⟩ ⟨Nat.le_of_ble_eq_true rfl, Nat.le_of_ble_eq_true rfl⟩ (Nat.le_of_ble_eq_true rfl) (List.range' 0 55) (gl_his1 rfl) rfl 0 rfl rfl mgL1 ?_
      refine g_aload_n h.to dL_law_1088 rfl ?_
      refine g_cVw (ws' := wWB E a T2 ++ wRf E b S2) h.to (qX11_paper (a0 := b) hy) mX11_paper lkL_120 dL_law_1089 rfl rfl ⟨Nat.le_of_ble_eq_true rfl, Nat.le_of_ble_eq_true rfl⟩ ⟨Nat.le_of_ble_eq_true rfl, Nat.le_of_ble_eq_true rfl⟩ (Nat.le_of_ble_eq_true rfl) (List.range' 55 16) (gl_his2 rfl rfl) rfl 55 rfl rfl mgL2 ?_
      refine g_lcmp h.to dL_law_1092 ?_
      refine g_lif_eq h.to dL_law_1093 rfl (fun _ => ?_) (fun q => absurd rfl q)
      exact next T2 S2 (Or.inl hR2)
    · obtain ⟨v, T2, S2, hx, hy, hR2⟩ := H_day T S c hR hc (xs (i + 1)) (xs (i + 2))
      refine g_aload_n h.to dL_law_1098 rfl ?_
      refine g_aload_n h.to dL_law_1099 rfl ?_
      refine g_iload_n h.to dL_law_1100 rfl ?_
      refine g_iconst (v := 1) h.to dL_law_1101 (by decide) ?_
      refine g_iadd h.to dL_law_1102 ?_
      refine g_sld h dL_law_1103 (i + 1) (nI_add i 1) (by omega) hL31 ?_
      refine g_aload_n h.to dL_law_1104 rfl ?_
      refine g_iload_n h.to dL_law_1105 rfl ?_
      refine g_iconst (v := 2) h.to dL_law_1106 (by decide) ?_
      refine g_iadd h.to dL_law_1107 ?_
      refine g_sld h dL_law_1108 (i + 2) (nI_add i 2) (by omega) hL31 ?_
      refine g_cVw (ws' := wWB E a T2 ++ wRf E b S) h.to (qX10_day (a0 := a) hx) mX10_day lkL_121 dL_law_1109 rfl rfl ⟨Nat.le_of_ble_eq_true rfl, Nat.le_of_ble_eq_true rfl⟩ ⟨Nat.le_of_ble_eq_true rfl, Nat.le_of_ble_eq_true rfl⟩ (Nat.le_of_ble_eq_true rfl) (List.range' 0 55) (gl_his1 rfl) rfl 0 rfl rfl mgL1 ?_
      refine g_aload_n h.to dL_law_1112 rfl ?_
      refine g_aload_n h.to dL_law_1113 rfl ?_
      refine g_iload_n h.to dL_law_1114 rfl ?_
      refine g_iconst (v := 1) h.to dL_law_1115 (by decide) ?_
      refine g_iadd h.to dL_law_1116 ?_
      refine g_sld h dL_law_1117 (i + 1) (nI_add i 1) (by omega) hL31 ?_
      refine g_aload_n h.to dL_law_1118 rfl ?_
      refine g_iload_n h.to dL_law_1119 rfl ?_
      refine g_iconst (v := 2) h.to dL_law_1120 (by decide) ?_
      refine g_iadd h.to dL_law_1121 ?_
      refine g_sld h dL_law_1122 (i + 2) (nI_add i 2) (by omega) hL31 ?_
      refine g_cVw (ws' := wWB E a T2 ++ wRf E b S2) h.to (qX11_day (a0 := b) hy) mX11_day lkL_124 dL_law_1123 rfl rfl ⟨Nat.le_of_ble_eq_true rfl, Nat.le_of_ble_eq_true rfl⟩ ⟨Nat.le_of_ble_eq_true rfl, Nat.le_of_ble_eq_true rfl⟩ (Nat.le_of_ble_eq_true rfl) (List.range' 55 16) (gl_his2 rfl rfl) rfl 55 rfl rfl mgL2 ?_
      refine g_lcmp h.to dL_law_1126 ?_
      refine g_lif_eq h.to dL_law_1127 rfl (fun _ => ?_) (fun q => absurd rfl q)
      exact next T2 S2 (Or.inl hR2)
    · obtain ⟨v, T2, S2, hx, hy, hR2⟩ := H_anew T S c hR hc 
      refine g_aload_n h.to dL_law_1132 rfl ?_
      refine g_cVw (ws' := wWB E a T2 ++ wRf E b S) h.to (qX10_anew (a0 := a) hx) mX10_anew lkL_125 dL_law_1133 rfl rfl ⟨Nat.le_of_ble_eq_true rfl, Nat.le_of_ble_eq_true rfl⟩ ⟨Nat.le_of_ble_eq_true rfl, Nat.le_of_ble_eq_true rfl⟩ (Nat.le_of_ble_eq_true rfl) (List.range' 0 55) (gl_his1 rfl) rfl 0 rfl rfl mgL1 ?_
      refine g_aload_n h.to dL_law_1136 rfl ?_
      refine g_cVw (ws' := wWB E a T2 ++ wRf E b S2) h.to (qX11_anew (a0 := b) hy) mX11_anew lkL_128 dL_law_1137 rfl rfl ⟨Nat.le_of_ble_eq_true rfl, Nat.le_of_ble_eq_true rfl⟩ ⟨Nat.le_of_ble_eq_true rfl, Nat.le_of_ble_eq_true rfl⟩ (Nat.le_of_ble_eq_true rfl) (List.range' 55 16) (gl_his2 rfl rfl) rfl 55 rfl rfl mgL2 ?_
      refine g_lcmp h.to dL_law_1140 ?_
      refine g_lif_eq h.to dL_law_1141 rfl (fun _ => ?_) (fun q => absurd rfl q)
      exact next T2 S2 (Or.inl hR2)
    · obtain ⟨v, T2, S2, hx, hy, hR2⟩ := H_mean T S c hR hc (xs (i + 1)) (nz (xs (i + 2)))
      refine g_aload_n h.to dL_law_1146 rfl ?_
      refine g_aload_n h.to dL_law_1147 rfl ?_
      refine g_iload_n h.to dL_law_1148 rfl ?_
      refine g_iconst (v := 1) h.to dL_law_1149 (by decide) ?_
      refine g_iadd h.to dL_law_1150 ?_
      refine g_sld h dL_law_1151 (i + 1) (nI_add i 1) (by omega) hL31 ?_
      refine g_aload_n h.to dL_law_1152 rfl ?_
      refine g_iload_n h.to dL_law_1153 rfl ?_
      refine g_iconst (v := 2) h.to dL_law_1154 (by decide) ?_
      refine g_iadd h.to dL_law_1155 ?_
      refine g_sld h dL_law_1156 (i + 2) (nI_add i 2) (by omega) hL31 ?_
      refine g_nz h.to dL_law_1157 dL_law_1160 dL_law_1161 dL_law_1164 ?_
      refine g_cVw (ws' := wWB E a T2 ++ wRf E b S) h.to (qX10_mean (a0 := a) hx) mX10_mean lkL_129 dL_law_1165 rfl rfl ⟨Nat.le_of_ble_eq_true rfl, Nat.le_of_ble_eq_true rfl⟩ ⟨Nat.le_of_ble_eq_true rfl, Nat.le_of_ble_eq_true rfl⟩ (Nat.le_of_ble_eq_true rfl) (List.range' 0 55) (gl_his1 rfl) rfl 0 rfl rfl mgL1 ?_
      refine g_aload_n h.to dL_law_1168 rfl ?_
      refine g_aload_n h.to dL_law_1169 rfl ?_
      refine g_iload_n h.to dL_law_1170 rfl ?_
      refine g_iconst (v := 1) h.to dL_law_1171 (by decide) ?_
      refine g_iadd h.to dL_law_1172 ?_
      refine g_sld h dL_law_1173 (i + 1) (nI_add i 1) (by omega) hL31 ?_
      refine g_aload_n h.to dL_law_1174 rfl ?_
      refine g_iload_n h.to dL_law_1175 rfl ?_
      refine g_iconst (v := 2) h.to dL_law_1176 (by decide) ?_
      refine g_iadd h.to dL_law_1177 ?_
      refine g_sld h dL_law_1178 (i + 2) (nI_add i 2) (by omega) hL31 ?_
      refine g_nz h.to dL_law_1179 dL_law_1182 dL_law_1183 dL_law_1186 ?_
      refine g_cVw (ws' := wWB E a T2 ++ wRf E b S2) h.to (qX11_mean (a0 := b) hy) mX11_mean lkL_132 dL_law_1187 rfl rfl ⟨Nat.le_of_ble_eq_true rfl, Nat.le_of_ble_eq_true rfl⟩ ⟨Nat.le_of_ble_eq_true rfl, Nat.le_of_ble_eq_true rfl⟩ (Nat.le_of_ble_eq_true rfl) (List.range' 55 16) (gl_his2 rfl rfl) rfl 55 rfl rfl mgL2 ?_
      refine g_lcmp h.to dL_law_1190 ?_
      refine g_lif_eq h.to dL_law_1191 rfl (fun _ => ?_) (fun q => absurd rfl q)
      exact next T2 S2 (Or.inl hR2)
    · obtain ⟨v, T2, S2, hx, hy, hR2⟩ := H_change T S c hR hc (xs (i + 1))
      refine g_aload_n h.to dL_law_1196 rfl ?_
      refine g_aload_n h.to dL_law_1197 rfl ?_
      refine g_iload_n h.to dL_law_1198 rfl ?_
      refine g_iconst (v := 1) h.to dL_law_1199 (by decide) ?_
      refine g_iadd h.to dL_law_1200 ?_
      refine g_sld h dL_law_1201 (i + 1) (nI_add i 1) (by omega) hL31 ?_
      refine g_cVw (ws' := wWB E a T2 ++ wRf E b S) h.to (qX10_change (a0 := a) hx) mX10_change lkL_133 dL_law_1202 rfl rfl ⟨Nat.le_of_ble_eq_true rfl, Nat.le_of_ble_eq_true rfl⟩ ⟨Nat.le_of_ble_eq_true rfl, Nat.le_of_ble_eq_true rfl⟩ (Nat.le_of_ble_eq_true rfl) (List.range' 0 55) (gl_his1 rfl) rfl 0 rfl rfl mgL1 ?_
      refine g_aload_n h.to dL_law_1205 rfl ?_
      refine g_aload_n h.to dL_law_1206 rfl ?_
      refine g_iload_n h.to dL_law_1207 rfl ?_
      refine g_iconst (v := 1) h.to dL_law_1208 (by decide) ?_
      refine g_iadd h.to dL_law_1209 ?_
      refine g_sld h dL_law_1210 (i + 1) (nI_add i 1) (by omega) hL31 ?_
      refine g_cVw (ws' := wWB E a T2 ++ wRf E b S2) h.to (qX11_change (a0 := b) hy) mX11_change lkL_136 dL_law_1211 rfl rfl ⟨Nat.le_of_ble_eq_true rfl, Nat.le_of_ble_eq_true rfl⟩ ⟨Nat.le_of_ble_eq_true rfl, Nat.le_of_ble_eq_true rfl⟩ (Nat.le_of_ble_eq_true rfl) (List.range' 55 16) (gl_his2 rfl rfl) rfl 55 rfl rfl mgL2 ?_
      refine g_lcmp h.to dL_law_1214 ?_
      refine g_lif_eq h.to dL_law_1215 rfl (fun _ => ?_) (fun q => absurd rfl q)
      exact next T2 S2 (Or.inl hR2)
    · obtain ⟨v, T2, S2, hx, hy, hR2⟩ := H_tell T S c hR hc (xs (i + 1))
      refine g_aload_n h.to dL_law_1220 rfl ?_
      refine g_aload_n h.to dL_law_1221 rfl ?_
      refine g_iload_n h.to dL_law_1222 rfl ?_
      refine g_iconst (v := 1) h.to dL_law_1223 (by decide) ?_
      refine g_iadd h.to dL_law_1224 ?_
      refine g_sld h dL_law_1225 (i + 1) (nI_add i 1) (by omega) hL31 ?_
      refine g_cVw (ws' := wWB E a T2 ++ wRf E b S) h.to (qX10_tell (a0 := a) hx) mX10_tell lkL_137 dL_law_1226 rfl rfl ⟨Nat.le_of_ble_eq_true rfl, Nat.le_of_ble_eq_true rfl⟩ ⟨Nat.le_of_ble_eq_true rfl, Nat.le_of_ble_eq_true rfl⟩ (Nat.le_of_ble_eq_true rfl) (List.range' 0 55) (gl_his1 rfl) rfl 0 rfl rfl mgL1 ?_
      refine g_aload_n h.to dL_law_1229 rfl ?_
      refine g_aload_n h.to dL_law_1230 rfl ?_
      refine g_iload_n h.to dL_law_1231 rfl ?_
      refine g_iconst (v := 1) h.to dL_law_1232 (by decide) ?_
      refine g_iadd h.to dL_law_1233 ?_
      refine g_sld h dL_law_1234 (i + 1) (nI_add i 1) (by omega) hL31 ?_
      refine g_cVw (ws' := wWB E a T2 ++ wRf E b S2) h.to (qX11_tell (a0 := b) hy) mX11_tell lkL_140 dL_law_1235 rfl rfl ⟨Nat.le_of_ble_eq_true rfl, Nat.le_of_ble_eq_true rfl⟩ ⟨Nat.le_of_ble_eq_true rfl, Nat.le_of_ble_eq_true rfl⟩ (Nat.le_of_ble_eq_true rfl) (List.range' 55 16) (gl_his2 rfl rfl) rfl 55 rfl rfl mgL2 ?_
      refine g_lcmp h.to dL_law_1238 ?_
      refine g_lif_eq h.to dL_law_1239 rfl (fun _ => ?_) (fun q => absurd rfl q)
      exact next T2 S2 (Or.inl hR2)
    · obtain ⟨v, T2, S2, hx, hy, hR2⟩ := H_check T S c hR hc 
      refine g_aload_n h.to dL_law_1244 rfl ?_
      refine g_cVw (ws' := wWB E a T2 ++ wRf E b S) h.to (qX10_check (a0 := a) hx) mX10_check lkL_141 dL_law_1245 rfl rfl ⟨Nat.le_of_ble_eq_true rfl, Nat.le_of_ble_eq_true rfl⟩ ⟨Nat.le_of_ble_eq_true rfl, Nat.le_of_ble_eq_true rfl⟩ (Nat.le_of_ble_eq_true rfl) (List.range' 0 55) (gl_his1 rfl) rfl 0 rfl rfl mgL1 ?_
      refine g_aload_n h.to dL_law_1248 rfl ?_
      refine g_cVw (ws' := wWB E a T2 ++ wRf E b S2) h.to (qX11_check (a0 := b) hy) mX11_check lkL_144 dL_law_1249 rfl rfl ⟨Nat.le_of_ble_eq_true rfl, Nat.le_of_ble_eq_true rfl⟩ ⟨Nat.le_of_ble_eq_true rfl, Nat.le_of_ble_eq_true rfl⟩ (Nat.le_of_ble_eq_true rfl) (List.range' 55 16) (gl_his2 rfl rfl) rfl 55 rfl rfl mgL2 ?_
      refine g_lcmp h.to dL_law_1252 ?_
      refine g_lif_eq h.to dL_law_1253 rfl (fun _ => ?_) (fun q => absurd rfl q)
      exact next T2 S2 (Or.inl hR2)
    · obtain ⟨v, T2, S2, hx, hy, hR2⟩ := H_keep T S c hR hc 
      refine g_aload_n h.to dL_law_1258 rfl ?_
      refine g_cVw (ws' := wWB E a T2 ++ wRf E b S) h.to (qX10_keep (a0 := a) hx) mX10_keep lkL_145 dL_law_1259 rfl rfl ⟨Nat.le_of_ble_eq_true rfl, Nat.le_of_ble_eq_true rfl⟩ ⟨Nat.le_of_ble_eq_true rfl, Nat.le_of_ble_eq_true rfl⟩ (Nat.le_of_ble_eq_true rfl) (List.range' 0 55) (gl_his1 rfl) rfl 0 rfl rfl mgL1 ?_
      refine g_aload_n h.to dL_law_1262 rfl ?_
      refine g_cVw (ws' := wWB E a T2 ++ wRf E b S2) h.to (qX11_keep (a0 := b) hy) mX11_keep lkL_148 dL_law_1263 rfl rfl ⟨Nat.le_of_ble_eq_true rfl, Nat.le_of_ble_eq_true rfl⟩ ⟨Nat.le_of_ble_eq_true rfl, Nat.le_of_ble_eq_true rfl⟩ (Nat.le_of_ble_eq_true rfl) (List.range' 55 16) (gl_his2 rfl rfl) rfl 55 rfl rfl mgL2 ?_
      refine g_lcmp h.to dL_law_1266 ?_
      refine g_lif_eq h.to dL_law_1267 rfl (fun _ => ?_) (fun q => absurd rfl q)
      exact next T2 S2 (Or.inl hR2)
    · obtain ⟨v, T2, S2, hx, hy, hR2⟩ := H_back T S c hR hc 
      refine g_aload_n h.to dL_law_1272 rfl ?_
      refine g_cVw (ws' := wWB E a T2 ++ wRf E b S) h.to (qX10_back (a0 := a) hx) mX10_back lkL_149 dL_law_1273 rfl rfl ⟨Nat.le_of_ble_eq_true rfl, Nat.le_of_ble_eq_true rfl⟩ ⟨Nat.le_of_ble_eq_true rfl, Nat.le_of_ble_eq_true rfl⟩ (Nat.le_of_ble_eq_true rfl) (List.range' 0 55) (gl_his1 rfl) rfl 0 rfl rfl mgL1 ?_
      refine g_aload_n h.to dL_law_1276 rfl ?_
      refine g_cVw (ws' := wWB E a T2 ++ wRf E b S2) h.to (qX11_back (a0 := b) hy) mX11_back lkL_152 dL_law_1277 rfl rfl ⟨Nat.le_of_ble_eq_true rfl, Nat.le_of_ble_eq_true rfl⟩ ⟨Nat.le_of_ble_eq_true rfl, Nat.le_of_ble_eq_true rfl⟩ (Nat.le_of_ble_eq_true rfl) (List.range' 55 16) (gl_his2 rfl rfl) rfl 55 rfl rfl mgL2 ?_
      refine g_lcmp h.to dL_law_1280 ?_
      refine g_lif_eq h.to dL_law_1281 rfl (fun _ => ?_) (fun q => absurd rfl q)
      exact next T2 S2 (Or.inl hR2)
    · obtain ⟨v, T2, S2, hx, hy, hR2⟩ := H_count T S c hR hc (xs (i + 1))
      refine g_aload_n h.to dL_law_1286 rfl ?_
      refine g_aload_n h.to dL_law_1287 rfl ?_
      refine g_iload_n h.to dL_law_1288 rfl ?_
      refine g_iconst (v := 1) h.to dL_law_1289 (by decide) ?_
      refine g_iadd h.to dL_law_1290 ?_
      refine g_sld h dL_law_1291 (i + 1) (nI_add i 1) (by omega) hL31 ?_
      refine g_cVw (ws' := wWB E a T2 ++ wRf E b S) h.to (qX10_count (a0 := a) hx) mX10_count lkL_153 dL_law_1292 rfl rfl ⟨Nat.le_of_ble_eq_true rfl, Nat.le_of_ble_eq_true rfl⟩ ⟨Nat.le_of_ble_eq_true rfl, Nat.le_of_ble_eq_true rfl⟩ (Nat.le_of_ble_eq_true rfl) (List.range' 0 55) (gl_his1 rfl) rfl 0 rfl rfl mgL1 ?_
      refine g_aload_n h.to dL_law_1295 rfl ?_
      refine g_aload_n h.to dL_law_1296 rfl ?_
      refine g_iload_n h.to dL_law_1297 rfl ?_
      refine g_iconst (v := 1) h.to dL_law_1298 (by decide) ?_
      refine g_iadd h.to dL_law_1299 ?_
      refine g_sld h dL_law_1300 (i + 1) (nI_add i 1) (by omega) hL31 ?_
      refine g_cVw (ws' := wWB E a T2 ++ wRf E b S2) h.to (qX11_count (a0 := b) hy) mX11_count lkL_156 dL_law_1301 rfl rfl ⟨Nat.le_of_ble_eq_true rfl, Nat.le_of_ble_eq_true rfl⟩ ⟨Nat.le_of_ble_eq_true rfl, Nat.le_of_ble_eq_true rfl⟩ (Nat.le_of_ble_eq_true rfl) (List.range' 55 16) (gl_his2 rfl rfl) rfl 55 rfl rfl mgL2 ?_
      refine g_lcmp h.to dL_law_1304 ?_
      refine g_lif_eq h.to dL_law_1305 rfl (fun _ => ?_) (fun q => absurd rfl q)
      exact next T2 S2 (Or.inl hR2)
    · obtain ⟨v, T2, S2, hx, hy, hR2⟩ := H_found T S c hR hc (xs (i + 1))
      refine g_aload_n h.to dL_law_1310 rfl ?_
      refine g_aload_n h.to dL_law_1311 rfl ?_
      refine g_iload_n h.to dL_law_1312 rfl ?_
      refine g_iconst (v := 1) h.to dL_law_1313 (by decide) ?_
      refine g_iadd h.to dL_law_1314 ?_
      refine g_sld h dL_law_1315 (i + 1) (nI_add i 1) (by omega) hL31 ?_
      refine g_cVw (ws' := wWB E a T2 ++ wRf E b S) h.to (qX10_found (a0 := a) hx) mX10_found lkL_157 dL_law_1316 rfl rfl ⟨Nat.le_of_ble_eq_true rfl, Nat.le_of_ble_eq_true rfl⟩ ⟨Nat.le_of_ble_eq_true rfl, Nat.le_of_ble_eq_true rfl⟩ (Nat.le_of_ble_eq_true rfl) (List.range' 0 55) (gl_his1 rfl) rfl 0 rfl rfl mgL1 ?_
      refine g_aload_n h.to dL_law_1319 rfl ?_
      refine g_aload_n h.to dL_law_1320 rfl ?_
      refine g_iload_n h.to dL_law_1321 rfl ?_
      refine g_iconst (v := 1) h.to dL_law_1322 (by decide) ?_
      refine g_iadd h.to dL_law_1323 ?_
      refine g_sld h dL_law_1324 (i + 1) (nI_add i 1) (by omega) hL31 ?_
      refine g_cVw (ws' := wWB E a T2 ++ wRf E b S2) h.to (qX11_found (a0 := b) hy) mX11_found lkL_160 dL_law_1325 rfl rfl ⟨Nat.le_of_ble_eq_true rfl, Nat.le_of_ble_eq_true rfl⟩ ⟨Nat.le_of_ble_eq_true rfl, Nat.le_of_ble_eq_true rfl⟩ (Nat.le_of_ble_eq_true rfl) (List.range' 55 16) (gl_his2 rfl rfl) rfl 55 rfl rfl mgL2 ?_
      refine g_lcmp h.to dL_law_1328 ?_
      refine g_lif_eq h.to dL_law_1329 rfl (fun _ => ?_) (fun q => absurd rfl q)
      exact next T2 S2 (Or.inl hR2)
    · exact next T S (Or.inr hR)
