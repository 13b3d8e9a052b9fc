/-! THE LAW: its script, its cases -/
abbrev gL_law : eg_G := (yL_law, cL_law, 4, some .boolean)
def scv (k : eg_K) (x : Int) : Int := (eg_sx k x.toNat).toInt
theorem scv_R {k : eg_K} {x : Int} : iR (scv k x) := by
  have h1 := Int32.le_toInt (eg_sx k x.toNat)
  have h2 := Int32.toInt_lt (eg_sx k x.toNat)
  exact ⟨by unfold scv; omega, by unfold scv; omega⟩
theorem scv_v {k : eg_K} {x : Int} : vI (scv k x) = .int (eg_sx k x.toNat) := by unfold vI scv; rw [Int32.ofInt_toInt]
theorem eg_scl {k : eg_K} {g : eg_G} {d bc bs n : Nat} {M : eg_M} {ls st : List Value} {pc : Nat} {Q : eg_Q} (hd : decode g.2.1 pc = .ok (.arraylength, 1)) (h : eg_E k g d bc bs n M ls (vI (eg_sl k : Int) :: st) (pc + 1) Q) : eg_E k g d bc bs n M ls (.ref (eg_sb k) :: st) pc Q := by
  intro p e R s m args below meth c H locs cells slots sl Z C hW hz hl hL hc hs hR
  have hst := C.2.2.2.2.2.2.1.2.2.2.1
  obtain ⟨scr, h1, h2, h3, h4, h5⟩ := hst.2.2.2.2.2.2.1
  have hb := hst.2.2.2.2.2.2.2
  exact W.alen (n := Int32.ofNat (eg_sl k)) C.1 C.2.1 (by rw [hW.2.1 _ hb]; exact h1) h2 (by rw [h4] <;> rfl) rfl rfl hd (h p e R s m args below meth c H locs cells slots sl Z C hW hz hl hL hc hs hR)
theorem eg_sc {k : eg_K} {g : eg_G} {d bc bs n : Nat} {M : eg_M} {ls st : List Value} {pc : Nat} {Q : eg_Q} {x : Int} (hd : decode g.2.1 pc = .ok (.iaload, 1)) (h0 : 0 ≤ x) (h1 : x < eg_sl k) (h2 : eg_sl k ≤ 65536) (h : eg_E k g d bc bs n M ls (vI (scv k x) :: st) (pc + 1) Q) : eg_E k g d bc bs n M ls (vI x :: .ref (eg_sb k) :: st) pc Q := by
  intro p e R s m args below meth c H locs cells slots sl Z C hW hz hl hL hc hs hR
  have hst := C.2.2.2.2.2.2.1.2.2.2.1
  obtain ⟨scr, g1, g2, g3, g4, g5⟩ := hst.2.2.2.2.2.2.1
  have hb := hst.2.2.2.2.2.2.2
  have e1 : (Int32.ofInt x).toNatClampNeg = x.toNat := i_nat h0 h1 h2
  have hin := i_in h0 h1 h2
  have h3 := h p e R s m args below meth c H locs cells slots sl Z C hW hz hl hL hc hs hR
  rw [scv_v] at h3
  exact W.iald (v := .int (eg_sx k x.toNat)) C.1 C.2.1 (by rw [hW.2.1 _ hb]; exact g1) g2 g3 (by rw [g4]; exact hin) (by rw [e1]; exact g5 _ (by omega)) rfl rfl hd h3
theorem eg_icmp_same {k : eg_K} {g : eg_G} {d bc bs n : Nat} {M : eg_M} {ls st : List Value} {pc : Nat} {Q : eg_Q} {x : Int} {off : Int} (tgt : Nat) (hd : decode g.2.1 pc = .ok (.if_icmp .eq off, 3)) (ht : (pc : Int) + off = (tgt : Int)) (h : eg_E k g d bc bs n M ls st tgt Q) : eg_E k g d bc bs n M ls (vI x :: vI x :: st) pc Q := by
  intro p e R s m args below meth c H locs cells slots sl Z C hW hz hl hL hc hs hR
  exact lv_icmp_eq C.1 C.2.1 hd ht (fun _ => h p e R s m args below meth c H locs cells slots sl Z C hW hz hl hL hc hs hR) (fun q => absurd rfl q)
theorem lgc_same (x : Int64) : lg_cmp x x = 0 := by
  unfold lg_cmp
  rw [if_neg (fun h : x < x => Int64.lt_irrefl h), if_pos rfl]
theorem eg_lc_same {k : eg_K} {g : eg_G} {d bc bs n : Nat} {M : eg_M} {ls st : List Value} {pc : Nat} {Q : eg_Q} {x : Int} {off : Int} (tgt : Nat) (hd0 : decode g.2.1 pc = .ok (.lcmp, 1)) (hd : decode g.2.1 (pc + 1) = .ok (.ifCond .eq off, 3)) (ht : (pc : Int) + 1 + off = (tgt : Int)) (h : eg_E k g d bc bs n M ls st tgt Q) : eg_E k g d bc bs n M ls (vL x :: vL x :: st) pc Q := by
  intro p e R s m args below meth c H locs cells slots sl Z C hW hz hl hL hc hs hR
  refine W.lcmp C.1 C.2.1 hd0 ?_
  rw [lgc_same]
  exact lv_if_eq C.1 C.2.1 hd (by omega) (fun _ => h p e R s m args below meth c H locs cells slots sl Z C hW hz hl hL hc hs hR) (fun q => absurd rfl q)
theorem IC_o {z z' : eg_Z} {s : eg_S} (h : ∀ c : Nat, c < 196 → z' c = z c) (hI : IC z s) : IC z' s := by
  obtain ⟨a, b, ⟨c1, c2⟩, d1, d2, d3⟩ := hI
  refine ⟨hV_c (fun j hj => h _ (by omega)) a, hH_c b (fun c h1 h2 => h c (by omega)), ⟨by rw [h 0 (by omega)]; exact c1, fun j hj hk => hV_c (fun i hi => h _ (by omega)) (c2 j hj hk)⟩, d1, by rw [h 182 (by omega)]; exact d2, fun i hi => by rw [h 183 (by omega)]; exact d3 i hi⟩
theorem IM_o {z z' : eg_Z} {s : eg_S} (h : ∀ c : Nat, 202 ≤ c → z' c = z c) (hI : IM z s) : IM z' s := by
  unfold IM nw at hI ⊢
  rw [h 202 (by omega), h 203 (by omega), h 206 (by omega), h 207 (by omega), h 208 (by omega), h 209 (by omega)]
  exact hI
theorem SB_o {k : eg_K} {z z' : eg_Z} {X : eg_M} {n : Nat} {T : List Int} {g : Nat} (h : z' 197 = z 197) (hS : SB k z X n T g) : SB k z' X n T g := by
  unfold SB at hS ⊢
  rw [h]
  exact hS
/-- what the loop keeps, at the end of a round -/
def lwL (k : eg_K) (i : Int) : List Value := [.ref (eg_sb k), vR k 0, vR k 202, vI i]
def lwN (k : eg_K) (i : Int) (Q : eg_Q) : Prop := ∀ (n : Nat) (z : eg_Z) (X : eg_M) (s : eg_S) (T : List Int) (g bc bs : Nat), IC z s → IM z s → SB k z X n T g → 6 - g ≤ bc → slG 6 - slG g ≤ bs → eg_E k gL_law 10 bc bs n (enc k z X) [.ref (eg_sb k), vR k 0, vR k 202, vI i] [] 1687 Q
theorem lw_end {k : eg_K} {i : Int} {Q : eg_Q} {n : Nat} {z z1 z2 : eg_Z} {X : eg_M} {s' : eg_S} {T : List Int} {g bc bs : Nat} (H : lwN k i Q) (hS : SB k z X n T g) (f1 : FC z z1) (hC : IC z1 s') (f2 : FM z1 z2) (hM : IM z2 s') (b1 : 6 - g ≤ bc) (b2 : slG 6 - slG g ≤ bs) : eg_E k gL_law 10 bc bs n (enc k z2 X) [.ref (eg_sb k), vR k 0, vR k 202, vI i] [] 1687 Q :=
  H n z2 X s' T g bc bs (IC_o (fun c hc => f2 c (by omega)) hC) hM (SB_o ((f2 197 (by omega)).trans (f1 197 (by omega))) hS) b1 b2
theorem iR1 : iR 1 := ⟨by decide, by decide⟩
theorem lwc_0 {k : eg_K} {i : Int} {Q : eg_Q} {n : Nat} {z : eg_Z} {X : eg_M} {s : eg_S} {T : List Int} {g bc bs : Nat} (H : lwN k i Q) (h0 : 0 ≤ i) (h1 : i + 6 ≤ eg_sl k) (hl : eg_sl k ≤ 3072) (hC : IC z s) (hM : IM z s) (hS : SB k z X n T g) (b1 : 6 - g ≤ bc) (b2 : slG 6 - slG g ≤ bs) : eg_E k gL_law 10 bc bs n (enc k z X) [.ref (eg_sb k), vR k 0, vR k 202, vI i] [] 236 Q := by
  refine eg_al_n dL_law_236 rfl rfl ?_
  refine eg_al_n dL_law_237 rfl rfl ?_
  refine eg_iload_n dL_law_238 rfl ?_
  refine eg_iconst dL_law_239 ?_
  refine eg_iadd dL_law_240 ?_
  refine eg_sc dL_law_241 (by omega) (by omega) (by omega) ?_
  refine eg_al_n dL_law_242 rfl rfl ?_
  refine eg_iload_n dL_law_243 rfl ?_
  refine eg_iconst dL_law_244 ?_
  refine eg_iadd dL_law_245 ?_
  refine eg_sc dL_law_246 (by omega) (by omega) (by omega) ?_
  refine eg_al_n dL_law_247 rfl rfl ?_
  refine eg_iload_n dL_law_248 rfl ?_
  refine eg_iconst dL_law_249 ?_
  refine eg_iadd dL_law_250 ?_
  refine eg_sc dL_law_251 (by omega) (by omega) (by omega) ?_
  refine eg_al_n dL_law_252 rfl rfl ?_
  refine eg_iload_n dL_law_253 rfl ?_
  refine eg_iconst dL_law_254 ?_
  refine eg_iadd dL_law_255 ?_
  refine eg_sc dL_law_256 (by omega) (by omega) (by omega) ?_
  refine eg_al_n dL_law_257 rfl rfl ?_
  refine eg_iload_n dL_law_258 rfl ?_
  refine eg_iconst dL_law_259 ?_
  refine eg_iadd dL_law_260 ?_
  refine eg_sc dL_law_261 (by omega) (by omega) (by omega) ?_
  refine eg_Vpf5 cs_L_13 dL_law_262 (p_feed hC scv_R scv_R scv_R scv_R scv_R) er0 rfl (Nat.le_of_ble_eq_true rfl) (by decide) ?_
  rintro z1 ⟨f1, hC1⟩
  have hM1 := IM_o (fun c hc => f1 c (by omega)) hM
  refine eg_al_n dL_law_265 rfl rfl ?_
  refine eg_al_n dL_law_266 rfl rfl ?_
  refine eg_iload_n dL_law_267 rfl ?_
  refine eg_iconst dL_law_268 ?_
  refine eg_iadd dL_law_269 ?_
  refine eg_sc dL_law_270 (by omega) (by omega) (by omega) ?_
  refine eg_al_n dL_law_271 rfl rfl ?_
  refine eg_iload_n dL_law_272 rfl ?_
  refine eg_iconst dL_law_273 ?_
  refine eg_iadd dL_law_274 ?_
  refine eg_sc dL_law_275 (by omega) (by omega) (by omega) ?_
  refine eg_al_n dL_law_276 rfl rfl ?_
  refine eg_iload_n dL_law_277 rfl ?_
  refine eg_iconst dL_law_278 ?_
  refine eg_iadd dL_law_279 ?_
  refine eg_sc dL_law_280 (by omega) (by omega) (by omega) ?_
  refine eg_al_n dL_law_281 rfl rfl ?_
  refine eg_iload_n dL_law_282 rfl ?_
  refine eg_iconst dL_law_283 ?_
  refine eg_iadd dL_law_284 ?_
  refine eg_sc dL_law_285 (by omega) (by omega) (by omega) ?_
  refine eg_al_n dL_law_286 rfl rfl ?_
  refine eg_iload_n dL_law_287 rfl ?_
  refine eg_iconst dL_law_288 ?_
  refine eg_iadd dL_law_289 ?_
  refine eg_sc dL_law_290 (by omega) (by omega) (by omega) ?_
  refine eg_Vpf5 cs_L_17 dL_law_291 (m_feed hM1 hC.os scv_R scv_R scv_R scv_R scv_R) er202 rfl (Nat.le_of_ble_eq_true rfl) (by decide) ?_
  rintro z2 ⟨f2, hM2⟩
  refine eg_icmp_same 1687 dL_law_294 rfl ?_
  exact lw_end H hS f1 hC1 f2 hM2 b1 b2
theorem lwc_1 {k : eg_K} {i : Int} {Q : eg_Q} {n : Nat} {z : eg_Z} {X : eg_M} {s : eg_S} {T : List Int} {g bc bs : Nat} (H : lwN k i Q) (h0 : 0 ≤ i) (h1 : i + 6 ≤ eg_sl k) (hl : eg_sl k ≤ 3072) (hC : IC z s) (hM : IM z s) (hS : SB k z X n T g) (b1 : 6 - g ≤ bc) (b2 : slG 6 - slG g ≤ bs) : eg_E k gL_law 10 bc bs n (enc k z X) [.ref (eg_sb k), vR k 0, vR k 202, vI i] [] 299 Q := by
  refine eg_al_n dL_law_299 rfl rfl ?_
  refine eg_al_n dL_law_300 rfl rfl ?_
  refine eg_iload_n dL_law_301 rfl ?_
  refine eg_iconst dL_law_302 ?_
  refine eg_iadd dL_law_303 ?_
  refine eg_sc dL_law_304 (by omega) (by omega) (by omega) ?_
  refine eg_Vpf1 cs_L_18 dL_law_305 (p_end hC scv_R) er0 rfl (Nat.le_of_ble_eq_true rfl) (by decide) ?_
  rintro z1 ⟨f1, hC1⟩
  have hM1 := IM_o (fun c hc => f1 c (by omega)) hM
  refine eg_al_n dL_law_308 rfl rfl ?_
  refine eg_al_n dL_law_309 rfl rfl ?_
  refine eg_iload_n dL_law_310 rfl ?_
  refine eg_iconst dL_law_311 ?_
  refine eg_iadd dL_law_312 ?_
  refine eg_sc dL_law_313 (by omega) (by omega) (by omega) ?_
  refine eg_Vpf1 cs_L_22 dL_law_314 (m_end hM1 hC.os scv_R) er202 rfl (Nat.le_of_ble_eq_true rfl) (by decide) ?_
  rintro z2 ⟨f2, hM2⟩
  refine eg_icmp_same 1687 dL_law_317 rfl ?_
  exact lw_end H hS f1 hC1 f2 hM2 b1 b2
theorem lwc_2 {k : eg_K} {i : Int} {Q : eg_Q} {n : Nat} {z : eg_Z} {X : eg_M} {s : eg_S} {T : List Int} {g bc bs : Nat} (H : lwN k i Q) (h0 : 0 ≤ i) (h1 : i + 6 ≤ eg_sl k) (hl : eg_sl k ≤ 3072) (hC : IC z s) (hM : IM z s) (hS : SB k z X n T g) (b1 : 6 - g ≤ bc) (b2 : slG 6 - slG g ≤ bs) : eg_E k gL_law 10 bc bs n (enc k z X) [.ref (eg_sb k), vR k 0, vR k 202, vI i] [] 322 Q := by
  refine eg_al_n dL_law_322 rfl rfl ?_
  refine eg_Vpf0 cs_L_23 dL_law_323 (p_tell hC ) er0 rfl (Nat.le_of_ble_eq_true rfl) (by decide) ?_
  rintro z1 ⟨f1, hC1⟩
  have hM1 := IM_o (fun c hc => f1 c (by omega)) hM
  refine eg_al_n dL_law_326 rfl rfl ?_
  refine eg_Vpf0 cs_L_27 dL_law_327 (m_tell hM1 hC.os ) er202 rfl (Nat.le_of_ble_eq_true rfl) (by decide) ?_
  rintro z2 ⟨f2, hM2⟩
  refine eg_icmp_same 1687 dL_law_330 rfl ?_
  exact lw_end H hS f1 hC1 f2 hM2 b1 b2
theorem lwc_3 {k : eg_K} {i : Int} {Q : eg_Q} {n : Nat} {z : eg_Z} {X : eg_M} {s : eg_S} {T : List Int} {g bc bs : Nat} (H : lwN k i Q) (h0 : 0 ≤ i) (h1 : i + 6 ≤ eg_sl k) (hl : eg_sl k ≤ 3072) (hC : IC z s) (hM : IM z s) (hS : SB k z X n T g) (b1 : 6 - g ≤ bc) (b2 : slG 6 - slG g ≤ bs) : eg_E k gL_law 10 bc bs n (enc k z X) [.ref (eg_sb k), vR k 0, vR k 202, vI i] [] 335 Q := by
  refine eg_al_n dL_law_335 rfl rfl ?_
  refine eg_al_n dL_law_336 rfl rfl ?_
  refine eg_iload_n dL_law_337 rfl ?_
  refine eg_iconst dL_law_338 ?_
  refine eg_iadd dL_law_339 ?_
  refine eg_sc dL_law_340 (by omega) (by omega) (by omega) ?_
  refine eg_al_n dL_law_341 rfl rfl ?_
  refine eg_iload_n dL_law_342 rfl ?_
  refine eg_iconst dL_law_343 ?_
  refine eg_iadd dL_law_344 ?_
  refine eg_sc dL_law_345 (by omega) (by omega) (by omega) ?_
  refine eg_al_n dL_law_346 rfl rfl ?_
  refine eg_iload_n dL_law_347 rfl ?_
  refine eg_iconst dL_law_348 ?_
  refine eg_iadd dL_law_349 ?_
  refine eg_sc dL_law_350 (by omega) (by omega) (by omega) ?_
  refine eg_al_n dL_law_351 rfl rfl ?_
  refine eg_iload_n dL_law_352 rfl ?_
  refine eg_iconst dL_law_353 ?_
  refine eg_iadd dL_law_354 ?_
  refine eg_sc dL_law_355 (by omega) (by omega) (by omega) ?_
  refine eg_Vpf4 cs_L_28 dL_law_356 (p_nominate hC scv_R scv_R scv_R scv_R) er0 rfl (Nat.le_of_ble_eq_true rfl) (by decide) ?_
  rintro z1 ⟨f1, hC1⟩
  have hM1 := IM_o (fun c hc => f1 c (by omega)) hM
  refine eg_al_n dL_law_359 rfl rfl ?_
  refine eg_al_n dL_law_360 rfl rfl ?_
  refine eg_iload_n dL_law_361 rfl ?_
  refine eg_iconst dL_law_362 ?_
  refine eg_iadd dL_law_363 ?_
  refine eg_sc dL_law_364 (by omega) (by omega) (by omega) ?_
  refine eg_al_n dL_law_365 rfl rfl ?_
  refine eg_iload_n dL_law_366 rfl ?_
  refine eg_iconst dL_law_367 ?_
  refine eg_iadd dL_law_368 ?_
  refine eg_sc dL_law_369 (by omega) (by omega) (by omega) ?_
  refine eg_al_n dL_law_370 rfl rfl ?_
  refine eg_iload_n dL_law_371 rfl ?_
  refine eg_iconst dL_law_372 ?_
  refine eg_iadd dL_law_373 ?_
  refine eg_sc dL_law_374 (by omega) (by omega) (by omega) ?_
  refine eg_al_n dL_law_375 rfl rfl ?_
  refine eg_iload_n dL_law_376 rfl ?_
  refine eg_iconst dL_law_377 ?_
  refine eg_iadd dL_law_378 ?_
  refine eg_sc dL_law_379 (by omega) (by omega) (by omega) ?_
  refine eg_Vpf4 cs_L_32 dL_law_380 (m_nominate hM1 hC.os scv_R scv_R scv_R scv_R) er202 rfl (Nat.le_of_ble_eq_true rfl) (by decide) ?_
  rintro z2 ⟨f2, hM2⟩
  refine eg_icmp_same 1687 dL_law_383 rfl ?_
  exact lw_end H hS f1 hC1 f2 hM2 b1 b2
theorem lwc_4 {k : eg_K} {i : Int} {Q : eg_Q} {n : Nat} {z : eg_Z} {X : eg_M} {s : eg_S} {T : List Int} {g bc bs : Nat} (H : lwN k i Q) (h0 : 0 ≤ i) (h1 : i + 6 ≤ eg_sl k) (hl : eg_sl k ≤ 3072) (hC : IC z s) (hM : IM z s) (hS : SB k z X n T g) (b1 : 6 - g ≤ bc) (b2 : slG 6 - slG g ≤ bs) : eg_E k gL_law 10 bc bs n (enc k z X) [.ref (eg_sb k), vR k 0, vR k 202, vI i] [] 388 Q := by
  refine eg_al_n dL_law_388 rfl rfl ?_
  refine eg_al_n dL_law_389 rfl rfl ?_
  refine eg_iload_n dL_law_390 rfl ?_
  refine eg_iconst dL_law_391 ?_
  refine eg_iadd dL_law_392 ?_
  refine eg_sc dL_law_393 (by omega) (by omega) (by omega) ?_
  refine eg_al_n dL_law_394 rfl rfl ?_
  refine eg_iload_n dL_law_395 rfl ?_
  refine eg_iconst dL_law_396 ?_
  refine eg_iadd dL_law_397 ?_
  refine eg_sc dL_law_398 (by omega) (by omega) (by omega) ?_
  refine eg_Vpf2 cs_L_33 dL_law_399 (p_renominate hC scv_R scv_R) er0 rfl (Nat.le_of_ble_eq_true rfl) (by decide) ?_
  rintro z1 ⟨f1, hC1⟩
  have hM1 := IM_o (fun c hc => f1 c (by omega)) hM
  refine eg_al_n dL_law_402 rfl rfl ?_
  refine eg_al_n dL_law_403 rfl rfl ?_
  refine eg_iload_n dL_law_404 rfl ?_
  refine eg_iconst dL_law_405 ?_
  refine eg_iadd dL_law_406 ?_
  refine eg_sc dL_law_407 (by omega) (by omega) (by omega) ?_
  refine eg_al_n dL_law_408 rfl rfl ?_
  refine eg_iload_n dL_law_409 rfl ?_
  refine eg_iconst dL_law_410 ?_
  refine eg_iadd dL_law_411 ?_
  refine eg_sc dL_law_412 (by omega) (by omega) (by omega) ?_
  refine eg_Vpf2 cs_L_37 dL_law_413 (m_renominate hM1 hC.os scv_R scv_R) er202 rfl (Nat.le_of_ble_eq_true rfl) (by decide) ?_
  rintro z2 ⟨f2, hM2⟩
  refine eg_icmp_same 1687 dL_law_416 rfl ?_
  exact lw_end H hS f1 hC1 f2 hM2 b1 b2
theorem lwc_5 {k : eg_K} {i : Int} {Q : eg_Q} {n : Nat} {z : eg_Z} {X : eg_M} {s : eg_S} {T : List Int} {g bc bs : Nat} (H : lwN k i Q) (h0 : 0 ≤ i) (h1 : i + 6 ≤ eg_sl k) (hl : eg_sl k ≤ 3072) (hC : IC z s) (hM : IM z s) (hS : SB k z X n T g) (b1 : 6 - g ≤ bc) (b2 : slG 6 - slG g ≤ bs) : eg_E k gL_law 10 bc bs n (enc k z X) [.ref (eg_sb k), vR k 0, vR k 202, vI i] [] 421 Q := by
  refine eg_al_n dL_law_421 rfl rfl ?_
  refine eg_al_n dL_law_422 rfl rfl ?_
  refine eg_iload_n dL_law_423 rfl ?_
  refine eg_iconst dL_law_424 ?_
  refine eg_iadd dL_law_425 ?_
  refine eg_sc dL_law_426 (by omega) (by omega) (by omega) ?_
  refine eg_Vpf1 cs_L_38 dL_law_427 (p_withdraw hC scv_R) er0 rfl (Nat.le_of_ble_eq_true rfl) (by decide) ?_
  rintro z1 ⟨f1, hC1⟩
  have hM1 := IM_o (fun c hc => f1 c (by omega)) hM
  refine eg_al_n dL_law_430 rfl rfl ?_
  refine eg_al_n dL_law_431 rfl rfl ?_
  refine eg_iload_n dL_law_432 rfl ?_
  refine eg_iconst dL_law_433 ?_
  refine eg_iadd dL_law_434 ?_
  refine eg_sc dL_law_435 (by omega) (by omega) (by omega) ?_
  refine eg_Vpf1 cs_L_41 dL_law_436 (m_withdraw hM1 hC.os scv_R) er202 rfl (Nat.le_of_ble_eq_true rfl) (by decide) ?_
  rintro z2 ⟨f2, hM2⟩
  refine eg_icmp_same 1687 dL_law_439 rfl ?_
  exact lw_end H hS f1 hC1 f2 hM2 b1 b2
theorem lwc_6 {k : eg_K} {i : Int} {Q : eg_Q} {n : Nat} {z : eg_Z} {X : eg_M} {s : eg_S} {T : List Int} {g bc bs : Nat} (H : lwN k i Q) (h0 : 0 ≤ i) (h1 : i + 6 ≤ eg_sl k) (hl : eg_sl k ≤ 3072) (hC : IC z s) (hM : IM z s) (hS : SB k z X n T g) (b1 : 6 - g ≤ bc) (b2 : slG 6 - slG g ≤ bs) : eg_E k gL_law 10 bc bs n (enc k z X) [.ref (eg_sb k), vR k 0, vR k 202, vI i] [] 444 Q := by
  refine eg_al_n dL_law_444 rfl rfl ?_
  refine eg_al_n dL_law_445 rfl rfl ?_
  refine eg_iload_n dL_law_446 rfl ?_
  refine eg_iconst dL_law_447 ?_
  refine eg_iadd dL_law_448 ?_
  refine eg_sc dL_law_449 (by omega) (by omega) (by omega) ?_
  refine eg_al_n dL_law_450 rfl rfl ?_
  refine eg_iload_n dL_law_451 rfl ?_
  refine eg_iconst dL_law_452 ?_
  refine eg_iadd dL_law_453 ?_
  refine eg_sc dL_law_454 (by omega) (by omega) (by omega) ?_
  refine eg_al_n dL_law_455 rfl rfl ?_
  refine eg_iload_n dL_law_456 rfl ?_
  refine eg_iconst dL_law_457 ?_
  refine eg_iadd dL_law_458 ?_
  refine eg_sc dL_law_459 (by omega) (by omega) (by omega) ?_
  refine eg_Vpf3 cs_L_42 dL_law_460 (p_limit hC scv_R scv_R scv_R) er0 rfl (Nat.le_of_ble_eq_true rfl) (by decide) ?_
  rintro z1 ⟨f1, hC1⟩
  have hM1 := IM_o (fun c hc => f1 c (by omega)) hM
  refine eg_al_n dL_law_463 rfl rfl ?_
  refine eg_al_n dL_law_464 rfl rfl ?_
  refine eg_iload_n dL_law_465 rfl ?_
  refine eg_iconst dL_law_466 ?_
  refine eg_iadd dL_law_467 ?_
  refine eg_sc dL_law_468 (by omega) (by omega) (by omega) ?_
  refine eg_al_n dL_law_469 rfl rfl ?_
  refine eg_iload_n dL_law_470 rfl ?_
  refine eg_iconst dL_law_471 ?_
  refine eg_iadd dL_law_472 ?_
  refine eg_sc dL_law_473 (by omega) (by omega) (by omega) ?_
  refine eg_al_n dL_law_474 rfl rfl ?_
  refine eg_iload_n dL_law_475 rfl ?_
  refine eg_iconst dL_law_476 ?_
  refine eg_iadd dL_law_477 ?_
  refine eg_sc dL_law_478 (by omega) (by omega) (by omega) ?_
  refine eg_Vpf3 cs_L_46 dL_law_479 (m_limit hM1 hC.os scv_R scv_R scv_R) er202 rfl (Nat.le_of_ble_eq_true rfl) (by decide) ?_
  rintro z2 ⟨f2, hM2⟩
  refine eg_icmp_same 1687 dL_law_482 rfl ?_
  exact lw_end H hS f1 hC1 f2 hM2 b1 b2
theorem lwc_7 {k : eg_K} {i : Int} {Q : eg_Q} {n : Nat} {z : eg_Z} {X : eg_M} {s : eg_S} {T : List Int} {g bc bs : Nat} (H : lwN k i Q) (h0 : 0 ≤ i) (h1 : i + 6 ≤ eg_sl k) (hl : eg_sl k ≤ 3072) (hC : IC z s) (hM : IM z s) (hS : SB k z X n T g) (b1 : 6 - g ≤ bc) (b2 : slG 6 - slG g ≤ bs) : eg_E k gL_law 10 bc bs n (enc k z X) [.ref (eg_sb k), vR k 0, vR k 202, vI i] [] 487 Q := by
  refine eg_al_n dL_law_487 rfl rfl ?_
  refine eg_al_n dL_law_488 rfl rfl ?_
  refine eg_iload_n dL_law_489 rfl ?_
  refine eg_iconst dL_law_490 ?_
  refine eg_iadd dL_law_491 ?_
  refine eg_sc dL_law_492 (by omega) (by omega) (by omega) ?_
  refine eg_al_n dL_law_493 rfl rfl ?_
  refine eg_iload_n dL_law_494 rfl ?_
  refine eg_iconst dL_law_495 ?_
  refine eg_iadd dL_law_496 ?_
  refine eg_sc dL_law_497 (by omega) (by omega) (by omega) ?_
  refine eg_Vpf2 cs_L_47 dL_law_498 (p_swing hC scv_R scv_R) er0 rfl (Nat.le_of_ble_eq_true rfl) (by decide) ?_
  rintro z1 ⟨f1, hC1⟩
  have hM1 := IM_o (fun c hc => f1 c (by omega)) hM
  refine eg_al_n dL_law_501 rfl rfl ?_
  refine eg_al_n dL_law_502 rfl rfl ?_
  refine eg_iload_n dL_law_503 rfl ?_
  refine eg_iconst dL_law_504 ?_
  refine eg_iadd dL_law_505 ?_
  refine eg_sc dL_law_506 (by omega) (by omega) (by omega) ?_
  refine eg_al_n dL_law_507 rfl rfl ?_
  refine eg_iload_n dL_law_508 rfl ?_
  refine eg_iconst dL_law_509 ?_
  refine eg_iadd dL_law_510 ?_
  refine eg_sc dL_law_511 (by omega) (by omega) (by omega) ?_
  refine eg_Vpf2 cs_L_50 dL_law_512 (m_swing hM1 hC.os scv_R scv_R) er202 rfl (Nat.le_of_ble_eq_true rfl) (by decide) ?_
  rintro z2 ⟨f2, hM2⟩
  refine eg_icmp_same 1687 dL_law_515 rfl ?_
  exact lw_end H hS f1 hC1 f2 hM2 b1 b2
theorem lwc_8 {k : eg_K} {i : Int} {Q : eg_Q} {n : Nat} {z : eg_Z} {X : eg_M} {s : eg_S} {T : List Int} {g bc bs : Nat} (H : lwN k i Q) (h0 : 0 ≤ i) (h1 : i + 6 ≤ eg_sl k) (hl : eg_sl k ≤ 3072) (hC : IC z s) (hM : IM z s) (hS : SB k z X n T g) (b1 : 6 - g ≤ bc) (b2 : slG 6 - slG g ≤ bs) : eg_E k gL_law 10 bc bs n (enc k z X) [.ref (eg_sb k), vR k 0, vR k 202, vI i] [] 520 Q := by
  refine eg_al_n dL_law_520 rfl rfl ?_
  refine eg_al_n dL_law_521 rfl rfl ?_
  refine eg_iload_n dL_law_522 rfl ?_
  refine eg_iconst dL_law_523 ?_
  refine eg_iadd dL_law_524 ?_
  refine eg_sc dL_law_525 (by omega) (by omega) (by omega) ?_
  refine eg_al_n dL_law_526 rfl rfl ?_
  refine eg_iload_n dL_law_527 rfl ?_
  refine eg_iconst dL_law_528 ?_
  refine eg_iadd dL_law_529 ?_
  refine eg_sc dL_law_530 (by omega) (by omega) (by omega) ?_
  refine eg_al_n dL_law_531 rfl rfl ?_
  refine eg_iload_n dL_law_532 rfl ?_
  refine eg_iconst dL_law_533 ?_
  refine eg_iadd dL_law_534 ?_
  refine eg_sc dL_law_535 (by omega) (by omega) (by omega) ?_
  refine eg_Vpf3 cs_L_51 dL_law_536 (p_contract hC scv_R scv_R scv_R) er0 rfl (Nat.le_of_ble_eq_true rfl) (by decide) ?_
  rintro z1 ⟨f1, hC1⟩
  have hM1 := IM_o (fun c hc => f1 c (by omega)) hM
  refine eg_al_n dL_law_539 rfl rfl ?_
  refine eg_al_n dL_law_540 rfl rfl ?_
  refine eg_iload_n dL_law_541 rfl ?_
  refine eg_iconst dL_law_542 ?_
  refine eg_iadd dL_law_543 ?_
  refine eg_sc dL_law_544 (by omega) (by omega) (by omega) ?_
  refine eg_al_n dL_law_545 rfl rfl ?_
  refine eg_iload_n dL_law_546 rfl ?_
  refine eg_iconst dL_law_547 ?_
  refine eg_iadd dL_law_548 ?_
  refine eg_sc dL_law_549 (by omega) (by omega) (by omega) ?_
  refine eg_al_n dL_law_550 rfl rfl ?_
  refine eg_iload_n dL_law_551 rfl ?_
  refine eg_iconst dL_law_552 ?_
  refine eg_iadd dL_law_553 ?_
  refine eg_sc dL_law_554 (by omega) (by omega) (by omega) ?_
  refine eg_Vpf3 cs_L_54 dL_law_555 (m_contract hM1 hC.os scv_R scv_R scv_R) er202 rfl (Nat.le_of_ble_eq_true rfl) (by decide) ?_
  rintro z2 ⟨f2, hM2⟩
  refine eg_icmp_same 1687 dL_law_558 rfl ?_
  exact lw_end H hS f1 hC1 f2 hM2 b1 b2
theorem lwc_9 {k : eg_K} {i : Int} {Q : eg_Q} {n : Nat} {z : eg_Z} {X : eg_M} {s : eg_S} {T : List Int} {g bc bs : Nat} (H : lwN k i Q) (h0 : 0 ≤ i) (h1 : i + 6 ≤ eg_sl k) (hl : eg_sl k ≤ 3072) (hC : IC z s) (hM : IM z s) (hS : SB k z X n T g) (b1 : 6 - g ≤ bc) (b2 : slG 6 - slG g ≤ bs) : eg_E k gL_law 10 bc bs n (enc k z X) [.ref (eg_sb k), vR k 0, vR k 202, vI i] [] 563 Q := by
  refine eg_al_n dL_law_563 rfl rfl ?_
  refine eg_al_n dL_law_564 rfl rfl ?_
  refine eg_iload_n dL_law_565 rfl ?_
  refine eg_iconst dL_law_566 ?_
  refine eg_iadd dL_law_567 ?_
  refine eg_sc dL_law_568 (by omega) (by omega) (by omega) ?_
  refine eg_al_n dL_law_569 rfl rfl ?_
  refine eg_iload_n dL_law_570 rfl ?_
  refine eg_iconst dL_law_571 ?_
  refine eg_iadd dL_law_572 ?_
  refine eg_sc dL_law_573 (by omega) (by omega) (by omega) ?_
  refine eg_al_n dL_law_574 rfl rfl ?_
  refine eg_iload_n dL_law_575 rfl ?_
  refine eg_iconst dL_law_576 ?_
  refine eg_iadd dL_law_577 ?_
  refine eg_sc dL_law_578 (by omega) (by omega) (by omega) ?_
  refine eg_Vpf3 cs_L_55 dL_law_579 (p_trade hC scv_R scv_R scv_R) er0 rfl (Nat.le_of_ble_eq_true rfl) (by decide) ?_
  rintro z1 ⟨f1, hC1⟩
  have hM1 := IM_o (fun c hc => f1 c (by omega)) hM
  refine eg_al_n dL_law_582 rfl rfl ?_
  refine eg_al_n dL_law_583 rfl rfl ?_
  refine eg_iload_n dL_law_584 rfl ?_
  refine eg_iconst dL_law_585 ?_
  refine eg_iadd dL_law_586 ?_
  refine eg_sc dL_law_587 (by omega) (by omega) (by omega) ?_
  refine eg_al_n dL_law_588 rfl rfl ?_
  refine eg_iload_n dL_law_589 rfl ?_
  refine eg_iconst dL_law_590 ?_
  refine eg_iadd dL_law_591 ?_
  refine eg_sc dL_law_592 (by omega) (by omega) (by omega) ?_
  refine eg_al_n dL_law_593 rfl rfl ?_
  refine eg_iload_n dL_law_594 rfl ?_
  refine eg_iconst dL_law_595 ?_
  refine eg_iadd dL_law_596 ?_
  refine eg_sc dL_law_597 (by omega) (by omega) (by omega) ?_
  refine eg_Vpf3 cs_L_58 dL_law_598 (m_trade hM1 hC.os scv_R scv_R scv_R) er202 rfl (Nat.le_of_ble_eq_true rfl) (by decide) ?_
  rintro z2 ⟨f2, hM2⟩
  refine eg_icmp_same 1687 dL_law_601 rfl ?_
  exact lw_end H hS f1 hC1 f2 hM2 b1 b2
theorem lwc_10 {k : eg_K} {i : Int} {Q : eg_Q} {n : Nat} {z : eg_Z} {X : eg_M} {s : eg_S} {T : List Int} {g bc bs : Nat} (H : lwN k i Q) (h0 : 0 ≤ i) (h1 : i + 6 ≤ eg_sl k) (hl : eg_sl k ≤ 3072) (hC : IC z s) (hM : IM z s) (hS : SB k z X n T g) (b1 : 6 - g ≤ bc) (b2 : slG 6 - slG g ≤ bs) : eg_E k gL_law 10 bc bs n (enc k z X) [.ref (eg_sb k), vR k 0, vR k 202, vI i] [] 606 Q := by
  refine eg_al_n dL_law_606 rfl rfl ?_
  refine eg_al_n dL_law_607 rfl rfl ?_
  refine eg_iload_n dL_law_608 rfl ?_
  refine eg_iconst dL_law_609 ?_
  refine eg_iadd dL_law_610 ?_
  refine eg_sc dL_law_611 (by omega) (by omega) (by omega) ?_
  refine eg_al_n dL_law_612 rfl rfl ?_
  refine eg_iload_n dL_law_613 rfl ?_
  refine eg_iconst dL_law_614 ?_
  refine eg_iadd dL_law_615 ?_
  refine eg_sc dL_law_616 (by omega) (by omega) (by omega) ?_
  refine eg_Vpf2 cs_L_59 dL_law_617 (p_move hC scv_R scv_R) er0 rfl (Nat.le_of_ble_eq_true rfl) (by decide) ?_
  rintro z1 ⟨f1, hC1⟩
  have hM1 := IM_o (fun c hc => f1 c (by omega)) hM
  refine eg_al_n dL_law_620 rfl rfl ?_
  refine eg_al_n dL_law_621 rfl rfl ?_
  refine eg_iload_n dL_law_622 rfl ?_
  refine eg_iconst dL_law_623 ?_
  refine eg_iadd dL_law_624 ?_
  refine eg_sc dL_law_625 (by omega) (by omega) (by omega) ?_
  refine eg_al_n dL_law_626 rfl rfl ?_
  refine eg_iload_n dL_law_627 rfl ?_
  refine eg_iconst dL_law_628 ?_
  refine eg_iadd dL_law_629 ?_
  refine eg_sc dL_law_630 (by omega) (by omega) (by omega) ?_
  refine eg_Vpf2 cs_L_62 dL_law_631 (m_move hM1 hC.os scv_R scv_R) er202 rfl (Nat.le_of_ble_eq_true rfl) (by decide) ?_
  rintro z2 ⟨f2, hM2⟩
  refine eg_icmp_same 1687 dL_law_634 rfl ?_
  exact lw_end H hS f1 hC1 f2 hM2 b1 b2
theorem lwc_11 {k : eg_K} {i : Int} {Q : eg_Q} {n : Nat} {z : eg_Z} {X : eg_M} {s : eg_S} {T : List Int} {g bc bs : Nat} (H : lwN k i Q) (h0 : 0 ≤ i) (h1 : i + 6 ≤ eg_sl k) (hl : eg_sl k ≤ 3072) (hC : IC z s) (hM : IM z s) (hS : SB k z X n T g) (b1 : 6 - g ≤ bc) (b2 : slG 6 - slG g ≤ bs) : eg_E k gL_law 10 bc bs n (enc k z X) [.ref (eg_sb k), vR k 0, vR k 202, vI i] [] 639 Q := by
  refine eg_al_n dL_law_639 rfl rfl ?_
  refine eg_al_n dL_law_640 rfl rfl ?_
  refine eg_iload_n dL_law_641 rfl ?_
  refine eg_iconst dL_law_642 ?_
  refine eg_iadd dL_law_643 ?_
  refine eg_sc dL_law_644 (by omega) (by omega) (by omega) ?_
  refine eg_al_n dL_law_645 rfl rfl ?_
  refine eg_iload_n dL_law_646 rfl ?_
  refine eg_iconst dL_law_647 ?_
  refine eg_iadd dL_law_648 ?_
  refine eg_sc dL_law_649 (by omega) (by omega) (by omega) ?_
  refine eg_al_n dL_law_650 rfl rfl ?_
  refine eg_iload_n dL_law_651 rfl ?_
  refine eg_iconst dL_law_652 ?_
  refine eg_iadd dL_law_653 ?_
  refine eg_sc dL_law_654 (by omega) (by omega) (by omega) ?_
  refine eg_Vpf3 cs_L_63 dL_law_655 (p_lend hC scv_R scv_R scv_R) er0 rfl (Nat.le_of_ble_eq_true rfl) (by decide) ?_
  rintro z1 ⟨f1, hC1⟩
  have hM1 := IM_o (fun c hc => f1 c (by omega)) hM
  refine eg_al_n dL_law_658 rfl rfl ?_
  refine eg_al_n dL_law_659 rfl rfl ?_
  refine eg_iload_n dL_law_660 rfl ?_
  refine eg_iconst dL_law_661 ?_
  refine eg_iadd dL_law_662 ?_
  refine eg_sc dL_law_663 (by omega) (by omega) (by omega) ?_
  refine eg_al_n dL_law_664 rfl rfl ?_
  refine eg_iload_n dL_law_665 rfl ?_
  refine eg_iconst dL_law_666 ?_
  refine eg_iadd dL_law_667 ?_
  refine eg_sc dL_law_668 (by omega) (by omega) (by omega) ?_
  refine eg_al_n dL_law_669 rfl rfl ?_
  refine eg_iload_n dL_law_670 rfl ?_
  refine eg_iconst dL_law_671 ?_
  refine eg_iadd dL_law_672 ?_
  refine eg_sc dL_law_673 (by omega) (by omega) (by omega) ?_
  refine eg_Vpf3 cs_L_66 dL_law_674 (m_lend hM1 hC.os scv_R scv_R scv_R) er202 rfl (Nat.le_of_ble_eq_true rfl) (by decide) ?_
  rintro z2 ⟨f2, hM2⟩
  refine eg_icmp_same 1687 dL_law_677 rfl ?_
  exact lw_end H hS f1 hC1 f2 hM2 b1 b2
theorem lwc_12 {k : eg_K} {i : Int} {Q : eg_Q} {n : Nat} {z : eg_Z} {X : eg_M} {s : eg_S} {T : List Int} {g bc bs : Nat} (H : lwN k i Q) (h0 : 0 ≤ i) (h1 : i + 6 ≤ eg_sl k) (hl : eg_sl k ≤ 3072) (hC : IC z s) (hM : IM z s) (hS : SB k z X n T g) (b1 : 6 - g ≤ bc) (b2 : slG 6 - slG g ≤ bs) : eg_E k gL_law 10 bc bs n (enc k z X) [.ref (eg_sb k), vR k 0, vR k 202, vI i] [] 682 Q := by
  refine eg_al_n dL_law_682 rfl rfl ?_
  refine eg_al_n dL_law_683 rfl rfl ?_
  refine eg_iload_n dL_law_684 rfl ?_
  refine eg_iconst dL_law_685 ?_
  refine eg_iadd dL_law_686 ?_
  refine eg_sc dL_law_687 (by omega) (by omega) (by omega) ?_
  refine eg_al_n dL_law_688 rfl rfl ?_
  refine eg_iload_n dL_law_689 rfl ?_
  refine eg_iconst dL_law_690 ?_
  refine eg_iadd dL_law_691 ?_
  refine eg_sc dL_law_692 (by omega) (by omega) (by omega) ?_
  refine eg_Vpf2 cs_L_67 dL_law_693 (p_store hC scv_R scv_R) er0 rfl (Nat.le_of_ble_eq_true rfl) (by decide) ?_
  rintro z1 ⟨f1, hC1⟩
  have hM1 := IM_o (fun c hc => f1 c (by omega)) hM
  refine eg_al_n dL_law_696 rfl rfl ?_
  refine eg_al_n dL_law_697 rfl rfl ?_
  refine eg_iload_n dL_law_698 rfl ?_
  refine eg_iconst dL_law_699 ?_
  refine eg_iadd dL_law_700 ?_
  refine eg_sc dL_law_701 (by omega) (by omega) (by omega) ?_
  refine eg_al_n dL_law_702 rfl rfl ?_
  refine eg_iload_n dL_law_703 rfl ?_
  refine eg_iconst dL_law_704 ?_
  refine eg_iadd dL_law_705 ?_
  refine eg_sc dL_law_706 (by omega) (by omega) (by omega) ?_
  refine eg_Vpf2 cs_L_70 dL_law_707 (m_store hM1 hC.os scv_R scv_R) er202 rfl (Nat.le_of_ble_eq_true rfl) (by decide) ?_
  rintro z2 ⟨f2, hM2⟩
  refine eg_icmp_same 1687 dL_law_710 rfl ?_
  exact lw_end H hS f1 hC1 f2 hM2 b1 b2
theorem lwc_13 {k : eg_K} {i : Int} {Q : eg_Q} {n : Nat} {z : eg_Z} {X : eg_M} {s : eg_S} {T : List Int} {g bc bs : Nat} (H : lwN k i Q) (h0 : 0 ≤ i) (h1 : i + 6 ≤ eg_sl k) (hl : eg_sl k ≤ 3072) (hC : IC z s) (hM : IM z s) (hS : SB k z X n T g) (b1 : 6 - g ≤ bc) (b2 : slG 6 - slG g ≤ bs) : eg_E k gL_law 10 bc bs n (enc k z X) [.ref (eg_sb k), vR k 0, vR k 202, vI i] [] 715 Q := by
  refine eg_al_n dL_law_715 rfl rfl ?_
  refine eg_Vpf0 cs_L_71 dL_law_716 (p_day hC ) er0 rfl (Nat.le_of_ble_eq_true rfl) (by decide) ?_
  rintro z1 ⟨f1, hC1⟩
  have hM1 := IM_o (fun c hc => f1 c (by omega)) hM
  refine eg_al_n dL_law_719 rfl rfl ?_
  refine eg_Vpf0 cs_L_74 dL_law_720 (m_day hM1 hC.os  hC.1.2.1.2) er202 rfl (Nat.le_of_ble_eq_true rfl) (by decide) ?_
  rintro z2 ⟨f2, hM2⟩
  refine eg_icmp_same 1687 dL_law_723 rfl ?_
  exact lw_end H hS f1 hC1 f2 hM2 b1 b2
theorem lwc_14 {k : eg_K} {i : Int} {Q : eg_Q} {n : Nat} {z : eg_Z} {X : eg_M} {s : eg_S} {T : List Int} {g bc bs : Nat} (H : lwN k i Q) (h0 : 0 ≤ i) (h1 : i + 6 ≤ eg_sl k) (hl : eg_sl k ≤ 3072) (hC : IC z s) (hM : IM z s) (hS : SB k z X n T g) (b1 : 6 - g ≤ bc) (b2 : slG 6 - slG g ≤ bs) : eg_E k gL_law 10 bc bs n (enc k z X) [.ref (eg_sb k), vR k 0, vR k 202, vI i] [] 728 Q := by
  refine eg_al_n dL_law_728 rfl rfl ?_
  refine eg_Vpf0 cs_L_75 dL_law_729 (p_close hC ) er0 rfl (Nat.le_of_ble_eq_true rfl) (by decide) ?_
  rintro z1 ⟨f1, hC1⟩
  have hM1 := IM_o (fun c hc => f1 c (by omega)) hM
  refine eg_al_n dL_law_732 rfl rfl ?_
  refine eg_Vpf0 cs_L_78 dL_law_733 (m_close hM1 hC.os ) er202 rfl (Nat.le_of_ble_eq_true rfl) (by decide) ?_
  rintro z2 ⟨f2, hM2⟩
  refine eg_icmp_same 1687 dL_law_736 rfl ?_
  exact lw_end H hS f1 hC1 f2 hM2 b1 b2
theorem lwc_15 {k : eg_K} {i : Int} {Q : eg_Q} {n : Nat} {z : eg_Z} {X : eg_M} {s : eg_S} {T : List Int} {g bc bs : Nat} (H : lwN k i Q) (h0 : 0 ≤ i) (h1 : i + 6 ≤ eg_sl k) (hl : eg_sl k ≤ 3072) (hC : IC z s) (hM : IM z s) (hS : SB k z X n T g) (b1 : 6 - g ≤ bc) (b2 : slG 6 - slG g ≤ bs) : eg_E k gL_law 10 bc bs n (enc k z X) [.ref (eg_sb k), vR k 0, vR k 202, vI i] [] 741 Q := by
  refine eg_al_n dL_law_741 rfl rfl ?_
  refine eg_Vpf0 cs_L_79 dL_law_742 (p_undo hC ) er0 rfl (Nat.le_of_ble_eq_true rfl) (by decide) ?_
  rintro z1 ⟨f1, hC1⟩
  have hM1 := IM_o (fun c hc => f1 c (by omega)) hM
  refine eg_al_n dL_law_745 rfl rfl ?_
  refine eg_Vpf0 cs_L_82 dL_law_746 (m_undo hM1 hC.os ) er202 rfl (Nat.le_of_ble_eq_true rfl) (by decide) ?_
  rintro z2 ⟨f2, hM2⟩
  refine eg_icmp_same 1687 dL_law_749 rfl ?_
  exact lw_end H hS f1 hC1 f2 hM2 b1 b2
theorem lwc_16 {k : eg_K} {i : Int} {Q : eg_Q} {n : Nat} {z : eg_Z} {X : eg_M} {s : eg_S} {T : List Int} {g bc bs : Nat} (H : lwN k i Q) (h0 : 0 ≤ i) (h1 : i + 6 ≤ eg_sl k) (hl : eg_sl k ≤ 3072) (hC : IC z s) (hM : IM z s) (hS : SB k z X n T g) (b1 : 6 - g ≤ bc) (b2 : slG 6 - slG g ≤ bs) : eg_E k gL_law 10 bc bs n (enc k z X) [.ref (eg_sb k), vR k 0, vR k 202, vI i] [] 754 Q := by
  refine eg_al_n dL_law_754 rfl rfl ?_
  refine eg_al_n dL_law_755 rfl rfl ?_
  refine eg_iload_n dL_law_756 rfl ?_
  refine eg_iconst dL_law_757 ?_
  refine eg_iadd dL_law_758 ?_
  refine eg_sc dL_law_759 (by omega) (by omega) (by omega) ?_
  refine eg_Vpf1 cs_L_83 dL_law_760 (p_keep hC scv_R) er0 rfl (Nat.le_of_ble_eq_true rfl) (by decide) ?_
  rintro z1 ⟨f1, hC1⟩
  have hM1 := IM_o (fun c hc => f1 c (by omega)) hM
  refine eg_al_n dL_law_763 rfl rfl ?_
  refine eg_al_n dL_law_764 rfl rfl ?_
  refine eg_iload_n dL_law_765 rfl ?_
  refine eg_iconst dL_law_766 ?_
  refine eg_iadd dL_law_767 ?_
  refine eg_sc dL_law_768 (by omega) (by omega) (by omega) ?_
  refine eg_Vpf1 cs_L_86 dL_law_769 (m_keep hM1 hC.os scv_R) er202 rfl (Nat.le_of_ble_eq_true rfl) (by decide) ?_
  rintro z2 ⟨f2, hM2⟩
  refine eg_icmp_same 1687 dL_law_772 rfl ?_
  exact lw_end H hS f1 hC1 f2 hM2 b1 b2
theorem lwc_17 {k : eg_K} {i : Int} {Q : eg_Q} {n : Nat} {z : eg_Z} {X : eg_M} {s : eg_S} {T : List Int} {g bc bs : Nat} (H : lwN k i Q) (h0 : 0 ≤ i) (h1 : i + 6 ≤ eg_sl k) (hl : eg_sl k ≤ 3072) (hC : IC z s) (hM : IM z s) (hS : SB k z X n T g) (b1 : 6 - g ≤ bc) (b2 : slG 6 - slG g ≤ bs) : eg_E k gL_law 10 bc bs n (enc k z X) [.ref (eg_sb k), vR k 0, vR k 202, vI i] [] 777 Q := by
  refine eg_al_n dL_law_777 rfl rfl ?_
  refine eg_al_n dL_law_778 rfl rfl ?_
  refine eg_iload_n dL_law_779 rfl ?_
  refine eg_iconst dL_law_780 ?_
  refine eg_iadd dL_law_781 ?_
  refine eg_sc dL_law_782 (by omega) (by omega) (by omega) ?_
  refine eg_Vpf1 cs_L_87 dL_law_783 (p_back hC scv_R) er0 rfl (Nat.le_of_ble_eq_true rfl) (by decide) ?_
  rintro z1 ⟨f1, hC1⟩
  have hM1 := IM_o (fun c hc => f1 c (by omega)) hM
  refine eg_al_n dL_law_786 rfl rfl ?_
  refine eg_al_n dL_law_787 rfl rfl ?_
  refine eg_iload_n dL_law_788 rfl ?_
  refine eg_iconst dL_law_789 ?_
  refine eg_iadd dL_law_790 ?_
  refine eg_sc dL_law_791 (by omega) (by omega) (by omega) ?_
  refine eg_Vpf1 cs_L_90 dL_law_792 (m_back hM1 hC.os scv_R) er202 rfl (Nat.le_of_ble_eq_true rfl) (by decide) ?_
  rintro z2 ⟨f2, hM2⟩
  refine eg_icmp_same 1687 dL_law_795 rfl ?_
  exact lw_end H hS f1 hC1 f2 hM2 b1 b2
theorem lwc_18 {k : eg_K} {i : Int} {Q : eg_Q} {n : Nat} {z : eg_Z} {X : eg_M} {s : eg_S} {T : List Int} {g bc bs : Nat} (H : lwN k i Q) (h0 : 0 ≤ i) (h1 : i + 6 ≤ eg_sl k) (hl : eg_sl k ≤ 3072) (hC : IC z s) (hM : IM z s) (hS : SB k z X n T g) (b1 : 6 - g ≤ bc) (b2 : slG 6 - slG g ≤ bs) : eg_E k gL_law 10 bc bs n (enc k z X) [.ref (eg_sb k), vR k 0, vR k 202, vI i] [] 800 Q := by
  refine eg_al_n dL_law_800 rfl rfl ?_
  refine eg_al_n dL_law_801 rfl rfl ?_
  refine eg_iload_n dL_law_802 rfl ?_
  refine eg_iconst dL_law_803 ?_
  refine eg_iadd dL_law_804 ?_
  refine eg_sc dL_law_805 (by omega) (by omega) (by omega) ?_
  refine eg_al_n dL_law_806 rfl rfl ?_
  refine eg_iload_n dL_law_807 rfl ?_
  refine eg_iconst dL_law_808 ?_
  refine eg_iadd dL_law_809 ?_
  refine eg_sc dL_law_810 (by omega) (by omega) (by omega) ?_
  refine eg_Vpf2 cs_L_91 dL_law_811 (p_point hC scv_R scv_R) er0 rfl (Nat.le_of_ble_eq_true rfl) (by decide) ?_
  rintro z1 ⟨f1, hC1⟩
  have hM1 := IM_o (fun c hc => f1 c (by omega)) hM
  refine eg_al_n dL_law_814 rfl rfl ?_
  refine eg_al_n dL_law_815 rfl rfl ?_
  refine eg_iload_n dL_law_816 rfl ?_
  refine eg_iconst dL_law_817 ?_
  refine eg_iadd dL_law_818 ?_
  refine eg_sc dL_law_819 (by omega) (by omega) (by omega) ?_
  refine eg_al_n dL_law_820 rfl rfl ?_
  refine eg_iload_n dL_law_821 rfl ?_
  refine eg_iconst dL_law_822 ?_
  refine eg_iadd dL_law_823 ?_
  refine eg_sc dL_law_824 (by omega) (by omega) (by omega) ?_
  refine eg_Vpf2 cs_L_94 dL_law_825 (m_point hM1 hC.os scv_R scv_R) er202 rfl (Nat.le_of_ble_eq_true rfl) (by decide) ?_
  rintro z2 ⟨f2, hM2⟩
  refine eg_icmp_same 1687 dL_law_828 rfl ?_
  exact lw_end H hS f1 hC1 f2 hM2 b1 b2
theorem lwc_19 {k : eg_K} {i : Int} {Q : eg_Q} {n : Nat} {z : eg_Z} {X : eg_M} {s : eg_S} {T : List Int} {g bc bs : Nat} (H : lwN k i Q) (h0 : 0 ≤ i) (h1 : i + 6 ≤ eg_sl k) (hl : eg_sl k ≤ 3072) (hC : IC z s) (hM : IM z s) (hS : SB k z X n T g) (b1 : 6 - g ≤ bc) (b2 : slG 6 - slG g ≤ bs) : eg_E k gL_law 10 bc bs n (enc k z X) [.ref (eg_sb k), vR k 0, vR k 202, vI i] [] 833 Q := by
  refine eg_al_n dL_law_833 rfl rfl ?_
  refine eg_al_n dL_law_834 rfl rfl ?_
  refine eg_iload_n dL_law_835 rfl ?_
  refine eg_iconst dL_law_836 ?_
  refine eg_iadd dL_law_837 ?_
  refine eg_sc dL_law_838 (by omega) (by omega) (by omega) ?_
  refine eg_al_n dL_law_839 rfl rfl ?_
  refine eg_iload_n dL_law_840 rfl ?_
  refine eg_iconst dL_law_841 ?_
  refine eg_iadd dL_law_842 ?_
  refine eg_sc dL_law_843 (by omega) (by omega) (by omega) ?_
  refine eg_Vpf2 cs_L_95 dL_law_844 (p_segment hC scv_R scv_R) er0 rfl (Nat.le_of_ble_eq_true rfl) (by decide) ?_
  rintro z1 ⟨f1, hC1⟩
  have hM1 := IM_o (fun c hc => f1 c (by omega)) hM
  refine eg_al_n dL_law_847 rfl rfl ?_
  refine eg_al_n dL_law_848 rfl rfl ?_
  refine eg_iload_n dL_law_849 rfl ?_
  refine eg_iconst dL_law_850 ?_
  refine eg_iadd dL_law_851 ?_
  refine eg_sc dL_law_852 (by omega) (by omega) (by omega) ?_
  refine eg_al_n dL_law_853 rfl rfl ?_
  refine eg_iload_n dL_law_854 rfl ?_
  refine eg_iconst dL_law_855 ?_
  refine eg_iadd dL_law_856 ?_
  refine eg_sc dL_law_857 (by omega) (by omega) (by omega) ?_
  refine eg_Vpf2 cs_L_98 dL_law_858 (m_segment hM1 hC.os scv_R scv_R) er202 rfl (Nat.le_of_ble_eq_true rfl) (by decide) ?_
  rintro z2 ⟨f2, hM2⟩
  refine eg_icmp_same 1687 dL_law_861 rfl ?_
  exact lw_end H hS f1 hC1 f2 hM2 b1 b2
theorem lwc_20 {k : eg_K} {i : Int} {Q : eg_Q} {n : Nat} {z : eg_Z} {X : eg_M} {s : eg_S} {T : List Int} {g bc bs : Nat} (H : lwN k i Q) (h0 : 0 ≤ i) (h1 : i + 6 ≤ eg_sl k) (hl : eg_sl k ≤ 3072) (hC : IC z s) (hM : IM z s) (hS : SB k z X n T g) (b1 : 6 - g ≤ bc) (b2 : slG 6 - slG g ≤ bs) : eg_E k gL_law 10 bc bs n (enc k z X) [.ref (eg_sb k), vR k 0, vR k 202, vI i] [] 866 Q := by
  refine eg_al_n dL_law_866 rfl rfl ?_
  refine eg_al_n dL_law_867 rfl rfl ?_
  refine eg_iload_n dL_law_868 rfl ?_
  refine eg_iconst dL_law_869 ?_
  refine eg_iadd dL_law_870 ?_
  refine eg_sc dL_law_871 (by omega) (by omega) (by omega) ?_
  refine eg_al_n dL_law_872 rfl rfl ?_
  refine eg_iload_n dL_law_873 rfl ?_
  refine eg_iconst dL_law_874 ?_
  refine eg_iadd dL_law_875 ?_
  refine eg_sc dL_law_876 (by omega) (by omega) (by omega) ?_
  refine eg_Vpf2 cs_L_99 dL_law_877 (p_shipper hC scv_R scv_R) er0 rfl (Nat.le_of_ble_eq_true rfl) (by decide) ?_
  rintro z1 ⟨f1, hC1⟩
  have hM1 := IM_o (fun c hc => f1 c (by omega)) hM
  refine eg_al_n dL_law_880 rfl rfl ?_
  refine eg_al_n dL_law_881 rfl rfl ?_
  refine eg_iload_n dL_law_882 rfl ?_
  refine eg_iconst dL_law_883 ?_
  refine eg_iadd dL_law_884 ?_
  refine eg_sc dL_law_885 (by omega) (by omega) (by omega) ?_
  refine eg_al_n dL_law_886 rfl rfl ?_
  refine eg_iload_n dL_law_887 rfl ?_
  refine eg_iconst dL_law_888 ?_
  refine eg_iadd dL_law_889 ?_
  refine eg_sc dL_law_890 (by omega) (by omega) (by omega) ?_
  refine eg_Vpf2 cs_L_103 dL_law_891 (m_shipper hM1 hC.os scv_R scv_R) er202 rfl (Nat.le_of_ble_eq_true rfl) (by decide) ?_
  rintro z2 ⟨f2, hM2⟩
  refine eg_lc_same 1687 dL_law_894 dL_law_895 rfl ?_
  exact lw_end H hS f1 hC1 f2 hM2 b1 b2
theorem lwc_21 {k : eg_K} {i : Int} {Q : eg_Q} {n : Nat} {z : eg_Z} {X : eg_M} {s : eg_S} {T : List Int} {g bc bs : Nat} (H : lwN k i Q) (h0 : 0 ≤ i) (h1 : i + 6 ≤ eg_sl k) (hl : eg_sl k ≤ 3072) (hC : IC z s) (hM : IM z s) (hS : SB k z X n T g) (b1 : 6 - g ≤ bc) (b2 : slG 6 - slG g ≤ bs) : eg_E k gL_law 10 bc bs n (enc k z X) [.ref (eg_sb k), vR k 0, vR k 202, vI i] [] 900 Q := by
  refine eg_al_n dL_law_900 rfl rfl ?_
  refine eg_al_n dL_law_901 rfl rfl ?_
  refine eg_iload_n dL_law_902 rfl ?_
  refine eg_iconst dL_law_903 ?_
  refine eg_iadd dL_law_904 ?_
  refine eg_sc dL_law_905 (by omega) (by omega) (by omega) ?_
  refine eg_al_n dL_law_906 rfl rfl ?_
  refine eg_iload_n dL_law_907 rfl ?_
  refine eg_iconst dL_law_908 ?_
  refine eg_iadd dL_law_909 ?_
  refine eg_sc dL_law_910 (by omega) (by omega) (by omega) ?_
  refine eg_Vpf2 cs_L_104 dL_law_911 (p_nomination hC scv_R scv_R) er0 rfl (Nat.le_of_ble_eq_true rfl) (by decide) ?_
  rintro z1 ⟨f1, hC1⟩
  have hM1 := IM_o (fun c hc => f1 c (by omega)) hM
  refine eg_al_n dL_law_914 rfl rfl ?_
  refine eg_al_n dL_law_915 rfl rfl ?_
  refine eg_iload_n dL_law_916 rfl ?_
  refine eg_iconst dL_law_917 ?_
  refine eg_iadd dL_law_918 ?_
  refine eg_sc dL_law_919 (by omega) (by omega) (by omega) ?_
  refine eg_al_n dL_law_920 rfl rfl ?_
  refine eg_iload_n dL_law_921 rfl ?_
  refine eg_iconst dL_law_922 ?_
  refine eg_iadd dL_law_923 ?_
  refine eg_sc dL_law_924 (by omega) (by omega) (by omega) ?_
  refine eg_Vpf2 cs_L_107 dL_law_925 (m_nomination hM1 hC.os scv_R scv_R) er202 rfl (Nat.le_of_ble_eq_true rfl) (by decide) ?_
  rintro z2 ⟨f2, hM2⟩
  refine eg_icmp_same 1687 dL_law_928 rfl ?_
  exact lw_end H hS f1 hC1 f2 hM2 b1 b2
theorem lwc_22 {k : eg_K} {i : Int} {Q : eg_Q} {n : Nat} {z : eg_Z} {X : eg_M} {s : eg_S} {T : List Int} {g bc bs : Nat} (H : lwN k i Q) (h0 : 0 ≤ i) (h1 : i + 6 ≤ eg_sl k) (hl : eg_sl k ≤ 3072) (hC : IC z s) (hM : IM z s) (hS : SB k z X n T g) (b1 : 6 - g ≤ bc) (b2 : slG 6 - slG g ≤ bs) : eg_E k gL_law 10 bc bs n (enc k z X) [.ref (eg_sb k), vR k 0, vR k 202, vI i] [] 933 Q := by
  refine eg_al_n dL_law_933 rfl rfl ?_
  refine eg_al_n dL_law_934 rfl rfl ?_
  refine eg_iload_n dL_law_935 rfl ?_
  refine eg_iconst dL_law_936 ?_
  refine eg_iadd dL_law_937 ?_
  refine eg_sc dL_law_938 (by omega) (by omega) (by omega) ?_
  refine eg_al_n dL_law_939 rfl rfl ?_
  refine eg_iload_n dL_law_940 rfl ?_
  refine eg_iconst dL_law_941 ?_
  refine eg_iadd dL_law_942 ?_
  refine eg_sc dL_law_943 (by omega) (by omega) (by omega) ?_
  refine eg_Vpf2 cs_L_108 dL_law_944 (p_plan hC scv_R scv_R) er0 rfl (Nat.le_of_ble_eq_true rfl) (by decide) ?_
  rintro z1 ⟨f1, hC1⟩
  have hM1 := IM_o (fun c hc => f1 c (by omega)) hM
  refine eg_al_n dL_law_947 rfl rfl ?_
  refine eg_al_n dL_law_948 rfl rfl ?_
  refine eg_iload_n dL_law_949 rfl ?_
  refine eg_iconst dL_law_950 ?_
  refine eg_iadd dL_law_951 ?_
  refine eg_sc dL_law_952 (by omega) (by omega) (by omega) ?_
  refine eg_al_n dL_law_953 rfl rfl ?_
  refine eg_iload_n dL_law_954 rfl ?_
  refine eg_iconst dL_law_955 ?_
  refine eg_iadd dL_law_956 ?_
  refine eg_sc dL_law_957 (by omega) (by omega) (by omega) ?_
  refine eg_Vpf2 cs_L_111 dL_law_958 (m_plan hM1 hC.os scv_R scv_R) er202 rfl (Nat.le_of_ble_eq_true rfl) (by decide) ?_
  rintro z2 ⟨f2, hM2⟩
  refine eg_icmp_same 1687 dL_law_961 rfl ?_
  exact lw_end H hS f1 hC1 f2 hM2 b1 b2
theorem lwc_23 {k : eg_K} {i : Int} {Q : eg_Q} {n : Nat} {z : eg_Z} {X : eg_M} {s : eg_S} {T : List Int} {g bc bs : Nat} (H : lwN k i Q) (h0 : 0 ≤ i) (h1 : i + 6 ≤ eg_sl k) (hl : eg_sl k ≤ 3072) (hC : IC z s) (hM : IM z s) (hS : SB k z X n T g) (b1 : 6 - g ≤ bc) (b2 : slG 6 - slG g ≤ bs) : eg_E k gL_law 10 bc bs n (enc k z X) [.ref (eg_sb k), vR k 0, vR k 202, vI i] [] 966 Q := by
  refine eg_al_n dL_law_966 rfl rfl ?_
  refine eg_al_n dL_law_967 rfl rfl ?_
  refine eg_iload_n dL_law_968 rfl ?_
  refine eg_iconst dL_law_969 ?_
  refine eg_iadd dL_law_970 ?_
  refine eg_sc dL_law_971 (by omega) (by omega) (by omega) ?_
  refine eg_Vpf1 cs_L_112 dL_law_972 (p_cause hC scv_R) er0 rfl (Nat.le_of_ble_eq_true rfl) (by decide) ?_
  rintro z1 ⟨f1, hC1⟩
  have hM1 := IM_o (fun c hc => f1 c (by omega)) hM
  refine eg_al_n dL_law_975 rfl rfl ?_
  refine eg_al_n dL_law_976 rfl rfl ?_
  refine eg_iload_n dL_law_977 rfl ?_
  refine eg_iconst dL_law_978 ?_
  refine eg_iadd dL_law_979 ?_
  refine eg_sc dL_law_980 (by omega) (by omega) (by omega) ?_
  refine eg_Vpf1 cs_L_115 dL_law_981 (m_cause hM1 hC.os scv_R) er202 rfl (Nat.le_of_ble_eq_true rfl) (by decide) ?_
  rintro z2 ⟨f2, hM2⟩
  refine eg_icmp_same 1687 dL_law_984 rfl ?_
  exact lw_end H hS f1 hC1 f2 hM2 b1 b2
theorem lwc_24 {k : eg_K} {i : Int} {Q : eg_Q} {n : Nat} {z : eg_Z} {X : eg_M} {s : eg_S} {T : List Int} {g bc bs : Nat} (H : lwN k i Q) (h0 : 0 ≤ i) (h1 : i + 6 ≤ eg_sl k) (hl : eg_sl k ≤ 3072) (hC : IC z s) (hM : IM z s) (hS : SB k z X n T g) (b1 : 6 - g ≤ bc) (b2 : slG 6 - slG g ≤ bs) : eg_E k gL_law 10 bc bs n (enc k z X) [.ref (eg_sb k), vR k 0, vR k 202, vI i] [] 989 Q := by
  refine eg_al_n dL_law_989 rfl rfl ?_
  refine eg_al_n dL_law_990 rfl rfl ?_
  refine eg_iload_n dL_law_991 rfl ?_
  refine eg_iconst dL_law_992 ?_
  refine eg_iadd dL_law_993 ?_
  refine eg_sc dL_law_994 (by omega) (by omega) (by omega) ?_
  refine eg_Vpf1 cs_L_116 dL_law_995 (p_tight hC scv_R) er0 rfl (Nat.le_of_ble_eq_true rfl) (by decide) ?_
  rintro z1 ⟨f1, hC1⟩
  have hM1 := IM_o (fun c hc => f1 c (by omega)) hM
  refine eg_al_n dL_law_998 rfl rfl ?_
  refine eg_al_n dL_law_999 rfl rfl ?_
  refine eg_iload_n dL_law_1000 rfl ?_
  refine eg_iconst dL_law_1001 ?_
  refine eg_iadd dL_law_1002 ?_
  refine eg_sc dL_law_1003 (by omega) (by omega) (by omega) ?_
  refine eg_Vpf1 cs_L_119 dL_law_1004 (m_tight hM1 hC.os scv_R) er202 rfl (Nat.le_of_ble_eq_true rfl) (by decide) ?_
  rintro z2 ⟨f2, hM2⟩
  refine eg_icmp_same 1687 dL_law_1007 rfl ?_
  exact lw_end H hS f1 hC1 f2 hM2 b1 b2
theorem lwc_25 {k : eg_K} {i : Int} {Q : eg_Q} {n : Nat} {z : eg_Z} {X : eg_M} {s : eg_S} {T : List Int} {g bc bs : Nat} (H : lwN k i Q) (h0 : 0 ≤ i) (h1 : i + 6 ≤ eg_sl k) (hl : eg_sl k ≤ 3072) (hC : IC z s) (hM : IM z s) (hS : SB k z X n T g) (b1 : 6 - g ≤ bc) (b2 : slG 6 - slG g ≤ bs) : eg_E k gL_law 10 bc bs n (enc k z X) [.ref (eg_sb k), vR k 0, vR k 202, vI i] [] 1012 Q := by
  by_cases hf : scv k (i + 2) = 0
  · refine eg_al_n dL_law_1012 rfl rfl ?_
    refine eg_al_n dL_law_1013 rfl rfl ?_
    refine eg_iload_n dL_law_1014 rfl ?_
    refine eg_iconst dL_law_1015 ?_
    refine eg_iadd dL_law_1016 ?_
    refine eg_sc dL_law_1017 (by omega) (by omega) (by omega) ?_
    refine eg_al_n dL_law_1018 rfl rfl ?_
    refine eg_iload_n dL_law_1019 rfl ?_
    refine eg_iconst dL_law_1020 ?_
    refine eg_iadd dL_law_1021 ?_
    refine eg_sc dL_law_1022 (by omega) (by omega) (by omega) ?_
    refine eg_if_eq 1030 dL_law_1023 scv_R rfl (fun q9 => ?_) (fun q9 => absurd hf q9)
    refine eg_iconst dL_law_1030 ?_
    refine eg_Vpf2 cs_L_120 dL_law_1031 (p_flow hC scv_R iR0) er0 rfl (Nat.le_of_ble_eq_true rfl) (by decide) ?_
    rintro z1 ⟨f1, hC1⟩
    have hM1 := IM_o (fun c hc => f1 c (by omega)) hM
    refine eg_al_n dL_law_1034 rfl rfl ?_
    refine eg_al_n dL_law_1035 rfl rfl ?_
    refine eg_iload_n dL_law_1036 rfl ?_
    refine eg_iconst dL_law_1037 ?_
    refine eg_iadd dL_law_1038 ?_
    refine eg_sc dL_law_1039 (by omega) (by omega) (by omega) ?_
    refine eg_al_n dL_law_1040 rfl rfl ?_
    refine eg_iload_n dL_law_1041 rfl ?_
    refine eg_iconst dL_law_1042 ?_
    refine eg_iadd dL_law_1043 ?_
    refine eg_sc dL_law_1044 (by omega) (by omega) (by omega) ?_
    refine eg_if_eq 1052 dL_law_1045 scv_R rfl (fun q9 => ?_) (fun q9 => absurd hf q9)
    refine eg_iconst dL_law_1052 ?_
    refine eg_Vpf2 cs_L_124 dL_law_1053 (m_flow hM1 hC.os scv_R iR0) er202 rfl (Nat.le_of_ble_eq_true rfl) (by decide) ?_
    rintro z2 ⟨f2, hM2⟩
    refine eg_icmp_same 1687 dL_law_1056 rfl ?_
    exact lw_end H hS f1 hC1 f2 hM2 b1 b2
  · refine eg_al_n dL_law_1012 rfl rfl ?_
    refine eg_al_n dL_law_1013 rfl rfl ?_
    refine eg_iload_n dL_law_1014 rfl ?_
    refine eg_iconst dL_law_1015 ?_
    refine eg_iadd dL_law_1016 ?_
    refine eg_sc dL_law_1017 (by omega) (by omega) (by omega) ?_
    refine eg_al_n dL_law_1018 rfl rfl ?_
    refine eg_iload_n dL_law_1019 rfl ?_
    refine eg_iconst dL_law_1020 ?_
    refine eg_iadd dL_law_1021 ?_
    refine eg_sc dL_law_1022 (by omega) (by omega) (by omega) ?_
    refine eg_if_eq 1030 dL_law_1023 scv_R rfl (fun q9 => absurd q9 hf) (fun q9 => ?_)
    refine eg_iconst dL_law_1026 ?_
    refine eg_goto 1031 dL_law_1027 rfl ?_
    refine eg_Vpf2 cs_L_120 dL_law_1031 (p_flow hC scv_R iR1) er0 rfl (Nat.le_of_ble_eq_true rfl) (by decide) ?_
    rintro z1 ⟨f1, hC1⟩
    have hM1 := IM_o (fun c hc => f1 c (by omega)) hM
    refine eg_al_n dL_law_1034 rfl rfl ?_
    refine eg_al_n dL_law_1035 rfl rfl ?_
    refine eg_iload_n dL_law_1036 rfl ?_
    refine eg_iconst dL_law_1037 ?_
    refine eg_iadd dL_law_1038 ?_
    refine eg_sc dL_law_1039 (by omega) (by omega) (by omega) ?_
    refine eg_al_n dL_law_1040 rfl rfl ?_
    refine eg_iload_n dL_law_1041 rfl ?_
    refine eg_iconst dL_law_1042 ?_
    refine eg_iadd dL_law_1043 ?_
    refine eg_sc dL_law_1044 (by omega) (by omega) (by omega) ?_
    refine eg_if_eq 1052 dL_law_1045 scv_R rfl (fun q9 => absurd q9 hf) (fun q9 => ?_)
    refine eg_iconst dL_law_1048 ?_
    refine eg_goto 1053 dL_law_1049 rfl ?_
    refine eg_Vpf2 cs_L_124 dL_law_1053 (m_flow hM1 hC.os scv_R iR1) er202 rfl (Nat.le_of_ble_eq_true rfl) (by decide) ?_
    rintro z2 ⟨f2, hM2⟩
    refine eg_icmp_same 1687 dL_law_1056 rfl ?_
    exact lw_end H hS f1 hC1 f2 hM2 b1 b2
theorem lwc_26 {k : eg_K} {i : Int} {Q : eg_Q} {n : Nat} {z : eg_Z} {X : eg_M} {s : eg_S} {T : List Int} {g bc bs : Nat} (H : lwN k i Q) (h0 : 0 ≤ i) (h1 : i + 6 ≤ eg_sl k) (hl : eg_sl k ≤ 3072) (hC : IC z s) (hM : IM z s) (hS : SB k z X n T g) (b1 : 6 - g ≤ bc) (b2 : slG 6 - slG g ≤ bs) : eg_E k gL_law 10 bc bs n (enc k z X) [.ref (eg_sb k), vR k 0, vR k 202, vI i] [] 1061 Q := by
  refine eg_al_n dL_law_1061 rfl rfl ?_
  refine eg_al_n dL_law_1062 rfl rfl ?_
  refine eg_iload_n dL_law_1063 rfl ?_
  refine eg_iconst dL_law_1064 ?_
  refine eg_iadd dL_law_1065 ?_
  refine eg_sc dL_law_1066 (by omega) (by omega) (by omega) ?_
  refine eg_al_n dL_law_1067 rfl rfl ?_
  refine eg_iload_n dL_law_1068 rfl ?_
  refine eg_iconst dL_law_1069 ?_
  refine eg_iadd dL_law_1070 ?_
  refine eg_sc dL_law_1071 (by omega) (by omega) (by omega) ?_
  refine eg_al_n dL_law_1072 rfl rfl ?_
  refine eg_iload_n dL_law_1073 rfl ?_
  refine eg_iconst dL_law_1074 ?_
  refine eg_iadd dL_law_1075 ?_
  refine eg_sc dL_law_1076 (by omega) (by omega) (by omega) ?_
  refine eg_Vpf3 cs_L_125 dL_law_1077 (p_leaves hC scv_R scv_R scv_R) er0 rfl (Nat.le_of_ble_eq_true rfl) (by decide) ?_
  rintro z1 ⟨f1, hC1⟩
  have hM1 := IM_o (fun c hc => f1 c (by omega)) hM
  refine eg_al_n dL_law_1080 rfl rfl ?_
  refine eg_al_n dL_law_1081 rfl rfl ?_
  refine eg_iload_n dL_law_1082 rfl ?_
  refine eg_iconst dL_law_1083 ?_
  refine eg_iadd dL_law_1084 ?_
  refine eg_sc dL_law_1085 (by omega) (by omega) (by omega) ?_
  refine eg_al_n dL_law_1086 rfl rfl ?_
  refine eg_iload_n dL_law_1087 rfl ?_
  refine eg_iconst dL_law_1088 ?_
  refine eg_iadd dL_law_1089 ?_
  refine eg_sc dL_law_1090 (by omega) (by omega) (by omega) ?_
  refine eg_al_n dL_law_1091 rfl rfl ?_
  refine eg_iload_n dL_law_1092 rfl ?_
  refine eg_iconst dL_law_1093 ?_
  refine eg_iadd dL_law_1094 ?_
  refine eg_sc dL_law_1095 (by omega) (by omega) (by omega) ?_
  refine eg_Vpf3 cs_L_128 dL_law_1096 (m_leaves hM1 hC.os scv_R scv_R scv_R) er202 rfl (Nat.le_of_ble_eq_true rfl) (by decide) ?_
  rintro z2 ⟨f2, hM2⟩
  refine eg_icmp_same 1687 dL_law_1099 rfl ?_
  exact lw_end H hS f1 hC1 f2 hM2 b1 b2
theorem lwc_27 {k : eg_K} {i : Int} {Q : eg_Q} {n : Nat} {z : eg_Z} {X : eg_M} {s : eg_S} {T : List Int} {g bc bs : Nat} (H : lwN k i Q) (h0 : 0 ≤ i) (h1 : i + 6 ≤ eg_sl k) (hl : eg_sl k ≤ 3072) (hC : IC z s) (hM : IM z s) (hS : SB k z X n T g) (b1 : 6 - g ≤ bc) (b2 : slG 6 - slG g ≤ bs) : eg_E k gL_law 10 bc bs n (enc k z X) [.ref (eg_sb k), vR k 0, vR k 202, vI i] [] 1104 Q := by
  refine eg_al_n dL_law_1104 rfl rfl ?_
  refine eg_al_n dL_law_1105 rfl rfl ?_
  refine eg_iload_n dL_law_1106 rfl ?_
  refine eg_iconst dL_law_1107 ?_
  refine eg_iadd dL_law_1108 ?_
  refine eg_sc dL_law_1109 (by omega) (by omega) (by omega) ?_
  refine eg_al_n dL_law_1110 rfl rfl ?_
  refine eg_iload_n dL_law_1111 rfl ?_
  refine eg_iconst dL_law_1112 ?_
  refine eg_iadd dL_law_1113 ?_
  refine eg_sc dL_law_1114 (by omega) (by omega) (by omega) ?_
  refine eg_al_n dL_law_1115 rfl rfl ?_
  refine eg_iload_n dL_law_1116 rfl ?_
  refine eg_iconst dL_law_1117 ?_
  refine eg_iadd dL_law_1118 ?_
  refine eg_sc dL_law_1119 (by omega) (by omega) (by omega) ?_
  refine eg_Vpf3 cs_L_129 dL_law_1120 (p_needs hC scv_R scv_R scv_R) er0 rfl (Nat.le_of_ble_eq_true rfl) (by decide) ?_
  rintro z1 ⟨f1, hC1⟩
  have hM1 := IM_o (fun c hc => f1 c (by omega)) hM
  refine eg_al_n dL_law_1123 rfl rfl ?_
  refine eg_al_n dL_law_1124 rfl rfl ?_
  refine eg_iload_n dL_law_1125 rfl ?_
  refine eg_iconst dL_law_1126 ?_
  refine eg_iadd dL_law_1127 ?_
  refine eg_sc dL_law_1128 (by omega) (by omega) (by omega) ?_
  refine eg_al_n dL_law_1129 rfl rfl ?_
  refine eg_iload_n dL_law_1130 rfl ?_
  refine eg_iconst dL_law_1131 ?_
  refine eg_iadd dL_law_1132 ?_
  refine eg_sc dL_law_1133 (by omega) (by omega) (by omega) ?_
  refine eg_al_n dL_law_1134 rfl rfl ?_
  refine eg_iload_n dL_law_1135 rfl ?_
  refine eg_iconst dL_law_1136 ?_
  refine eg_iadd dL_law_1137 ?_
  refine eg_sc dL_law_1138 (by omega) (by omega) (by omega) ?_
  refine eg_Vpf3 cs_L_132 dL_law_1139 (m_needs hM1 hC.os scv_R scv_R scv_R) er202 rfl (Nat.le_of_ble_eq_true rfl) (by decide) ?_
  rintro z2 ⟨f2, hM2⟩
  refine eg_icmp_same 1687 dL_law_1142 rfl ?_
  exact lw_end H hS f1 hC1 f2 hM2 b1 b2
theorem lwc_28 {k : eg_K} {i : Int} {Q : eg_Q} {n : Nat} {z : eg_Z} {X : eg_M} {s : eg_S} {T : List Int} {g bc bs : Nat} (H : lwN k i Q) (h0 : 0 ≤ i) (h1 : i + 6 ≤ eg_sl k) (hl : eg_sl k ≤ 3072) (hC : IC z s) (hM : IM z s) (hS : SB k z X n T g) (b1 : 6 - g ≤ bc) (b2 : slG 6 - slG g ≤ bs) : eg_E k gL_law 10 bc bs n (enc k z X) [.ref (eg_sb k), vR k 0, vR k 202, vI i] [] 1147 Q := by
  refine eg_al_n dL_law_1147 rfl rfl ?_
  refine eg_al_n dL_law_1148 rfl rfl ?_
  refine eg_iload_n dL_law_1149 rfl ?_
  refine eg_iconst dL_law_1150 ?_
  refine eg_iadd dL_law_1151 ?_
  refine eg_sc dL_law_1152 (by omega) (by omega) (by omega) ?_
  refine eg_al_n dL_law_1153 rfl rfl ?_
  refine eg_iload_n dL_law_1154 rfl ?_
  refine eg_iconst dL_law_1155 ?_
  refine eg_iadd dL_law_1156 ?_
  refine eg_sc dL_law_1157 (by omega) (by omega) (by omega) ?_
  refine eg_al_n dL_law_1158 rfl rfl ?_
  refine eg_iload_n dL_law_1159 rfl ?_
  refine eg_iconst dL_law_1160 ?_
  refine eg_iadd dL_law_1161 ?_
  refine eg_sc dL_law_1162 (by omega) (by omega) (by omega) ?_
  refine eg_al_n dL_law_1163 rfl rfl ?_
  refine eg_iload_n dL_law_1164 rfl ?_
  refine eg_iconst dL_law_1165 ?_
  refine eg_iadd dL_law_1166 ?_
  refine eg_sc dL_law_1167 (by omega) (by omega) (by omega) ?_
  refine eg_Vpf4 cs_L_133 dL_law_1168 (p_more hC scv_R scv_R scv_R scv_R) er0 rfl (Nat.le_of_ble_eq_true rfl) (by decide) ?_
  rintro z1 ⟨f1, hC1⟩
  have hM1 := IM_o (fun c hc => f1 c (by omega)) hM
  refine eg_al_n dL_law_1171 rfl rfl ?_
  refine eg_al_n dL_law_1172 rfl rfl ?_
  refine eg_iload_n dL_law_1173 rfl ?_
  refine eg_iconst dL_law_1174 ?_
  refine eg_iadd dL_law_1175 ?_
  refine eg_sc dL_law_1176 (by omega) (by omega) (by omega) ?_
  refine eg_al_n dL_law_1177 rfl rfl ?_
  refine eg_iload_n dL_law_1178 rfl ?_
  refine eg_iconst dL_law_1179 ?_
  refine eg_iadd dL_law_1180 ?_
  refine eg_sc dL_law_1181 (by omega) (by omega) (by omega) ?_
  refine eg_al_n dL_law_1182 rfl rfl ?_
  refine eg_iload_n dL_law_1183 rfl ?_
  refine eg_iconst dL_law_1184 ?_
  refine eg_iadd dL_law_1185 ?_
  refine eg_sc dL_law_1186 (by omega) (by omega) (by omega) ?_
  refine eg_al_n dL_law_1187 rfl rfl ?_
  refine eg_iload_n dL_law_1188 rfl ?_
  refine eg_iconst dL_law_1189 ?_
  refine eg_iadd dL_law_1190 ?_
  refine eg_sc dL_law_1191 (by omega) (by omega) (by omega) ?_
  refine eg_Vpf4 cs_L_136 dL_law_1192 (m_more hM1 hC.os scv_R scv_R scv_R scv_R) er202 rfl (Nat.le_of_ble_eq_true rfl) (by decide) ?_
  rintro z2 ⟨f2, hM2⟩
  refine eg_icmp_same 1687 dL_law_1195 rfl ?_
  exact lw_end H hS f1 hC1 f2 hM2 b1 b2
theorem lwc_29 {k : eg_K} {i : Int} {Q : eg_Q} {n : Nat} {z : eg_Z} {X : eg_M} {s : eg_S} {T : List Int} {g bc bs : Nat} (H : lwN k i Q) (h0 : 0 ≤ i) (h1 : i + 6 ≤ eg_sl k) (hl : eg_sl k ≤ 3072) (hC : IC z s) (hM : IM z s) (hS : SB k z X n T g) (b1 : 6 - g ≤ bc) (b2 : slG 6 - slG g ≤ bs) : eg_E k gL_law 10 bc bs n (enc k z X) [.ref (eg_sb k), vR k 0, vR k 202, vI i] [] 1200 Q := by
  refine eg_al_n dL_law_1200 rfl rfl ?_
  refine eg_al_n dL_law_1201 rfl rfl ?_
  refine eg_iload_n dL_law_1202 rfl ?_
  refine eg_iconst dL_law_1203 ?_
  refine eg_iadd dL_law_1204 ?_
  refine eg_sc dL_law_1205 (by omega) (by omega) (by omega) ?_
  refine eg_Vpf1 cs_L_137 dL_law_1206 (p_gain hC scv_R) er0 rfl (Nat.le_of_ble_eq_true rfl) (by decide) ?_
  rintro z1 ⟨f1, hC1⟩
  have hM1 := IM_o (fun c hc => f1 c (by omega)) hM
  refine eg_al_n dL_law_1209 rfl rfl ?_
  refine eg_al_n dL_law_1210 rfl rfl ?_
  refine eg_iload_n dL_law_1211 rfl ?_
  refine eg_iconst dL_law_1212 ?_
  refine eg_iadd dL_law_1213 ?_
  refine eg_sc dL_law_1214 (by omega) (by omega) (by omega) ?_
  refine eg_Vpf1 cs_L_140 dL_law_1215 (m_gain hM1 hC.os scv_R) er202 rfl (Nat.le_of_ble_eq_true rfl) (by decide) ?_
  rintro z2 ⟨f2, hM2⟩
  refine eg_icmp_same 1687 dL_law_1218 rfl ?_
  exact lw_end H hS f1 hC1 f2 hM2 b1 b2
theorem lwc_30 {k : eg_K} {i : Int} {Q : eg_Q} {n : Nat} {z : eg_Z} {X : eg_M} {s : eg_S} {T : List Int} {g bc bs : Nat} (H : lwN k i Q) (h0 : 0 ≤ i) (h1 : i + 6 ≤ eg_sl k) (hl : eg_sl k ≤ 3072) (hC : IC z s) (hM : IM z s) (hS : SB k z X n T g) (b1 : 6 - g ≤ bc) (b2 : slG 6 - slG g ≤ bs) : eg_E k gL_law 10 bc bs n (enc k z X) [.ref (eg_sb k), vR k 0, vR k 202, vI i] [] 1223 Q := by
  refine eg_al_n dL_law_1223 rfl rfl ?_
  refine eg_al_n dL_law_1224 rfl rfl ?_
  refine eg_iload_n dL_law_1225 rfl ?_
  refine eg_iconst dL_law_1226 ?_
  refine eg_iadd dL_law_1227 ?_
  refine eg_sc dL_law_1228 (by omega) (by omega) (by omega) ?_
  refine eg_al_n dL_law_1229 rfl rfl ?_
  refine eg_iload_n dL_law_1230 rfl ?_
  refine eg_iconst dL_law_1231 ?_
  refine eg_iadd dL_law_1232 ?_
  refine eg_sc dL_law_1233 (by omega) (by omega) (by omega) ?_
  refine eg_al_n dL_law_1234 rfl rfl ?_
  refine eg_iload_n dL_law_1235 rfl ?_
  refine eg_iconst dL_law_1236 ?_
  refine eg_iadd dL_law_1237 ?_
  refine eg_sc dL_law_1238 (by omega) (by omega) (by omega) ?_
  refine eg_Vpf3 cs_L_141 dL_law_1239 (p_widen hC scv_R scv_R scv_R) er0 rfl (Nat.le_of_ble_eq_true rfl) (by decide) ?_
  rintro z1 ⟨f1, hC1⟩
  have hM1 := IM_o (fun c hc => f1 c (by omega)) hM
  refine eg_al_n dL_law_1242 rfl rfl ?_
  refine eg_al_n dL_law_1243 rfl rfl ?_
  refine eg_iload_n dL_law_1244 rfl ?_
  refine eg_iconst dL_law_1245 ?_
  refine eg_iadd dL_law_1246 ?_
  refine eg_sc dL_law_1247 (by omega) (by omega) (by omega) ?_
  refine eg_al_n dL_law_1248 rfl rfl ?_
  refine eg_iload_n dL_law_1249 rfl ?_
  refine eg_iconst dL_law_1250 ?_
  refine eg_iadd dL_law_1251 ?_
  refine eg_sc dL_law_1252 (by omega) (by omega) (by omega) ?_
  refine eg_al_n dL_law_1253 rfl rfl ?_
  refine eg_iload_n dL_law_1254 rfl ?_
  refine eg_iconst dL_law_1255 ?_
  refine eg_iadd dL_law_1256 ?_
  refine eg_sc dL_law_1257 (by omega) (by omega) (by omega) ?_
  refine eg_Vpf3 cs_L_144 dL_law_1258 (m_widen hM1 hC.os scv_R scv_R scv_R) er202 rfl (Nat.le_of_ble_eq_true rfl) (by decide) ?_
  rintro z2 ⟨f2, hM2⟩
  refine eg_icmp_same 1687 dL_law_1261 rfl ?_
  exact lw_end H hS f1 hC1 f2 hM2 b1 b2
theorem lwc_31 {k : eg_K} {i : Int} {Q : eg_Q} {n : Nat} {z : eg_Z} {X : eg_M} {s : eg_S} {T : List Int} {g bc bs : Nat} (H : lwN k i Q) (h0 : 0 ≤ i) (h1 : i + 6 ≤ eg_sl k) (hl : eg_sl k ≤ 3072) (hC : IC z s) (hM : IM z s) (hS : SB k z X n T g) (b1 : 6 - g ≤ bc) (b2 : slG 6 - slG g ≤ bs) : eg_E k gL_law 10 bc bs n (enc k z X) [.ref (eg_sb k), vR k 0, vR k 202, vI i] [] 1266 Q := by
  refine eg_al_n dL_law_1266 rfl rfl ?_
  refine eg_al_n dL_law_1267 rfl rfl ?_
  refine eg_iload_n dL_law_1268 rfl ?_
  refine eg_iconst dL_law_1269 ?_
  refine eg_iadd dL_law_1270 ?_
  refine eg_sc dL_law_1271 (by omega) (by omega) (by omega) ?_
  refine eg_al_n dL_law_1272 rfl rfl ?_
  refine eg_iload_n dL_law_1273 rfl ?_
  refine eg_iconst dL_law_1274 ?_
  refine eg_iadd dL_law_1275 ?_
  refine eg_sc dL_law_1276 (by omega) (by omega) (by omega) ?_
  refine eg_Vpf2 cs_L_145 dL_law_1277 (p_ahead hC scv_R scv_R) er0 rfl (Nat.le_of_ble_eq_true rfl) (by decide) ?_
  rintro z1 ⟨f1, hC1⟩
  have hM1 := IM_o (fun c hc => f1 c (by omega)) hM
  refine eg_al_n dL_law_1280 rfl rfl ?_
  refine eg_al_n dL_law_1281 rfl rfl ?_
  refine eg_iload_n dL_law_1282 rfl ?_
  refine eg_iconst dL_law_1283 ?_
  refine eg_iadd dL_law_1284 ?_
  refine eg_sc dL_law_1285 (by omega) (by omega) (by omega) ?_
  refine eg_al_n dL_law_1286 rfl rfl ?_
  refine eg_iload_n dL_law_1287 rfl ?_
  refine eg_iconst dL_law_1288 ?_
  refine eg_iadd dL_law_1289 ?_
  refine eg_sc dL_law_1290 (by omega) (by omega) (by omega) ?_
  refine eg_Vpf2 cs_L_148 dL_law_1291 (m_ahead hM1 hC.os scv_R scv_R) er202 rfl (Nat.le_of_ble_eq_true rfl) (by decide) ?_
  rintro z2 ⟨f2, hM2⟩
  refine eg_lc_same 1687 dL_law_1294 dL_law_1295 rfl ?_
  exact lw_end H hS f1 hC1 f2 hM2 b1 b2
theorem lwc_32 {k : eg_K} {i : Int} {Q : eg_Q} {n : Nat} {z : eg_Z} {X : eg_M} {s : eg_S} {T : List Int} {g bc bs : Nat} (H : lwN k i Q) (h0 : 0 ≤ i) (h1 : i + 6 ≤ eg_sl k) (hl : eg_sl k ≤ 3072) (hC : IC z s) (hM : IM z s) (hS : SB k z X n T g) (b1 : 6 - g ≤ bc) (b2 : slG 6 - slG g ≤ bs) : eg_E k gL_law 10 bc bs n (enc k z X) [.ref (eg_sb k), vR k 0, vR k 202, vI i] [] 1300 Q := by
  refine eg_al_n dL_law_1300 rfl rfl ?_
  refine eg_al_n dL_law_1301 rfl rfl ?_
  refine eg_iload_n dL_law_1302 rfl ?_
  refine eg_iconst dL_law_1303 ?_
  refine eg_iadd dL_law_1304 ?_
  refine eg_sc dL_law_1305 (by omega) (by omega) (by omega) ?_
  refine eg_Vpf1 cs_L_149 dL_law_1306 (p_first hC scv_R) er0 rfl (Nat.le_of_ble_eq_true rfl) (by decide) ?_
  rintro z1 ⟨f1, hC1⟩
  have hM1 := IM_o (fun c hc => f1 c (by omega)) hM
  refine eg_al_n dL_law_1309 rfl rfl ?_
  refine eg_al_n dL_law_1310 rfl rfl ?_
  refine eg_iload_n dL_law_1311 rfl ?_
  refine eg_iconst dL_law_1312 ?_
  refine eg_iadd dL_law_1313 ?_
  refine eg_sc dL_law_1314 (by omega) (by omega) (by omega) ?_
  refine eg_Vpf1 cs_L_152 dL_law_1315 (m_first hM1 hC.os scv_R) er202 rfl (Nat.le_of_ble_eq_true rfl) (by decide) ?_
  rintro z2 ⟨f2, hM2⟩
  refine eg_icmp_same 1687 dL_law_1318 rfl ?_
  exact lw_end H hS f1 hC1 f2 hM2 b1 b2
theorem lwc_33 {k : eg_K} {i : Int} {Q : eg_Q} {n : Nat} {z : eg_Z} {X : eg_M} {s : eg_S} {T : List Int} {g bc bs : Nat} (H : lwN k i Q) (h0 : 0 ≤ i) (h1 : i + 6 ≤ eg_sl k) (hl : eg_sl k ≤ 3072) (hC : IC z s) (hM : IM z s) (hS : SB k z X n T g) (b1 : 6 - g ≤ bc) (b2 : slG 6 - slG g ≤ bs) : eg_E k gL_law 10 bc bs n (enc k z X) [.ref (eg_sb k), vR k 0, vR k 202, vI i] [] 1323 Q := by
  refine eg_al_n dL_law_1323 rfl rfl ?_
  refine eg_al_n dL_law_1324 rfl rfl ?_
  refine eg_iload_n dL_law_1325 rfl ?_
  refine eg_iconst dL_law_1326 ?_
  refine eg_iadd dL_law_1327 ?_
  refine eg_sc dL_law_1328 (by omega) (by omega) (by omega) ?_
  refine eg_al_n dL_law_1329 rfl rfl ?_
  refine eg_iload_n dL_law_1330 rfl ?_
  refine eg_iconst dL_law_1331 ?_
  refine eg_iadd dL_law_1332 ?_
  refine eg_sc dL_law_1333 (by omega) (by omega) (by omega) ?_
  refine eg_Vpf2 cs_L_153 dL_law_1334 (p_log hC scv_R scv_R) er0 rfl (Nat.le_of_ble_eq_true rfl) (by decide) ?_
  rintro z1 ⟨f1, hC1⟩
  have hM1 := IM_o (fun c hc => f1 c (by omega)) hM
  refine eg_al_n dL_law_1337 rfl rfl ?_
  refine eg_al_n dL_law_1338 rfl rfl ?_
  refine eg_iload_n dL_law_1339 rfl ?_
  refine eg_iconst dL_law_1340 ?_
  refine eg_iadd dL_law_1341 ?_
  refine eg_sc dL_law_1342 (by omega) (by omega) (by omega) ?_
  refine eg_al_n dL_law_1343 rfl rfl ?_
  refine eg_iload_n dL_law_1344 rfl ?_
  refine eg_iconst dL_law_1345 ?_
  refine eg_iadd dL_law_1346 ?_
  refine eg_sc dL_law_1347 (by omega) (by omega) (by omega) ?_
  refine eg_Vpf2 cs_L_156 dL_law_1348 (m_log hM1 hC.os scv_R scv_R hC.1.2.1.2) er202 rfl (Nat.le_of_ble_eq_true rfl) (by decide) ?_
  rintro z2 ⟨f2, hM2⟩
  refine eg_icmp_same 1687 dL_law_1351 rfl ?_
  exact lw_end H hS f1 hC1 f2 hM2 b1 b2
theorem lwc_34 {k : eg_K} {i : Int} {Q : eg_Q} {n : Nat} {z : eg_Z} {X : eg_M} {s : eg_S} {T : List Int} {g bc bs : Nat} (H : lwN k i Q) (h0 : 0 ≤ i) (h1 : i + 6 ≤ eg_sl k) (hl : eg_sl k ≤ 3072) (hC : IC z s) (hM : IM z s) (hS : SB k z X n T g) (b1 : 6 - g ≤ bc) (b2 : slG 6 - slG g ≤ bs) : eg_E k gL_law 10 bc bs n (enc k z X) [.ref (eg_sb k), vR k 0, vR k 202, vI i] [] 1356 Q := by
  refine eg_al_n dL_law_1356 rfl rfl ?_
  refine eg_al_n dL_law_1357 rfl rfl ?_
  refine eg_iload_n dL_law_1358 rfl ?_
  refine eg_iconst dL_law_1359 ?_
  refine eg_iadd dL_law_1360 ?_
  refine eg_sc dL_law_1361 (by omega) (by omega) (by omega) ?_
  refine eg_Vpf1 cs_L_157 dL_law_1362 (p_fair hC scv_R) er0 rfl (Nat.le_of_ble_eq_true rfl) (by decide) ?_
  rintro z1 ⟨f1, hC1⟩
  have hM1 := IM_o (fun c hc => f1 c (by omega)) hM
  refine eg_al_n dL_law_1365 rfl rfl ?_
  refine eg_al_n dL_law_1366 rfl rfl ?_
  refine eg_iload_n dL_law_1367 rfl ?_
  refine eg_iconst dL_law_1368 ?_
  refine eg_iadd dL_law_1369 ?_
  refine eg_sc dL_law_1370 (by omega) (by omega) (by omega) ?_
  refine eg_Vpf1 cs_L_160 dL_law_1371 (m_fair hM1 hC.os scv_R) er202 rfl (Nat.le_of_ble_eq_true rfl) (by decide) ?_
  rintro z2 ⟨f2, hM2⟩
  refine eg_icmp_same 1687 dL_law_1374 rfl ?_
  exact lw_end H hS f1 hC1 f2 hM2 b1 b2
theorem lwc_35 {k : eg_K} {i : Int} {Q : eg_Q} {n : Nat} {z : eg_Z} {X : eg_M} {s : eg_S} {T : List Int} {g bc bs : Nat} (H : lwN k i Q) (h0 : 0 ≤ i) (h1 : i + 6 ≤ eg_sl k) (hl : eg_sl k ≤ 3072) (hC : IC z s) (hM : IM z s) (hS : SB k z X n T g) (b1 : 6 - g ≤ bc) (b2 : slG 6 - slG g ≤ bs) : eg_E k gL_law 10 bc bs n (enc k z X) [.ref (eg_sb k), vR k 0, vR k 202, vI i] [] 1379 Q := by
  refine eg_al_n dL_law_1379 rfl rfl ?_
  refine eg_al_n dL_law_1380 rfl rfl ?_
  refine eg_iload_n dL_law_1381 rfl ?_
  refine eg_iconst dL_law_1382 ?_
  refine eg_iadd dL_law_1383 ?_
  refine eg_sc dL_law_1384 (by omega) (by omega) (by omega) ?_
  refine eg_al_n dL_law_1385 rfl rfl ?_
  refine eg_iload_n dL_law_1386 rfl ?_
  refine eg_iconst dL_law_1387 ?_
  refine eg_iadd dL_law_1388 ?_
  refine eg_sc dL_law_1389 (by omega) (by omega) (by omega) ?_
  refine eg_al_n dL_law_1390 rfl rfl ?_
  refine eg_iload_n dL_law_1391 rfl ?_
  refine eg_iconst dL_law_1392 ?_
  refine eg_iadd dL_law_1393 ?_
  refine eg_sc dL_law_1394 (by omega) (by omega) (by omega) ?_
  refine eg_Vpf3 cs_L_161 dL_law_1395 (p_nearest hC scv_R scv_R scv_R) er0 rfl (Nat.le_of_ble_eq_true rfl) (by decide) ?_
  rintro z1 ⟨f1, hC1⟩
  have hM1 := IM_o (fun c hc => f1 c (by omega)) hM
  refine eg_al_n dL_law_1398 rfl rfl ?_
  refine eg_al_n dL_law_1399 rfl rfl ?_
  refine eg_iload_n dL_law_1400 rfl ?_
  refine eg_iconst dL_law_1401 ?_
  refine eg_iadd dL_law_1402 ?_
  refine eg_sc dL_law_1403 (by omega) (by omega) (by omega) ?_
  refine eg_al_n dL_law_1404 rfl rfl ?_
  refine eg_iload_n dL_law_1405 rfl ?_
  refine eg_iconst dL_law_1406 ?_
  refine eg_iadd dL_law_1407 ?_
  refine eg_sc dL_law_1408 (by omega) (by omega) (by omega) ?_
  refine eg_al_n dL_law_1409 rfl rfl ?_
  refine eg_iload_n dL_law_1410 rfl ?_
  refine eg_iconst dL_law_1411 ?_
  refine eg_iadd dL_law_1412 ?_
  refine eg_sc dL_law_1413 (by omega) (by omega) (by omega) ?_
  refine eg_Vpf3 cs_L_164 dL_law_1414 (m_nearest hM1 hC.os scv_R scv_R scv_R) er202 rfl (Nat.le_of_ble_eq_true rfl) (by decide) ?_
  rintro z2 ⟨f2, hM2⟩
  refine eg_icmp_same 1687 dL_law_1417 rfl ?_
  exact lw_end H hS f1 hC1 f2 hM2 b1 b2
theorem lwc_36 {k : eg_K} {i : Int} {Q : eg_Q} {n : Nat} {z : eg_Z} {X : eg_M} {s : eg_S} {T : List Int} {g bc bs : Nat} (H : lwN k i Q) (h0 : 0 ≤ i) (h1 : i + 6 ≤ eg_sl k) (hl : eg_sl k ≤ 3072) (hC : IC z s) (hM : IM z s) (hS : SB k z X n T g) (b1 : 6 - g ≤ bc) (b2 : slG 6 - slG g ≤ bs) : eg_E k gL_law 10 bc bs n (enc k z X) [.ref (eg_sb k), vR k 0, vR k 202, vI i] [] 1422 Q := by
  refine eg_al_n dL_law_1422 rfl rfl ?_
  refine eg_al_n dL_law_1423 rfl rfl ?_
  refine eg_iload_n dL_law_1424 rfl ?_
  refine eg_iconst dL_law_1425 ?_
  refine eg_iadd dL_law_1426 ?_
  refine eg_sc dL_law_1427 (by omega) (by omega) (by omega) ?_
  refine eg_Vpf1 cs_L_165 dL_law_1428 (p_order hC scv_R) er0 rfl (Nat.le_of_ble_eq_true rfl) (by decide) ?_
  rintro z1 ⟨f1, hC1⟩
  have hM1 := IM_o (fun c hc => f1 c (by omega)) hM
  refine eg_al_n dL_law_1431 rfl rfl ?_
  refine eg_al_n dL_law_1432 rfl rfl ?_
  refine eg_iload_n dL_law_1433 rfl ?_
  refine eg_iconst dL_law_1434 ?_
  refine eg_iadd dL_law_1435 ?_
  refine eg_sc dL_law_1436 (by omega) (by omega) (by omega) ?_
  refine eg_Vpf1 cs_L_168 dL_law_1437 (m_order hM1 hC.os scv_R) er202 rfl (Nat.le_of_ble_eq_true rfl) (by decide) ?_
  rintro z2 ⟨f2, hM2⟩
  refine eg_icmp_same 1687 dL_law_1440 rfl ?_
  exact lw_end H hS f1 hC1 f2 hM2 b1 b2
theorem lwc_37 {k : eg_K} {i : Int} {Q : eg_Q} {n : Nat} {z : eg_Z} {X : eg_M} {s : eg_S} {T : List Int} {g bc bs : Nat} (H : lwN k i Q) (h0 : 0 ≤ i) (h1 : i + 6 ≤ eg_sl k) (hl : eg_sl k ≤ 3072) (hC : IC z s) (hM : IM z s) (hS : SB k z X n T g) (b1 : 6 - g ≤ bc) (b2 : slG 6 - slG g ≤ bs) : eg_E k gL_law 10 bc bs n (enc k z X) [.ref (eg_sb k), vR k 0, vR k 202, vI i] [] 1445 Q := by
  refine eg_al_n dL_law_1445 rfl rfl ?_
  refine eg_al_n dL_law_1446 rfl rfl ?_
  refine eg_iload_n dL_law_1447 rfl ?_
  refine eg_iconst dL_law_1448 ?_
  refine eg_iadd dL_law_1449 ?_
  refine eg_sc dL_law_1450 (by omega) (by omega) (by omega) ?_
  refine eg_Vpf1 cs_L_169 dL_law_1451 (p_blame hC scv_R) er0 rfl (Nat.le_of_ble_eq_true rfl) (by decide) ?_
  rintro z1 ⟨f1, hC1⟩
  have hM1 := IM_o (fun c hc => f1 c (by omega)) hM
  refine eg_al_n dL_law_1454 rfl rfl ?_
  refine eg_al_n dL_law_1455 rfl rfl ?_
  refine eg_iload_n dL_law_1456 rfl ?_
  refine eg_iconst dL_law_1457 ?_
  refine eg_iadd dL_law_1458 ?_
  refine eg_sc dL_law_1459 (by omega) (by omega) (by omega) ?_
  refine eg_Vpf1 cs_L_172 dL_law_1460 (m_blame hM1 hC.os scv_R) er202 rfl (Nat.le_of_ble_eq_true rfl) (by decide) ?_
  rintro z2 ⟨f2, hM2⟩
  refine eg_icmp_same 1687 dL_law_1463 rfl ?_
  exact lw_end H hS f1 hC1 f2 hM2 b1 b2
theorem lwc_38 {k : eg_K} {i : Int} {Q : eg_Q} {n : Nat} {z : eg_Z} {X : eg_M} {s : eg_S} {T : List Int} {g bc bs : Nat} (H : lwN k i Q) (h0 : 0 ≤ i) (h1 : i + 6 ≤ eg_sl k) (hl : eg_sl k ≤ 3072) (hC : IC z s) (hM : IM z s) (hS : SB k z X n T g) (b1 : 6 - g ≤ bc) (b2 : slG 6 - slG g ≤ bs) : eg_E k gL_law 10 bc bs n (enc k z X) [.ref (eg_sb k), vR k 0, vR k 202, vI i] [] 1468 Q := by
  refine eg_al_n dL_law_1468 rfl rfl ?_
  refine eg_al_n dL_law_1469 rfl rfl ?_
  refine eg_iload_n dL_law_1470 rfl ?_
  refine eg_iconst dL_law_1471 ?_
  refine eg_iadd dL_law_1472 ?_
  refine eg_sc dL_law_1473 (by omega) (by omega) (by omega) ?_
  refine eg_Vpf1 cs_L_173 dL_law_1474 (p_alone hC scv_R) er0 rfl (Nat.le_of_ble_eq_true rfl) (by decide) ?_
  rintro z1 ⟨f1, hC1⟩
  have hM1 := IM_o (fun c hc => f1 c (by omega)) hM
  refine eg_al_n dL_law_1477 rfl rfl ?_
  refine eg_al_n dL_law_1478 rfl rfl ?_
  refine eg_iload_n dL_law_1479 rfl ?_
  refine eg_iconst dL_law_1480 ?_
  refine eg_iadd dL_law_1481 ?_
  refine eg_sc dL_law_1482 (by omega) (by omega) (by omega) ?_
  refine eg_Vpf1 cs_L_176 dL_law_1483 (m_alone hM1 hC.os scv_R) er202 rfl (Nat.le_of_ble_eq_true rfl) (by decide) ?_
  rintro z2 ⟨f2, hM2⟩
  refine eg_icmp_same 1687 dL_law_1486 rfl ?_
  exact lw_end H hS f1 hC1 f2 hM2 b1 b2
theorem lwc_39 {k : eg_K} {i : Int} {Q : eg_Q} {n : Nat} {z : eg_Z} {X : eg_M} {s : eg_S} {T : List Int} {g bc bs : Nat} (H : lwN k i Q) (h0 : 0 ≤ i) (h1 : i + 6 ≤ eg_sl k) (hl : eg_sl k ≤ 3072) (hC : IC z s) (hM : IM z s) (hS : SB k z X n T g) (b1 : 6 - g ≤ bc) (b2 : slG 6 - slG g ≤ bs) : eg_E k gL_law 10 bc bs n (enc k z X) [.ref (eg_sb k), vR k 0, vR k 202, vI i] [] 1491 Q := by
  refine eg_al_n dL_law_1491 rfl rfl ?_
  refine eg_Vpf0 cs_L_177 dL_law_1492 (p_worst hC ) er0 rfl (Nat.le_of_ble_eq_true rfl) (by decide) ?_
  rintro z1 ⟨f1, hC1⟩
  have hM1 := IM_o (fun c hc => f1 c (by omega)) hM
  refine eg_al_n dL_law_1495 rfl rfl ?_
  refine eg_Vpf0 cs_L_180 dL_law_1496 (m_worst hM1 hC.os ) er202 rfl (Nat.le_of_ble_eq_true rfl) (by decide) ?_
  rintro z2 ⟨f2, hM2⟩
  refine eg_icmp_same 1687 dL_law_1499 rfl ?_
  exact lw_end H hS f1 hC1 f2 hM2 b1 b2
theorem lwc_40 {k : eg_K} {i : Int} {Q : eg_Q} {n : Nat} {z : eg_Z} {X : eg_M} {s : eg_S} {T : List Int} {g bc bs : Nat} (H : lwN k i Q) (h0 : 0 ≤ i) (h1 : i + 6 ≤ eg_sl k) (hl : eg_sl k ≤ 3072) (hC : IC z s) (hM : IM z s) (hS : SB k z X n T g) (b1 : 6 - g ≤ bc) (b2 : slG 6 - slG g ≤ bs) : eg_E k gL_law 10 bc bs n (enc k z X) [.ref (eg_sb k), vR k 0, vR k 202, vI i] [] 1504 Q := by
  refine eg_al_n dL_law_1504 rfl rfl ?_
  refine eg_al_n dL_law_1505 rfl rfl ?_
  refine eg_iload_n dL_law_1506 rfl ?_
  refine eg_iconst dL_law_1507 ?_
  refine eg_iadd dL_law_1508 ?_
  refine eg_sc dL_law_1509 (by omega) (by omega) (by omega) ?_
  refine eg_al_n dL_law_1510 rfl rfl ?_
  refine eg_iload_n dL_law_1511 rfl ?_
  refine eg_iconst dL_law_1512 ?_
  refine eg_iadd dL_law_1513 ?_
  refine eg_sc dL_law_1514 (by omega) (by omega) (by omega) ?_
  refine eg_Vpf2 cs_L_181 dL_law_1515 (p_net hC scv_R scv_R) er0 rfl (Nat.le_of_ble_eq_true rfl) (by decide) ?_
  rintro z1 ⟨f1, hC1⟩
  have hM1 := IM_o (fun c hc => f1 c (by omega)) hM
  refine eg_al_n dL_law_1518 rfl rfl ?_
  refine eg_al_n dL_law_1519 rfl rfl ?_
  refine eg_iload_n dL_law_1520 rfl ?_
  refine eg_iconst dL_law_1521 ?_
  refine eg_iadd dL_law_1522 ?_
  refine eg_sc dL_law_1523 (by omega) (by omega) (by omega) ?_
  refine eg_al_n dL_law_1524 rfl rfl ?_
  refine eg_iload_n dL_law_1525 rfl ?_
  refine eg_iconst dL_law_1526 ?_
  refine eg_iadd dL_law_1527 ?_
  refine eg_sc dL_law_1528 (by omega) (by omega) (by omega) ?_
  refine eg_Vpf2 cs_L_184 dL_law_1529 (m_net hM1 hC.os scv_R scv_R) er202 rfl (Nat.le_of_ble_eq_true rfl) (by decide) ?_
  rintro z2 ⟨f2, hM2⟩
  refine eg_icmp_same 1687 dL_law_1532 rfl ?_
  exact lw_end H hS f1 hC1 f2 hM2 b1 b2
theorem lwc_41 {k : eg_K} {i : Int} {Q : eg_Q} {n : Nat} {z : eg_Z} {X : eg_M} {s : eg_S} {T : List Int} {g bc bs : Nat} (H : lwN k i Q) (h0 : 0 ≤ i) (h1 : i + 6 ≤ eg_sl k) (hl : eg_sl k ≤ 3072) (hC : IC z s) (hM : IM z s) (hS : SB k z X n T g) (b1 : 6 - g ≤ bc) (b2 : slG 6 - slG g ≤ bs) : eg_E k gL_law 10 bc bs n (enc k z X) [.ref (eg_sb k), vR k 0, vR k 202, vI i] [] 1537 Q := by
  refine eg_al_n dL_law_1537 rfl rfl ?_
  refine eg_al_n dL_law_1538 rfl rfl ?_
  refine eg_iload_n dL_law_1539 rfl ?_
  refine eg_iconst dL_law_1540 ?_
  refine eg_iadd dL_law_1541 ?_
  refine eg_sc dL_law_1542 (by omega) (by omega) (by omega) ?_
  refine eg_al_n dL_law_1543 rfl rfl ?_
  refine eg_iload_n dL_law_1544 rfl ?_
  refine eg_iconst dL_law_1545 ?_
  refine eg_iadd dL_law_1546 ?_
  refine eg_sc dL_law_1547 (by omega) (by omega) (by omega) ?_
  refine eg_Vpf2 cs_L_185 dL_law_1548 (p_cash hC scv_R scv_R) er0 rfl (Nat.le_of_ble_eq_true rfl) (by decide) ?_
  rintro z1 ⟨f1, hC1⟩
  have hM1 := IM_o (fun c hc => f1 c (by omega)) hM
  refine eg_al_n dL_law_1551 rfl rfl ?_
  refine eg_al_n dL_law_1552 rfl rfl ?_
  refine eg_iload_n dL_law_1553 rfl ?_
  refine eg_iconst dL_law_1554 ?_
  refine eg_iadd dL_law_1555 ?_
  refine eg_sc dL_law_1556 (by omega) (by omega) (by omega) ?_
  refine eg_al_n dL_law_1557 rfl rfl ?_
  refine eg_iload_n dL_law_1558 rfl ?_
  refine eg_iconst dL_law_1559 ?_
  refine eg_iadd dL_law_1560 ?_
  refine eg_sc dL_law_1561 (by omega) (by omega) (by omega) ?_
  refine eg_Vpf2 cs_L_188 dL_law_1562 (m_cash hM1 hC.os scv_R scv_R) er202 rfl (Nat.le_of_ble_eq_true rfl) (by decide) ?_
  rintro z2 ⟨f2, hM2⟩
  refine eg_lc_same 1687 dL_law_1565 dL_law_1566 rfl ?_
  exact lw_end H hS f1 hC1 f2 hM2 b1 b2
theorem lwc_42 {k : eg_K} {i : Int} {Q : eg_Q} {n : Nat} {z : eg_Z} {X : eg_M} {s : eg_S} {T : List Int} {g bc bs : Nat} (H : lwN k i Q) (h0 : 0 ≤ i) (h1 : i + 6 ≤ eg_sl k) (hl : eg_sl k ≤ 3072) (hC : IC z s) (hM : IM z s) (hS : SB k z X n T g) (b1 : 6 - g ≤ bc) (b2 : slG 6 - slG g ≤ bs) : eg_E k gL_law 10 bc bs n (enc k z X) [.ref (eg_sb k), vR k 0, vR k 202, vI i] [] 1571 Q := by
  refine eg_al_n dL_law_1571 rfl rfl ?_
  refine eg_al_n dL_law_1572 rfl rfl ?_
  refine eg_iload_n dL_law_1573 rfl ?_
  refine eg_iconst dL_law_1574 ?_
  refine eg_iadd dL_law_1575 ?_
  refine eg_sc dL_law_1576 (by omega) (by omega) (by omega) ?_
  refine eg_Vpf1 cs_L_189 dL_law_1577 (p_part hC scv_R) er0 rfl (Nat.le_of_ble_eq_true rfl) (by decide) ?_
  rintro z1 ⟨f1, hC1⟩
  have hM1 := IM_o (fun c hc => f1 c (by omega)) hM
  refine eg_al_n dL_law_1580 rfl rfl ?_
  refine eg_al_n dL_law_1581 rfl rfl ?_
  refine eg_iload_n dL_law_1582 rfl ?_
  refine eg_iconst dL_law_1583 ?_
  refine eg_iadd dL_law_1584 ?_
  refine eg_sc dL_law_1585 (by omega) (by omega) (by omega) ?_
  refine eg_Vpf1 cs_L_192 dL_law_1586 (m_part hM1 hC.os scv_R) er202 rfl (Nat.le_of_ble_eq_true rfl) (by decide) ?_
  rintro z2 ⟨f2, hM2⟩
  refine eg_icmp_same 1687 dL_law_1589 rfl ?_
  exact lw_end H hS f1 hC1 f2 hM2 b1 b2
theorem lwc_43 {k : eg_K} {i : Int} {Q : eg_Q} {n : Nat} {z : eg_Z} {X : eg_M} {s : eg_S} {T : List Int} {g bc bs : Nat} (H : lwN k i Q) (h0 : 0 ≤ i) (h1 : i + 6 ≤ eg_sl k) (hl : eg_sl k ≤ 3072) (hC : IC z s) (hM : IM z s) (hS : SB k z X n T g) (b1 : 6 - g ≤ bc) (b2 : slG 6 - slG g ≤ bs) : eg_E k gL_law 10 bc bs n (enc k z X) [.ref (eg_sb k), vR k 0, vR k 202, vI i] [] 1594 Q := by
  refine eg_al_n dL_law_1594 rfl rfl ?_
  refine eg_al_n dL_law_1595 rfl rfl ?_
  refine eg_iload_n dL_law_1596 rfl ?_
  refine eg_iconst dL_law_1597 ?_
  refine eg_iadd dL_law_1598 ?_
  refine eg_sc dL_law_1599 (by omega) (by omega) (by omega) ?_
  refine eg_Vpf1 cs_L_193 dL_law_1600 (p_total hC scv_R) er0 rfl (Nat.le_of_ble_eq_true rfl) (by decide) ?_
  rintro z1 ⟨f1, hC1⟩
  have hM1 := IM_o (fun c hc => f1 c (by omega)) hM
  refine eg_al_n dL_law_1603 rfl rfl ?_
  refine eg_al_n dL_law_1604 rfl rfl ?_
  refine eg_iload_n dL_law_1605 rfl ?_
  refine eg_iconst dL_law_1606 ?_
  refine eg_iadd dL_law_1607 ?_
  refine eg_sc dL_law_1608 (by omega) (by omega) (by omega) ?_
  refine eg_Vpf1 cs_L_197 dL_law_1609 (m_total hM1 hC.os scv_R) er202 rfl (Nat.le_of_ble_eq_true rfl) (by decide) ?_
  rintro z2 ⟨f2, hM2⟩
  refine eg_lc_same 1687 dL_law_1612 dL_law_1613 rfl ?_
  exact lw_end H hS f1 hC1 f2 hM2 b1 b2
theorem lwc_44 {k : eg_K} {i : Int} {Q : eg_Q} {n : Nat} {z : eg_Z} {X : eg_M} {s : eg_S} {T : List Int} {g bc bs : Nat} (H : lwN k i Q) (h0 : 0 ≤ i) (h1 : i + 6 ≤ eg_sl k) (hl : eg_sl k ≤ 3072) (hC : IC z s) (hM : IM z s) (hS : SB k z X n T g) (b1 : 6 - g ≤ bc) (b2 : slG 6 - slG g ≤ bs) : eg_E k gL_law 10 bc bs n (enc k z X) [.ref (eg_sb k), vR k 0, vR k 202, vI i] [] 1618 Q := by
  refine eg_al_n dL_law_1618 rfl rfl ?_
  refine eg_al_n dL_law_1619 rfl rfl ?_
  refine eg_iload_n dL_law_1620 rfl ?_
  refine eg_iconst dL_law_1621 ?_
  refine eg_iadd dL_law_1622 ?_
  refine eg_sc dL_law_1623 (by omega) (by omega) (by omega) ?_
  refine eg_Vpf1 cs_L_198 dL_law_1624 (p_price hC scv_R) er0 rfl (Nat.le_of_ble_eq_true rfl) (by decide) ?_
  rintro z1 ⟨f1, hC1⟩
  have hM1 := IM_o (fun c hc => f1 c (by omega)) hM
  refine eg_al_n dL_law_1627 rfl rfl ?_
  refine eg_al_n dL_law_1628 rfl rfl ?_
  refine eg_iload_n dL_law_1629 rfl ?_
  refine eg_iconst dL_law_1630 ?_
  refine eg_iadd dL_law_1631 ?_
  refine eg_sc dL_law_1632 (by omega) (by omega) (by omega) ?_
  refine eg_Vpf1 cs_L_201 dL_law_1633 (m_price hM1 hC.os scv_R) er202 rfl (Nat.le_of_ble_eq_true rfl) (by decide) ?_
  rintro z2 ⟨f2, hM2⟩
  refine eg_icmp_same 1687 dL_law_1636 rfl ?_
  exact lw_end H hS f1 hC1 f2 hM2 b1 b2
theorem lwc_46 {k : eg_K} {i : Int} {Q : eg_Q} {n : Nat} {z : eg_Z} {X : eg_M} {s : eg_S} {T : List Int} {g bc bs : Nat} (H : lwN k i Q) (h0 : 0 ≤ i) (h1 : i + 6 ≤ eg_sl k) (hl : eg_sl k ≤ 3072) (hC : IC z s) (hM : IM z s) (hS : SB k z X n T g) (b1 : 6 - g ≤ bc) (b2 : slG 6 - slG g ≤ bs) : eg_E k gL_law 10 bc bs n (enc k z X) [.ref (eg_sb k), vR k 0, vR k 202, vI i] [] 1664 Q := by
  refine eg_al_n dL_law_1664 rfl rfl ?_
  refine eg_al_n dL_law_1665 rfl rfl ?_
  refine eg_iload_n dL_law_1666 rfl ?_
  refine eg_iconst dL_law_1667 ?_
  refine eg_iadd dL_law_1668 ?_
  refine eg_sc dL_law_1669 (by omega) (by omega) (by omega) ?_
  refine eg_Vpf1 cs_L_206 dL_law_1670 (p_count hC scv_R) er0 rfl (Nat.le_of_ble_eq_true rfl) (by decide) ?_
  rintro z1 ⟨f1, hC1⟩
  have hM1 := IM_o (fun c hc => f1 c (by omega)) hM
  refine eg_al_n dL_law_1673 rfl rfl ?_
  refine eg_al_n dL_law_1674 rfl rfl ?_
  refine eg_iload_n dL_law_1675 rfl ?_
  refine eg_iconst dL_law_1676 ?_
  refine eg_iadd dL_law_1677 ?_
  refine eg_sc dL_law_1678 (by omega) (by omega) (by omega) ?_
  refine eg_Vpf1 cs_L_209 dL_law_1679 (m_count hM1 hC.os scv_R) er202 rfl (Nat.le_of_ble_eq_true rfl) (by decide) ?_
  rintro z2 ⟨f2, hM2⟩
  refine eg_icmp_same 1687 dL_law_1682 rfl ?_
  exact lw_end H hS f1 hC1 f2 hM2 b1 b2
