def vV (k : eg_K) (i : Nat) : Value := .ref (eg_sV k i)
theorem eg_ro {k : eg_K} {n t : Nat} {M : eg_M} {H : Heap} {cell : Cell} (hW : eg_W k n M H) (h : (eg_H k)[t]? = some cell) (hu : ¬ eg_Up k t) : H[t]? = some cell := by
  rw [hW.2.1 t (by unfold eg_Up at hu; omega)]
  exact h
theorem eg_sgv {k : eg_K} {g : eg_G} {d bc bs n : Nat} {M : eg_M} {ls st : List Value} {pc : Nat} {Q : eg_Q} {i idx : Nat} (hi : i < 35) (hw : Cond.fieldLink g.1.cls idx "java/lang/String" "value" "[B" ∈ eg_T) (hd : decode g.2.1 pc = .ok (.getfield idx, 3)) (h : eg_E k g d bc bs n M ls (vV k i :: st) (pc + 3) Q) : eg_E k g d bc bs n M ls (vS k i :: st) pc Q := by
  intro p e R s m args below meth c H locs cells slots sl Z C hW hz hl hL hc hs hR
  obtain ⟨cf, kk, fi, f, cell, h1, h2, h3, h4, h5, h6⟩ := (C.2.2.2.2.2.2.1.2.2.1 i hi).2.2.1
  exact W.getf C.1 C.2.1 C.2.2.2.2.1 (C.2.2.2.2.2.1 _ hw) h1 h2 (eg_ro hW h3 h6) h4 h5 rfl rfl hd (h p e R s m args below meth c H locs cells slots sl Z C hW hz hl hL hc hs hR)
theorem eg_sgc {k : eg_K} {g : eg_G} {d bc bs n : Nat} {M : eg_M} {ls st : List Value} {pc : Nat} {Q : eg_Q} {i idx : Nat} (hi : i < 35) (hw : Cond.fieldLink g.1.cls idx "java/lang/String" "coder" "B" ∈ eg_T) (hd : decode g.2.1 pc = .ok (.getfield idx, 3)) (h : eg_E k g d bc bs n M ls (vI 0 :: st) (pc + 3) Q) : eg_E k g d bc bs n M ls (vS k i :: st) pc Q := by
  intro p e R s m args below meth c H locs cells slots sl Z C hW hz hl hL hc hs hR
  obtain ⟨cf, kk, fi, f, cell, h1, h2, h3, h4, h5, h6⟩ := (C.2.2.2.2.2.2.1.2.2.1 i hi).2.1
  exact W.getf C.1 C.2.1 C.2.2.2.2.1 (C.2.2.2.2.2.1 _ hw) h1 h2 (eg_ro hW h3 h6) h4 h5 rfl rfl hd (h p e R s m args below meth c H locs cells slots sl Z C hW hz hl hL hc hs hR)
theorem nat32 (m : Nat) : Int32.ofNat m = Int32.ofInt (m : Int) := rfl
theorem eg_slen {k : eg_K} {g : eg_G} {d bc bs n : Nat} {M : eg_M} {ls st : List Value} {pc : Nat} {Q : eg_Q} {i : Nat} (hi : i < 35) (hd : decode g.2.1 pc = .ok (.arraylength, 1)) (h : eg_E k g d bc bs n M ls (vI ((eg_tx i).length : Int) :: st) (pc + 1) Q) : eg_E k g d bc bs n M ls (vV k i :: st) pc Q := by
  intro p e R s m args below meth c H locs cells slots sl Z C hW hz hl hL hc hs hR
  obtain ⟨cell, h1, h2, h3, h4, h5, h6, h7⟩ := (C.2.2.2.2.2.2.1.2.2.1 i hi).2.2.2.1
  exact W.alen (n := Int32.ofNat (eg_tx i).length) C.1 C.2.1 (eg_ro hW h1 h7) h2 h5 rfl rfl hd (h p e R s m args below meth c H locs cells slots sl Z C hW hz hl hL hc hs hR)
theorem eg_sald {k : eg_K} {g : eg_G} {d bc bs n : Nat} {M : eg_M} {ls st : List Value} {pc : Nat} {Q : eg_Q} {i : Nat} {x : Int} (hi : i < 35) (h0 : 0 ≤ x) (h1 : x < (eg_tx i).length) (h2 : (eg_tx i).length ≤ 65536) (hd : decode g.2.1 pc = .ok (.baload, 1)) (h : eg_E k g d bc bs n M ls (vI ((eg_tx i).getD x.toNat 0) :: st) (pc + 1) Q) : eg_E k g d bc bs n M ls (vI x :: vV k i :: st) pc Q := by
  intro p e R s m args below meth c H locs cells slots sl Z C hW hz hl hL hc hs hR
  obtain ⟨cell, g1, g2, g3, g4, g5, g6, g7⟩ := (C.2.2.2.2.2.2.1.2.2.1 i hi).2.2.2.1
  have e1 : (Int32.ofInt x).toNatClampNeg = x.toNat := i_nat h0 h1 h2
  have hin := i_in h0 h1 h2
  have e2 : ¬ (Int32.ofInt x < 0 ∨ cell.slots.size ≤ (Int32.ofInt x).toNatClampNeg) := by
    intro q
    rcases q with q | q
    · exact hin (Or.inl q)
    · rw [e1] at q; omega
  exact W.bald (v := vI ((eg_tx i).getD x.toNat 0)) C.1 C.2.1 (eg_ro hW g1 g7) g2 g3 e2 (by rw [e1]; exact g6 _ (by omega)) rfl rfl hd (h p e R s m args below meth c H locs cells slots sl Z C hW hz hl hL hc hs hR)
theorem eg_gst {k : eg_K} {g : eg_G} {d bc bs n : Nat} {M : eg_M} {ls st : List Value} {pc : Nat} {Q : eg_Q} {Cn nm de : String} {idx : Nat} {v : Value} (hZ : ∀ s, eg_V k s → va_Z Cn nm de v (eg_Up k) s (eg_H k)) (hw : Cond.fieldLink g.1.cls idx Cn nm de ∈ eg_T) (hd : decode g.2.1 pc = .ok (.getstatic idx, 3)) (h : eg_E k g d bc bs n M ls (v :: st) (pc + 3) Q) : eg_E k g d bc bs n M ls st pc Q := by
  intro p e R s m args below meth c H locs cells slots sl Z C hW hz hl hL hc hs hR
  obtain ⟨cf, kf, fi, f, a, cell, h1, h2, h3, h4, h5, h6, h7, h8⟩ := hZ s C.2.2.2.2.2.2.1
  exact W.gets C.1 C.2.1 C.2.2.2.2.1 (C.2.2.2.2.2.1 _ hw) h1 h2 h3 h4 (eg_ro hW h5 h8) (fun e => by rw [e] at h6; cases h6) h7 rfl hd (h p e R s m args below meth c H locs cells slots sl Z C hW hz hl hL hc hs hR)
theorem eg_gcs {k : eg_K} {g : eg_G} {d bc bs n : Nat} {M : eg_M} {ls st : List Value} {pc : Nat} {Q : eg_Q} {idx : Nat} (hw : Cond.fieldLink g.1.cls idx "java/lang/String" "COMPACT_STRINGS" "Z" ∈ eg_T) (hd : decode g.2.1 pc = .ok (.getstatic idx, 3)) (h : eg_E k g d bc bs n M ls (vI 1 :: st) (pc + 3) Q) : eg_E k g d bc bs n M ls st pc Q := eg_gst (v := vI 1) (fun s V => V.2.2.2.1.1) hw hd h
theorem eg_gsi {k : eg_K} {g : eg_G} {d bc bs n : Nat} {M : eg_M} {ls st : List Value} {pc : Nat} {Q : eg_Q} {idx : Nat} (hw : Cond.fieldLink g.1.cls idx "jdk/internal/util/Preconditions" "SIOOBE_FORMATTER" "Ljava/util/function/BiFunction;" ∈ eg_T) (hd : decode g.2.1 pc = .ok (.getstatic idx, 3)) (h : ∀ w : Value, (w = .null ∨ ∃ t, w = .ref t) → eg_E k g d bc bs n M ls (w :: st) (pc + 3) Q) : eg_E k g d bc bs n M ls st pc Q := by
  intro p e R s m args below meth c H locs cells slots sl Z C hW hz hl hL hc hs hR
  rcases C.2.2.2.2.2.2.1.2.2.2.1.2.1 with hz1 | ⟨t, hz1⟩
  · obtain ⟨cf, kf, fi, f, a, cell, h1, h2, h3, h4, h5, h6, h7, h8⟩ := hz1
    exact W.gets C.1 C.2.1 C.2.2.2.2.1 (C.2.2.2.2.2.1 _ hw) h1 h2 h3 h4 (eg_ro hW h5 h8) (fun e => by rw [e] at h6; cases h6) h7 rfl hd (h _ (Or.inl rfl) p e R s m args below meth c H locs cells slots sl Z C hW hz hl hL hc hs hR)
  · obtain ⟨cf, kf, fi, f, a, cell, h1, h2, h3, h4, h5, h6, h7, h8⟩ := hz1
    exact W.gets C.1 C.2.1 C.2.2.2.2.1 (C.2.2.2.2.2.1 _ hw) h1 h2 h3 h4 (eg_ro hW h5 h8) (fun e => by rw [e] at h6; cases h6) h7 rfl hd (h _ (Or.inr ⟨t, rfl⟩) p e R s m args below meth c H locs cells slots sl Z C hW hz hl hL hc hs hR)
theorem eg_cVS {k : eg_K} {g : eg_G} {d bc bs n : Nat} {M : eg_M} {ls st : List Value} {pc : Nat} {Q : eg_Q} {g' : eg_G} {idx np d' mc ms bc' bs' : Nat} {As : List Value} {i : Nat} {Q' : eg_Q} (hi : i < 35) (hx : eg_cv g.1.cls idx g' np) (hcl : g'.1.cls = "java/lang/String") (hd : decode g.2.1 pc = .ok (.invokevirtual idx, 3)) (hp : eg_P k g' d' mc ms (vS k i :: As) n M Q') (hn : As.length = np) (hst : (st.map fun v => v.category).sum ≤ 8) (hdd : d' + 1 ≤ d) (hbc : bc = mc + bc') (hbs : bs = ms + bs') (h : ∀ r n' M', Q' r n' M' → eg_E k g d bc' bs' n' M' ls (r.toList ++ st) (pc + 3) Q) : eg_E k g d bc bs n M ls (As.reverse ++ vS k i :: st) pc Q := by
  intro p e R s m args below meth c H locs cells slots sl Z C hW hz hl hL hc hs hR
  obtain ⟨hm, hlk, hin, hse⟩ := hx
  subst hbc; subst hbs
  have hts := C.2.2.2.2.2.1
  have hV := C.2.2.2.2.2.2.1
  have hc9 : cells + mc ≤ R.cells := by omega
  have hs9 : slots + ms ≤ R.slots := by omega
  have hrv : ∃ cell : Cell, H[eg_sK k i]? = some cell ∧ cell.vm.isStatics = false ∧ s.vm.findClass g'.1.cls = some cell.cls := by
    obtain ⟨cell, h1, h2, h3, h4⟩ := (hV.2.2.1 i hi).1
    rw [hcl]
    exact ⟨cell, eg_ro hW h1 h4, h2, h3⟩
  refine eg_back (g := g) (d := d) (va_runV ⟨C.1, C.2.1, C.2.2.1, C.2.2.2.2.1, hts⟩ hp ⟨eg_callB C hm hlk hdd, hts _ hin, hts _ hse⟩ ⟨eg_blind, hrv, eg_start hV hW⟩ rfl hn (hL.2.1) rfl (lv_room hst) hd ⟨hc9, hs9⟩) hl (fun r n' M' H1 locs1 hq hw hz1 hl1 => ?_)
  refine h r n' M' hq p e R s m args below meth c H1 locs1 (cells + mc) (slots + ms) sl Z C hw (Nat.le_trans hz hz1) hl1 hL (by omega) (by omega) ?_
  have e1 : cells + mc + bc' = cells + (mc + bc') := by omega
  have e2 : slots + ms + bs' = slots + (ms + bs') := by omega
  rw [e1, e2]
  exact hR
theorem eg_VSf0 {k : eg_K} {g : eg_G} {d bc bs n : Nat} {M : eg_M} {ls st : List Value} {pc : Nat} {Q : eg_Q} {g' : eg_G} {idx d' n' : Nat} {M' : eg_M} {i : Nat} {r : Value} (hi : i < 35) (hx : eg_cv g.1.cls idx g' 0) (hcl : g'.1.cls = "java/lang/String") (hd : decode g.2.1 pc = .ok (.invokevirtual idx, 3)) (hp : eg_P k g' d' 0 0 [vS k i] n M (eg_f (some r) n' M')) (hst : (st.map fun v => v.category).sum ≤ 8) (hdd : d' + 1 ≤ d) (h : eg_E k g d bc bs n' M' ls (r :: st) (pc + 3) Q) : eg_E k g d bc bs n M ls (vS k i :: st) pc Q :=
  eg_cVS (As := []) hi hx hcl hd hp rfl hst hdd (Nat.zero_add bc).symm (Nat.zero_add bs).symm (fun a b c ⟨e1, e2, e3⟩ => by subst e1; subst e2; subst e3; exact h)
theorem eg_VSf1 {k : eg_K} {g : eg_G} {d bc bs n : Nat} {M : eg_M} {ls st : List Value} {pc : Nat} {Q : eg_Q} {g' : eg_G} {idx d' n' : Nat} {M' : eg_M} {i : Nat} {r a0 : Value} (hi : i < 35) (hx : eg_cv g.1.cls idx g' 1) (hcl : g'.1.cls = "java/lang/String") (hd : decode g.2.1 pc = .ok (.invokevirtual idx, 3)) (hp : eg_P k g' d' 0 0 [vS k i, a0] n M (eg_f (some r) n' M')) (hst : (st.map fun v => v.category).sum ≤ 8) (hdd : d' + 1 ≤ d) (h : eg_E k g d bc bs n' M' ls (r :: st) (pc + 3) Q) : eg_E k g d bc bs n M ls (a0 :: vS k i :: st) pc Q :=
  eg_cVS (As := [a0]) hi hx hcl hd hp rfl hst hdd (Nat.zero_add bc).symm (Nat.zero_add bs).symm (fun a b c ⟨e1, e2, e3⟩ => by subst e1; subst e2; subst e3; exact h)
theorem i2c_e {x : Int} (h0 : 0 ≤ x) (h1 : x < 65536) : ((Int32.ofInt x).toUInt32 % 65536).toInt32 = Int32.ofInt x := by
  have e2 : (Int32.ofInt x).toUInt32.toNat = x.toNat := by
    show (BitVec.ofInt 32 x).toNat = _
    rw [BitVec.toNat_ofInt]
    omega
  have e3 : (Int32.ofInt x).toUInt32 % 65536 = (Int32.ofInt x).toUInt32 := by
    rw [← UInt32.toNat_inj, UInt32.toNat_mod, e2]
    show x.toNat % 65536 = _
    omega
  rw [e3]
  rfl
theorem eg_i2c {k : eg_K} {g : eg_G} {d bc bs n : Nat} {M : eg_M} {ls st : List Value} {pc : Nat} {Q : eg_Q} {x : Int} (hd : decode g.2.1 pc = .ok (.i2c, 1)) (h0 : 0 ≤ x) (h1 : x < 65536) (h : eg_E k g d bc bs n M ls (vI x :: st) (pc + 1) Q) : eg_E k g d bc bs n M ls (vI x :: st) pc Q := by
  intro p e R s m args below meth c H locs cells slots sl Z C hW hz hl hL hc hs hR
  exact lv_i2c C.1 C.2.1 hd (i2c_e h0 h1) (h p e R s m args below meth c H locs cells slots sl Z C hW hz hl hL hc hs hR)
theorem nar_c {x : Int} (h0 : 0 ≤ x) (h1 : x < 65536) : narrow .char (vI x) = vI x := by
  have e2 : (Int32.ofInt x).toUInt32.toNat = x.toNat := by
    show (BitVec.ofInt 32 x).toNat = _
    rw [BitVec.toNat_ofInt]
    omega
  show Value.int (Int32.ofInt x).toUInt32.toUInt16.toUInt32.toInt32 = Value.int (Int32.ofInt x)
  have e3 : (Int32.ofInt x).toUInt32.toUInt16.toUInt32 = (Int32.ofInt x).toUInt32 := by
    rw [← UInt32.toNat_inj]
    show (Int32.ofInt x).toUInt32.toNat % 65536 = _
    rw [e2]
    omega
  rw [e3]
  rfl
theorem tx_b : ∀ i, i < 35 → (eg_tx i).length ≤ 8 ∧ ((eg_tx i).all (fun c => decide (0 ≤ c ∧ c < 128))) = true := by decide +kernel
theorem tx_c {i j : Nat} (hi : i < 35) : 0 ≤ (eg_tx i).getD j 0 ∧ (eg_tx i).getD j 0 < 128 := by
  by_cases e : j < (eg_tx i).length
  · have h := List.all_eq_true.mp (tx_b i hi).2 ((eg_tx i).getD j 0) (by rw [List.getD_eq_getElem?_getD, List.getElem?_eq_getElem e, Option.getD_some]; exact List.getElem_mem e)
    exact of_decide_eq_true h
  · rw [List.getD_eq_getElem?_getD, List.getElem?_eq_none (by omega), Option.getD_none]; decide
theorem fw_J0_9 : Cond.fieldLink "java/lang/String" 9 "java/lang/String" "value" "[B" ∈ eg_T := (eg_in 1924 (by decide +kernel) (by decide +kernel))
theorem fw_J0_15 : Cond.fieldLink "java/lang/String" 15 "java/lang/String" "coder" "B" ∈ eg_T := (eg_in 1925 (by decide +kernel) (by decide +kernel))
theorem fw_J0_38 : Cond.fieldLink "java/lang/String" 38 "java/lang/String" "COMPACT_STRINGS" "Z" ∈ eg_T := (eg_in 491 (by decide +kernel) (by decide +kernel))
theorem fw_J0_1053 : Cond.fieldLink "java/lang/String" 1053 "jdk/internal/util/Preconditions" "SIOOBE_FORMATTER" "Ljava/util/function/BiFunction;" ∈ eg_T := (eg_in 506 (by decide +kernel) (by decide +kernel))
theorem fw_J5_18 : Cond.fieldLink "java/lang/AbstractStringBuilder" 18 "java/lang/String" "COMPACT_STRINGS" "Z" ∈ eg_T := (eg_in 353 (by decide +kernel) (by decide +kernel))
theorem fw_J6_83 : Cond.fieldLink "java/lang/Integer" 83 "java/lang/Integer" "DigitOnes" "[B" ∈ eg_T := (eg_in 1251 (by decide +kernel) (by decide +kernel))
theorem fw_J6_87 : Cond.fieldLink "java/lang/Integer" 87 "java/lang/Integer" "DigitTens" "[B" ∈ eg_T := (eg_in 1253 (by decide +kernel) (by decide +kernel))
theorem c_coder {k : eg_K} {M : eg_M} {n : Nat} {i : Nat} (hi : i < 35) : eg_P k gJ0_coder_7d493 0 0 0 [vS k i] n M (eg_f (some (vI 0)) n M) := by
  refine eg_P.of (by decide) (Nat.le_of_ble_eq_true rfl) ?_
  show eg_E k gJ0_coder_7d493 0 0 0 n M [vS k i] [] 0 _
  refine eg_gcs fw_J0_38 dJ0_coder_7d493_0 ?_
  refine eg_if_eq 13 dJ0_coder_7d493_3 ⟨by decide, by decide⟩ rfl (fun h => absurd h (by decide)) (fun _ => ?_)
  refine eg_al_n dJ0_coder_7d493_6 rfl rfl ?_
  refine eg_sgc hi fw_J0_15 dJ0_coder_7d493_7 ?_
  refine eg_goto 14 dJ0_coder_7d493_10 rfl ?_
  refine eg_ireturn dJ0_coder_7d493_14 rfl rfl ?_
  exact ⟨rfl, rfl, rfl⟩
theorem c_length {k : eg_K} {M : eg_M} {n : Nat} {i : Nat} (hi : i < 35) : eg_P k gJ0_length_8abf5 1 0 0 [vS k i] n M (eg_f (some (vI ((eg_tx i).length : Int))) n M) := by
  refine eg_P.of (by decide) (Nat.le_of_ble_eq_true rfl) ?_
  show eg_E k gJ0_length_8abf5 1 0 0 n M [vS k i] [] 0 _
  have tb := (tx_b i hi).1
  refine eg_al_n dJ0_length_8abf5_0 rfl rfl ?_
  refine eg_sgv hi fw_J0_9 dJ0_length_8abf5_1 ?_
  refine eg_slen hi dJ0_length_8abf5_4 ?_
  refine eg_al_n dJ0_length_8abf5_5 rfl rfl ?_
  refine eg_VSf0 hi cs_J0_335 rfl dJ0_length_8abf5_6 (c_coder hi) (Nat.le_of_ble_eq_true rfl) (by decide) ?_
  refine eg_ishr (j := 0) dJ0_length_8abf5_9 ⟨by omega, by omega⟩ (by decide) ?_
  refine eg_eqI (y := ((eg_tx i).length : Int)) (by rw [Int.pow_zero, Int.ediv_one]) ?_
  refine eg_ireturn dJ0_length_8abf5_10 rfl rfl ?_
  exact ⟨rfl, rfl, rfl⟩
theorem c_isLatin1 {k : eg_K} {M : eg_M} {n : Nat} {i : Nat} (hi : i < 35) : eg_P k gJ0_isLatin1_aae02 0 0 0 [vS k i] n M (eg_f (some (vI 1)) n M) := by
  refine eg_P.of (by decide) (Nat.le_of_ble_eq_true rfl) ?_
  show eg_E k gJ0_isLatin1_aae02 0 0 0 n M [vS k i] [] 0 _
  refine eg_gcs fw_J0_38 dJ0_isLatin1_aae02_0 ?_
  refine eg_if_eq 17 dJ0_isLatin1_aae02_3 ⟨by decide, by decide⟩ rfl (fun h => absurd h (by decide)) (fun _ => ?_)
  refine eg_al_n dJ0_isLatin1_aae02_6 rfl rfl ?_
  refine eg_sgc hi fw_J0_15 dJ0_isLatin1_aae02_7 ?_
  refine eg_if_ne 17 dJ0_isLatin1_aae02_10 ⟨by decide, by decide⟩ rfl (fun h => absurd rfl h) (fun _ => ?_)
  refine eg_iconst dJ0_isLatin1_aae02_13 ?_
  refine eg_goto 18 dJ0_isLatin1_aae02_14 rfl ?_
  refine eg_ireturn dJ0_isLatin1_aae02_18 rfl rfl ?_
  exact ⟨rfl, rfl, rfl⟩
theorem c_J3_checkIndex {k : eg_K} {M : eg_M} {n : Nat} {x y : Int} {w : Value} (hw : w = .null ∨ ∃ t, w = .ref t) (h0 : 0 ≤ x) (h1 : x < y) (h2 : y ≤ 100000) : eg_P k gJ3_checkIndex_8e157 0 0 0 [vI x, vI y, w] n M (eg_f (some (vI x)) n M) := by
  rcases hw with rfl | ⟨t, rfl⟩
  · refine eg_P.of (by decide) (Nat.le_of_ble_eq_true rfl) ?_
    show eg_E k gJ3_checkIndex_8e157 0 0 0 n M [vI x, vI y, .null] [] 0 _
    refine eg_iload_n dJ3_checkIndex_8e157_0 rfl ?_
    refine eg_if_lt 9 dJ3_checkIndex_8e157_1 ⟨by omega, by omega⟩ rfl (fun h => absurd h (by omega)) (fun _ => ?_)
    refine eg_iload_n dJ3_checkIndex_8e157_4 rfl ?_
    refine eg_iload_n dJ3_checkIndex_8e157_5 rfl ?_
    refine eg_icmp_lt 16 dJ3_checkIndex_8e157_6 ⟨by omega, by omega⟩ ⟨by omega, by omega⟩ rfl (fun _ => ?_) (fun h => absurd h1 (by omega))
    refine eg_iload_n dJ3_checkIndex_8e157_16 rfl ?_
    refine eg_ireturn dJ3_checkIndex_8e157_17 rfl rfl ?_
    exact ⟨rfl, rfl, rfl⟩
  · refine eg_P.of (by decide) (Nat.le_of_ble_eq_true rfl) ?_
    show eg_E k gJ3_checkIndex_8e157 0 0 0 n M [vI x, vI y, .ref t] [] 0 _
    refine eg_iload_n dJ3_checkIndex_8e157_0 rfl ?_
    refine eg_if_lt 9 dJ3_checkIndex_8e157_1 ⟨by omega, by omega⟩ rfl (fun h => absurd h (by omega)) (fun _ => ?_)
    refine eg_iload_n dJ3_checkIndex_8e157_4 rfl ?_
    refine eg_iload_n dJ3_checkIndex_8e157_5 rfl ?_
    refine eg_icmp_lt 16 dJ3_checkIndex_8e157_6 ⟨by omega, by omega⟩ ⟨by omega, by omega⟩ rfl (fun _ => ?_) (fun h => absurd h1 (by omega))
    refine eg_iload_n dJ3_checkIndex_8e157_16 rfl ?_
    refine eg_ireturn dJ3_checkIndex_8e157_17 rfl rfl ?_
    exact ⟨rfl, rfl, rfl⟩
theorem c_checkIndex {k : eg_K} {M : eg_M} {n : Nat} {x y : Int} (h0 : 0 ≤ x) (h1 : x < y) (h2 : y ≤ 100000) : eg_P k gJ0_checkIndex_df160 2 0 0 [vI x, vI y] n M (eg_f none n M) := by
  refine eg_P.of (by decide) (Nat.le_of_ble_eq_true rfl) ?_
  show eg_E k gJ0_checkIndex_df160 2 0 0 n M [vI x, vI y] [] 0 _
  refine eg_iload_n dJ0_checkIndex_df160_0 rfl ?_
  refine eg_iload_n dJ0_checkIndex_df160_1 rfl ?_
  refine eg_gsi fw_J0_1053 dJ0_checkIndex_df160_2 (fun w hw => ?_)
  refine eg_Sf3 cs_J0_1059 dJ0_checkIndex_df160_5 (c_J3_checkIndex hw h0 h1 h2) (Nat.le_of_ble_eq_true rfl) (by decide) ?_
  refine eg_pop dJ0_checkIndex_df160_8 rfl ?_
  refine eg_return dJ0_checkIndex_df160_9 rfl ?_
  exact ⟨rfl, rfl, rfl⟩
theorem c_J1_charAt {k : eg_K} {M : eg_M} {n : Nat} {i : Nat} {x : Int} (hi : i < 35) (h0 : 0 ≤ x) (h1 : x < (eg_tx i).length) : eg_P k gJ1_charAt_3b067 3 0 0 [vV k i, vI x] n M (eg_f (some (vI ((eg_tx i).getD x.toNat 0))) n M) := by
  refine eg_P.of (by decide) (Nat.le_of_ble_eq_true rfl) ?_
  show eg_E k gJ1_charAt_3b067 3 0 0 n M [vV k i, vI x] [] 0 _
  have tb := (tx_b i hi).1
  have tc9 := tx_c (i := i) (j := x.toNat) hi
  refine eg_iload_n dJ1_charAt_3b067_0 rfl ?_
  refine eg_al_n dJ1_charAt_3b067_1 rfl rfl ?_
  refine eg_slen hi dJ1_charAt_3b067_2 ?_
  refine eg_Sv2 cs_J1_9 dJ1_charAt_3b067_3 (c_checkIndex h0 h1 (by omega)) (Nat.le_of_ble_eq_true rfl) (by decide) ?_
  refine eg_al_n dJ1_charAt_3b067_6 rfl rfl ?_
  refine eg_iload_n dJ1_charAt_3b067_7 rfl ?_
  refine eg_sald hi h0 h1 (by omega) dJ1_charAt_3b067_8 ?_
  refine eg_sipush dJ1_charAt_3b067_9 (by decide) ?_
  refine eg_andM 8 dJ1_charAt_3b067_12 (by decide) (by decide) ?_
  refine eg_eqI (y := (eg_tx i).getD x.toNat 0) (by rw [show (2 : Int) ^ 8 = 256 from rfl]; omega) ?_
  refine eg_i2c dJ1_charAt_3b067_13 tc9.1 (by omega) ?_
  refine eg_ireturn dJ1_charAt_3b067_14 rfl (nar_c tc9.1 (by omega)) ?_
  exact ⟨rfl, rfl, rfl⟩
theorem c_charAt {k : eg_K} {M : eg_M} {n : Nat} {i : Nat} {x : Int} (hi : i < 35) (h0 : 0 ≤ x) (h1 : x < (eg_tx i).length) : eg_P k gJ0_charAt_5068e 5 0 0 [vS k i, vI x] n M (eg_f (some (vI ((eg_tx i).getD x.toNat 0))) n M) := by
  refine eg_P.of (by decide) (Nat.le_of_ble_eq_true rfl) ?_
  show eg_E k gJ0_charAt_5068e 5 0 0 n M [vS k i, vI x] [] 0 _
  have tc9 := tx_c (i := i) (j := x.toNat) hi
  refine eg_al_n dJ0_charAt_5068e_0 rfl rfl ?_
  refine eg_VSf0 hi cs_J0_492 rfl dJ0_charAt_5068e_1 (c_isLatin1 hi) (Nat.le_of_ble_eq_true rfl) (by decide) ?_
  refine eg_if_eq 16 dJ0_charAt_5068e_4 ⟨by decide, by decide⟩ rfl (fun h => absurd h (by decide)) (fun _ => ?_)
  refine eg_al_n dJ0_charAt_5068e_7 rfl rfl ?_
  refine eg_sgv hi fw_J0_9 dJ0_charAt_5068e_8 ?_
  refine eg_iload_n dJ0_charAt_5068e_11 rfl ?_
  refine eg_Sf2 cs_J0_495 dJ0_charAt_5068e_12 (c_J1_charAt hi h0 h1) (Nat.le_of_ble_eq_true rfl) (by decide) ?_
  refine eg_ireturn dJ0_charAt_5068e_15 rfl (nar_c tc9.1 (by omega)) ?_
  exact ⟨rfl, rfl, rfl⟩
