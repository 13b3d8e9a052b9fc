theorem eg_Ub0 {k : eg_K} {g : eg_G} {d bc bs n : Nat} {M : eg_M} {ls st : List Value} {pc : Nat} {Q : eg_Q} {g' : eg_G} {idx d' mc ms bc' bs' : Nat} {i : Nat} {r : Option Value} {P : Nat → eg_Z → eg_M → Prop} (hx : eg_cu g.1.cls idx g' 0) (hd : decode g.2.1 pc = .ok (.invokevirtual idx, 3)) (hp : eg_P k g' d' mc ms (vR k i :: []) n M (eg_b k r P)) {fs : List Value} (hM : M i = some (oO 0 fs)) (hst : (st.map fun v => v.category).sum ≤ 8) (hdd : d' + 1 ≤ d) (hbc : bc = mc + bc') (hbs : bs = ms + bs') (h : ∀ n' z' X', P n' z' X' → eg_E k g d bc' bs' n' (enc k z' X') ls (r.toList ++ st) (pc + 3) Q) : eg_E k g d bc bs n M ls (vR k i :: st) pc Q :=
  eg_cU (As := []) hx hd hp hM rfl hst hdd hbc hbs (fun a b c hq => by
    obtain ⟨rfl, z', X', rfl, hP⟩ := hq
    exact h b z' X' hP)
theorem eg_Ug0 {k : eg_K} {g : eg_G} {d bc bs n : Nat} {M : eg_M} {ls st : List Value} {pc : Nat} {Q : eg_Q} {g' : eg_G} {idx d' n' : Nat} {i : Nat} {r : Option Value} {M' : eg_M} (hx : eg_cu g.1.cls idx g' 0) (hd : decode g.2.1 pc = .ok (.invokevirtual idx, 3)) (hp : eg_P k g' d' 0 0 (vR k i :: []) n M (eg_f r n' M')) {fs : List Value} (hM : M i = some (oO 0 fs)) (hst : (st.map fun v => v.category).sum ≤ 8) (hdd : d' + 1 ≤ d) (h : eg_E k g d bc bs n' M' ls (r.toList ++ st) (pc + 3) Q) : eg_E k g d bc bs n M ls (vR k i :: st) pc Q :=
  eg_cU (As := []) hx hd hp hM rfl hst hdd (Nat.zero_add _).symm (Nat.zero_add _).symm (fun a b c hq => by
    obtain ⟨rfl, rfl, rfl⟩ := hq
    exact h)
theorem eg_Ub1 {k : eg_K} {g : eg_G} {d bc bs n : Nat} {M : eg_M} {ls st : List Value} {pc : Nat} {Q : eg_Q} {g' : eg_G} {idx d' mc ms bc' bs' : Nat} {a0 : Value} {i : Nat} {r : Option Value} {P : Nat → eg_Z → eg_M → Prop} (hx : eg_cu g.1.cls idx g' 1) (hd : decode g.2.1 pc = .ok (.invokevirtual idx, 3)) (hp : eg_P k g' d' mc ms (vR k i :: [a0]) n M (eg_b k r P)) {fs : List Value} (hM : M i = some (oO 0 fs)) (hst : (st.map fun v => v.category).sum ≤ 8) (hdd : d' + 1 ≤ d) (hbc : bc = mc + bc') (hbs : bs = ms + bs') (h : ∀ n' z' X', P n' z' X' → eg_E k g d bc' bs' n' (enc k z' X') ls (r.toList ++ st) (pc + 3) Q) : eg_E k g d bc bs n M ls (a0 :: vR k i :: st) pc Q :=
  eg_cU (As := [a0]) hx hd hp hM rfl hst hdd hbc hbs (fun a b c hq => by
    obtain ⟨rfl, z', X', rfl, hP⟩ := hq
    exact h b z' X' hP)
theorem eg_Ug1 {k : eg_K} {g : eg_G} {d bc bs n : Nat} {M : eg_M} {ls st : List Value} {pc : Nat} {Q : eg_Q} {g' : eg_G} {idx d' n' : Nat} {a0 : Value} {i : Nat} {r : Option Value} {M' : eg_M} (hx : eg_cu g.1.cls idx g' 1) (hd : decode g.2.1 pc = .ok (.invokevirtual idx, 3)) (hp : eg_P k g' d' 0 0 (vR k i :: [a0]) n M (eg_f r n' M')) {fs : List Value} (hM : M i = some (oO 0 fs)) (hst : (st.map fun v => v.category).sum ≤ 8) (hdd : d' + 1 ≤ d) (h : eg_E k g d bc bs n' M' ls (r.toList ++ st) (pc + 3) Q) : eg_E k g d bc bs n M ls (a0 :: vR k i :: st) pc Q :=
  eg_cU (As := [a0]) hx hd hp hM rfl hst hdd (Nat.zero_add _).symm (Nat.zero_add _).symm (fun a b c hq => by
    obtain ⟨rfl, rfl, rfl⟩ := hq
    exact h)
theorem eg_Ub2 {k : eg_K} {g : eg_G} {d bc bs n : Nat} {M : eg_M} {ls st : List Value} {pc : Nat} {Q : eg_Q} {g' : eg_G} {idx d' mc ms bc' bs' : Nat} {a0 a1 : Value} {i : Nat} {r : Option Value} {P : Nat → eg_Z → eg_M → Prop} (hx : eg_cu g.1.cls idx g' 2) (hd : decode g.2.1 pc = .ok (.invokevirtual idx, 3)) (hp : eg_P k g' d' mc ms (vR k i :: [a0, a1]) n M (eg_b k r P)) {fs : List Value} (hM : M i = some (oO 0 fs)) (hst : (st.map fun v => v.category).sum ≤ 8) (hdd : d' + 1 ≤ d) (hbc : bc = mc + bc') (hbs : bs = ms + bs') (h : ∀ n' z' X', P n' z' X' → eg_E k g d bc' bs' n' (enc k z' X') ls (r.toList ++ st) (pc + 3) Q) : eg_E k g d bc bs n M ls (a1 :: a0 :: vR k i :: st) pc Q :=
  eg_cU (As := [a0, a1]) hx hd hp hM rfl hst hdd hbc hbs (fun a b c hq => by
    obtain ⟨rfl, z', X', rfl, hP⟩ := hq
    exact h b z' X' hP)
theorem eg_Ug2 {k : eg_K} {g : eg_G} {d bc bs n : Nat} {M : eg_M} {ls st : List Value} {pc : Nat} {Q : eg_Q} {g' : eg_G} {idx d' n' : Nat} {a0 a1 : Value} {i : Nat} {r : Option Value} {M' : eg_M} (hx : eg_cu g.1.cls idx g' 2) (hd : decode g.2.1 pc = .ok (.invokevirtual idx, 3)) (hp : eg_P k g' d' 0 0 (vR k i :: [a0, a1]) n M (eg_f r n' M')) {fs : List Value} (hM : M i = some (oO 0 fs)) (hst : (st.map fun v => v.category).sum ≤ 8) (hdd : d' + 1 ≤ d) (h : eg_E k g d bc bs n' M' ls (r.toList ++ st) (pc + 3) Q) : eg_E k g d bc bs n M ls (a1 :: a0 :: vR k i :: st) pc Q :=
  eg_cU (As := [a0, a1]) hx hd hp hM rfl hst hdd (Nat.zero_add _).symm (Nat.zero_add _).symm (fun a b c hq => by
    obtain ⟨rfl, rfl, rfl⟩ := hq
    exact h)
theorem eg_Pb0 {k : eg_K} {g : eg_G} {d bc bs n : Nat} {M : eg_M} {ls st : List Value} {pc : Nat} {Q : eg_Q} {g' : eg_G} {idx d' mc ms bc' bs' : Nat} {i : Nat} {r : Option Value} {P : Nat → eg_Z → eg_M → Prop} (hx : eg_cp g.1.cls idx g' 0) (hd : decode g.2.1 pc = .ok (.invokespecial idx, 3)) (hp : eg_P k g' d' mc ms (vR k i :: []) n M (eg_b k r P)) {fs : List Value} (hM : M i = some (oO 0 fs)) (hst : (st.map fun v => v.category).sum ≤ 8) (hdd : d' + 1 ≤ d) (hbc : bc = mc + bc') (hbs : bs = ms + bs') (h : ∀ n' z' X', P n' z' X' → eg_E k g d bc' bs' n' (enc k z' X') ls (r.toList ++ st) (pc + 3) Q) : eg_E k g d bc bs n M ls (vR k i :: st) pc Q :=
  eg_cP (As := []) hx hd hp hM rfl hst hdd hbc hbs (fun a b c hq => by
    obtain ⟨rfl, z', X', rfl, hP⟩ := hq
    exact h b z' X' hP)
theorem eg_Pg0 {k : eg_K} {g : eg_G} {d bc bs n : Nat} {M : eg_M} {ls st : List Value} {pc : Nat} {Q : eg_Q} {g' : eg_G} {idx d' n' : Nat} {i : Nat} {r : Option Value} {M' : eg_M} (hx : eg_cp g.1.cls idx g' 0) (hd : decode g.2.1 pc = .ok (.invokespecial idx, 3)) (hp : eg_P k g' d' 0 0 (vR k i :: []) n M (eg_f r n' M')) {fs : List Value} (hM : M i = some (oO 0 fs)) (hst : (st.map fun v => v.category).sum ≤ 8) (hdd : d' + 1 ≤ d) (h : eg_E k g d bc bs n' M' ls (r.toList ++ st) (pc + 3) Q) : eg_E k g d bc bs n M ls (vR k i :: st) pc Q :=
  eg_cP (As := []) hx hd hp hM rfl hst hdd (Nat.zero_add _).symm (Nat.zero_add _).symm (fun a b c hq => by
    obtain ⟨rfl, rfl, rfl⟩ := hq
    exact h)
theorem eg_Pb1 {k : eg_K} {g : eg_G} {d bc bs n : Nat} {M : eg_M} {ls st : List Value} {pc : Nat} {Q : eg_Q} {g' : eg_G} {idx d' mc ms bc' bs' : Nat} {a0 : Value} {i : Nat} {r : Option Value} {P : Nat → eg_Z → eg_M → Prop} (hx : eg_cp g.1.cls idx g' 1) (hd : decode g.2.1 pc = .ok (.invokespecial idx, 3)) (hp : eg_P k g' d' mc ms (vR k i :: [a0]) n M (eg_b k r P)) {fs : List Value} (hM : M i = some (oO 0 fs)) (hst : (st.map fun v => v.category).sum ≤ 8) (hdd : d' + 1 ≤ d) (hbc : bc = mc + bc') (hbs : bs = ms + bs') (h : ∀ n' z' X', P n' z' X' → eg_E k g d bc' bs' n' (enc k z' X') ls (r.toList ++ st) (pc + 3) Q) : eg_E k g d bc bs n M ls (a0 :: vR k i :: st) pc Q :=
  eg_cP (As := [a0]) hx hd hp hM rfl hst hdd hbc hbs (fun a b c hq => by
    obtain ⟨rfl, z', X', rfl, hP⟩ := hq
    exact h b z' X' hP)
theorem eg_Pg1 {k : eg_K} {g : eg_G} {d bc bs n : Nat} {M : eg_M} {ls st : List Value} {pc : Nat} {Q : eg_Q} {g' : eg_G} {idx d' n' : Nat} {a0 : Value} {i : Nat} {r : Option Value} {M' : eg_M} (hx : eg_cp g.1.cls idx g' 1) (hd : decode g.2.1 pc = .ok (.invokespecial idx, 3)) (hp : eg_P k g' d' 0 0 (vR k i :: [a0]) n M (eg_f r n' M')) {fs : List Value} (hM : M i = some (oO 0 fs)) (hst : (st.map fun v => v.category).sum ≤ 8) (hdd : d' + 1 ≤ d) (h : eg_E k g d bc bs n' M' ls (r.toList ++ st) (pc + 3) Q) : eg_E k g d bc bs n M ls (a0 :: vR k i :: st) pc Q :=
  eg_cP (As := [a0]) hx hd hp hM rfl hst hdd (Nat.zero_add _).symm (Nat.zero_add _).symm (fun a b c hq => by
    obtain ⟨rfl, rfl, rfl⟩ := hq
    exact h)
theorem eg_Pb2 {k : eg_K} {g : eg_G} {d bc bs n : Nat} {M : eg_M} {ls st : List Value} {pc : Nat} {Q : eg_Q} {g' : eg_G} {idx d' mc ms bc' bs' : Nat} {a0 a1 : Value} {i : Nat} {r : Option Value} {P : Nat → eg_Z → eg_M → Prop} (hx : eg_cp g.1.cls idx g' 2) (hd : decode g.2.1 pc = .ok (.invokespecial idx, 3)) (hp : eg_P k g' d' mc ms (vR k i :: [a0, a1]) n M (eg_b k r P)) {fs : List Value} (hM : M i = some (oO 0 fs)) (hst : (st.map fun v => v.category).sum ≤ 8) (hdd : d' + 1 ≤ d) (hbc : bc = mc + bc') (hbs : bs = ms + bs') (h : ∀ n' z' X', P n' z' X' → eg_E k g d bc' bs' n' (enc k z' X') ls (r.toList ++ st) (pc + 3) Q) : eg_E k g d bc bs n M ls (a1 :: a0 :: vR k i :: st) pc Q :=
  eg_cP (As := [a0, a1]) hx hd hp hM rfl hst hdd hbc hbs (fun a b c hq => by
    obtain ⟨rfl, z', X', rfl, hP⟩ := hq
    exact h b z' X' hP)
theorem eg_Pg2 {k : eg_K} {g : eg_G} {d bc bs n : Nat} {M : eg_M} {ls st : List Value} {pc : Nat} {Q : eg_Q} {g' : eg_G} {idx d' n' : Nat} {a0 a1 : Value} {i : Nat} {r : Option Value} {M' : eg_M} (hx : eg_cp g.1.cls idx g' 2) (hd : decode g.2.1 pc = .ok (.invokespecial idx, 3)) (hp : eg_P k g' d' 0 0 (vR k i :: [a0, a1]) n M (eg_f r n' M')) {fs : List Value} (hM : M i = some (oO 0 fs)) (hst : (st.map fun v => v.category).sum ≤ 8) (hdd : d' + 1 ≤ d) (h : eg_E k g d bc bs n' M' ls (r.toList ++ st) (pc + 3) Q) : eg_E k g d bc bs n M ls (a1 :: a0 :: vR k i :: st) pc Q :=
  eg_cP (As := [a0, a1]) hx hd hp hM rfl hst hdd (Nat.zero_add _).symm (Nat.zero_add _).symm (fun a b c hq => by
    obtain ⟨rfl, rfl, rfl⟩ := hq
    exact h)
theorem eg_Vb0 {k : eg_K} {g : eg_G} {d bc bs n : Nat} {M : eg_M} {ls st : List Value} {pc : Nat} {Q : eg_Q} {g' : eg_G} {idx d' mc ms bc' bs' : Nat} {i : Nat} {r : Option Value} {P : Nat → eg_Z → eg_M → Prop} (hx : eg_cv g.1.cls idx g' 0) (hd : decode g.2.1 pc = .ok (.invokevirtual idx, 3)) (hp : eg_P k g' d' mc ms (vR k i :: []) n M (eg_b k r P)) {ci : Nat} {fs : List Value} (hM : M i = some (oO ci fs)) (hci : vwCl[ci]?.map (fun q => q.1) = some g'.1.cls) (hst : (st.map fun v => v.category).sum ≤ 8) (hdd : d' + 1 ≤ d) (hbc : bc = mc + bc') (hbs : bs = ms + bs') (h : ∀ n' z' X', P n' z' X' → eg_E k g d bc' bs' n' (enc k z' X') ls (r.toList ++ st) (pc + 3) Q) : eg_E k g d bc bs n M ls (vR k i :: st) pc Q :=
  eg_cV (As := []) hx hd hp hM hci rfl hst hdd hbc hbs (fun a b c hq => by
    obtain ⟨rfl, z', X', rfl, hP⟩ := hq
    exact h b z' X' hP)
theorem eg_Vb1 {k : eg_K} {g : eg_G} {d bc bs n : Nat} {M : eg_M} {ls st : List Value} {pc : Nat} {Q : eg_Q} {g' : eg_G} {idx d' mc ms bc' bs' : Nat} {a0 : Value} {i : Nat} {r : Option Value} {P : Nat → eg_Z → eg_M → Prop} (hx : eg_cv g.1.cls idx g' 1) (hd : decode g.2.1 pc = .ok (.invokevirtual idx, 3)) (hp : eg_P k g' d' mc ms (vR k i :: [a0]) n M (eg_b k r P)) {ci : Nat} {fs : List Value} (hM : M i = some (oO ci fs)) (hci : vwCl[ci]?.map (fun q => q.1) = some g'.1.cls) (hst : (st.map fun v => v.category).sum ≤ 8) (hdd : d' + 1 ≤ d) (hbc : bc = mc + bc') (hbs : bs = ms + bs') (h : ∀ n' z' X', P n' z' X' → eg_E k g d bc' bs' n' (enc k z' X') ls (r.toList ++ st) (pc + 3) Q) : eg_E k g d bc bs n M ls (a0 :: vR k i :: st) pc Q :=
  eg_cV (As := [a0]) hx hd hp hM hci rfl hst hdd hbc hbs (fun a b c hq => by
    obtain ⟨rfl, z', X', rfl, hP⟩ := hq
    exact h b z' X' hP)
theorem eg_Vb2 {k : eg_K} {g : eg_G} {d bc bs n : Nat} {M : eg_M} {ls st : List Value} {pc : Nat} {Q : eg_Q} {g' : eg_G} {idx d' mc ms bc' bs' : Nat} {a0 a1 : Value} {i : Nat} {r : Option Value} {P : Nat → eg_Z → eg_M → Prop} (hx : eg_cv g.1.cls idx g' 2) (hd : decode g.2.1 pc = .ok (.invokevirtual idx, 3)) (hp : eg_P k g' d' mc ms (vR k i :: [a0, a1]) n M (eg_b k r P)) {ci : Nat} {fs : List Value} (hM : M i = some (oO ci fs)) (hci : vwCl[ci]?.map (fun q => q.1) = some g'.1.cls) (hst : (st.map fun v => v.category).sum ≤ 8) (hdd : d' + 1 ≤ d) (hbc : bc = mc + bc') (hbs : bs = ms + bs') (h : ∀ n' z' X', P n' z' X' → eg_E k g d bc' bs' n' (enc k z' X') ls (r.toList ++ st) (pc + 3) Q) : eg_E k g d bc bs n M ls (a1 :: a0 :: vR k i :: st) pc Q :=
  eg_cV (As := [a0, a1]) hx hd hp hM hci rfl hst hdd hbc hbs (fun a b c hq => by
    obtain ⟨rfl, z', X', rfl, hP⟩ := hq
    exact h b z' X' hP)
theorem c_ensure {k : eg_K} {z : eg_Z} {X : eg_M} {n : Nat} {T : List Int} {g N : Nat} (hS : SB k z X n T g) (h1 : N ≤ 2 * cpG g + 2) (h2 : gI g N ≤ 6) : eg_P k gJ5_ensureCapacityInternal_d00df 3 (gI g N - g) (slG (gI g N) - slG g) [vR k 197, vI (N : Int)] n (enc k z X) (eg_b k none (fun n' z' X' => (∀ c, c ≠ 197 → z' c = z c) ∧ SB k z' X' n' T (gI g N))) := by
  obtain ⟨hva, hvn, hn, hg, hl, hct, f, hX, hf, hfT⟩ := id hS
  have hA : enc k z X (z 197 0).toNat = some (aB k (cpG g) f) := (enc_x hva).trans hX
  have cb := cpG_b hg
  by_cases hN : N ≤ cpG g
  · have e : gI g N = g := if_pos hN
    rw [e, Nat.sub_self, Nat.sub_self]
    refine eg_P.of (by decide) (Nat.le_of_ble_eq_true rfl) ?_
    show eg_E k gJ5_ensureCapacityInternal_d00df 3 0 0 n (enc k z X) [vR k 197, vI (N : Int), vU] [] 0 _
    refine eg_al_n dJ5_ensureCapacityInternal_d00df_0 rfl rfl ?_
    refine eg_get fl_J5_15 dJ5_ensureCapacityInternal_d00df_1 (by first | exact er197 | exact hA) rfl ?_
    refine eg_lenB dJ5_ensureCapacityInternal_d00df_4 (by first | exact er197 | exact hA) ?_
    refine eg_al_n dJ5_ensureCapacityInternal_d00df_5 rfl rfl ?_
    refine eg_get fl_J5_22 dJ5_ensureCapacityInternal_d00df_6 (by first | exact er197 | exact hA) rfl ?_
    refine eg_ishr (j := 0) dJ5_ensureCapacityInternal_d00df_9 ⟨by omega, by omega⟩ (by decide) ?_
    refine eg_eqI (y := (cpG g : Int)) (by rw [Int.pow_zero]; omega) ?_
    refine eg_istore_n dJ5_ensureCapacityInternal_d00df_10 rfl rfl rfl ?_
    refine eg_iload_n dJ5_ensureCapacityInternal_d00df_11 rfl ?_
    refine eg_iload_n dJ5_ensureCapacityInternal_d00df_12 rfl ?_
    refine eg_isub dJ5_ensureCapacityInternal_d00df_13 ?_
    refine eg_if_le 38 dJ5_ensureCapacityInternal_d00df_14 ⟨by omega, by omega⟩ rfl (fun h14 => ?_) (fun h14 => absurd h14 (by omega))
    refine eg_return dJ5_ensureCapacityInternal_d00df_38 rfl ?_
    exact ⟨rfl, z, X, rfl, fun _ _ => rfl, hS⟩
  · have e : gI g N = g + 1 := if_neg hN
    rw [e] at h2 ⊢
    rw [show g + 1 - g = 1 by omega, show slG (g + 1) - slG g = 2 * cpG g + 2 from by show slG g + (2 * cpG g + 2) - slG g = _; omega]
    refine eg_P.of (by decide) (Nat.le_of_ble_eq_true rfl) ?_
    show eg_E k gJ5_ensureCapacityInternal_d00df 3 1 (2 * cpG g + 2) n (enc k z X) [vR k 197, vI (N : Int), vU] [] 0 _
    refine eg_al_n dJ5_ensureCapacityInternal_d00df_0 rfl rfl ?_
    refine eg_get fl_J5_15 dJ5_ensureCapacityInternal_d00df_1 (by first | exact er197 | exact hA) rfl ?_
    refine eg_lenB dJ5_ensureCapacityInternal_d00df_4 (by first | exact er197 | exact hA) ?_
    refine eg_al_n dJ5_ensureCapacityInternal_d00df_5 rfl rfl ?_
    refine eg_get fl_J5_22 dJ5_ensureCapacityInternal_d00df_6 (by first | exact er197 | exact hA) rfl ?_
    refine eg_ishr (j := 0) dJ5_ensureCapacityInternal_d00df_9 ⟨by omega, by omega⟩ (by decide) ?_
    refine eg_eqI (y := (cpG g : Int)) (by rw [Int.pow_zero]; omega) ?_
    refine eg_istore_n dJ5_ensureCapacityInternal_d00df_10 rfl rfl rfl ?_
    refine eg_iload_n dJ5_ensureCapacityInternal_d00df_11 rfl ?_
    refine eg_iload_n dJ5_ensureCapacityInternal_d00df_12 rfl ?_
    refine eg_isub dJ5_ensureCapacityInternal_d00df_13 ?_
    refine eg_if_le 38 dJ5_ensureCapacityInternal_d00df_14 ⟨by omega, by omega⟩ rfl (fun h14 => absurd h14 (by omega)) (fun h14 => ?_)
    refine eg_al_n dJ5_ensureCapacityInternal_d00df_17 rfl rfl ?_
    refine eg_al_n dJ5_ensureCapacityInternal_d00df_18 rfl rfl ?_
    refine eg_get fl_J5_15 dJ5_ensureCapacityInternal_d00df_19 (by first | exact er197 | exact hA) rfl ?_
    refine eg_al_n dJ5_ensureCapacityInternal_d00df_22 rfl rfl ?_
    refine eg_iload_n dJ5_ensureCapacityInternal_d00df_23 rfl ?_
    refine eg_Ug1 cs_J5_104 dJ5_ensureCapacityInternal_d00df_24 (c_newCap (cap := cpG g) hA (by omega) (by omega) (by omega)) er197 (Nat.le_of_ble_eq_true rfl) (by decide) ?_
    refine eg_al_n dJ5_ensureCapacityInternal_d00df_27 rfl rfl ?_
    refine eg_get fl_J5_22 dJ5_ensureCapacityInternal_d00df_28 (by first | exact er197 | exact hA) rfl ?_
    refine eg_ishl (j := 0) dJ5_ensureCapacityInternal_d00df_31 (by decide) ?_
    refine eg_eqI (y := ((2 * cpG g + 2 : Nat) : Int)) (by rw [Int.pow_zero]; omega) ?_
    refine eg_cS (As := [vR k (z 197 0).toNat, vI ((2 * cpG g + 2 : Nat) : Int)]) (mc := 1) (ms := 2 * cpG g + 2) (bc' := 0) (bs' := 0) cs_J5_108 dJ5_ensureCapacityInternal_d00df_32 (c_copyOf hA (by omega) (by omega) (by omega) hf) rfl (Nat.le_of_ble_eq_true rfl) (by decide) rfl rfl ?_
    rintro _ _ _ ⟨rfl, rfl, rfl⟩
    rw [enc_xs (Or.inr hn), enc_xs (Or.inr hn)]
    refine eg_put fl_J5_15 dJ5_ensureCapacityInternal_d00df_35 er197 rfl rfl rfl rfl ?_
    refine eg_eqM es197_0 ?_
    refine eg_return dJ5_ensureCapacityInternal_d00df_38 rfl ?_
    refine ⟨rfl, _, _, rfl, fun c hc => va_up_n _ _ hc, ?_⟩
    refine ⟨?_, ?_, by omega, by omega, by show T.length ≤ 2 * cpG g + 2; omega, by rw [va_up_s, va_up_n _ _ (by decide)]; exact hct, va_cpy f (fun _ => 0) 0 0 (cpG g), ?_, fun j hj => ?_, fun j hj => ?_⟩
    · rw [va_up_s, va_up_s, Int.toNat_natCast]; exact Or.inr hn
    · rw [va_up_s, va_up_s, Int.toNat_natCast]; omega
    · rw [va_up_s, va_up_s, Int.toNat_natCast, va_up_s]; rfl
    · unfold va_cpy; split
      · exact hf _ (by omega)
      · exact (show (0 : Int) ≤ 0 ∧ (0 : Int) < 128 by decide)
    · unfold va_cpy; rw [if_pos (by omega), Nat.zero_add, Nat.sub_zero]; exact hfT j hj
