theorem m_nominate {k : eg_K} {z : eg_Z} {X : eg_M} {n : Nat} {s : eg_S} (hI : IM z s) (hO : OS s) {a b c d : Int} (r_a : iR a) (r_b : iR b) (r_c : iR c) (r_d : iR d) : eg_P k gX9_nominate 4 0 0 [vR k 202, vI a, vI b, vI c, vI d] n (enc k z X) (eg_p k (some (vI (R_nominate s a b c d).1)) n X (fun z' => FM z z' ∧ IM z' (R_nominate s a b c d).2)) := by
  refine eg_P.of (by decide) (Nat.le_of_ble_eq_true rfl) ?_
  show eg_E k gX9_nominate 4 0 0 n (enc k z X) [vR k 202, vI a, vI b, vI c, vI d] [] 0 _
  have hN := hI.1
  have hv := hO.1.1
  have q := hv.r.2
  have hF : ∀ c, c ≠ 203 → z c = z c := fun _ _ => rfl
  have r_a1 := r_a.1; have r_a2 := r_a.2; have r_b1 := r_b.1; have r_b2 := r_b.2; have r_c1 := r_c.1; have r_c2 := r_c.2; have r_d1 := r_d.1; have r_d2 := r_d.2
  refine eg_al_n dX9_nominate_0 rfl rfl ?_
  refine eg_iload_n dX9_nominate_1 rfl ?_
  refine eg_iload_n dX9_nominate_2 rfl ?_
  refine eg_iload_n dX9_nominate_3 rfl ?_
  refine eg_iload dX9_nominate_4 rfl ?_
  refine eg_Vf4 cs_X9_202 dX9_nominate_6 (c_canNominate hN hv r_a r_b r_c r_d) (by first | exact er202 | exact er203 | exact er204 | exact er205 | exact er206 | exact er207 | exact er208 | exact er209 | exact er210 | exact er211 | exact er212 | exact er213 | exact er214 | exact er215) rfl (Nat.le_of_ble_eq_true rfl) (by decide) ?_
  refine eg_bi_ne 14 dX9_nominate_9 rfl (fun h9 => ?_) (fun h9 => ?_)
  · refine eg_al_n dX9_nominate_14 rfl rfl ?_
    refine eg_iconst dX9_nominate_15 ?_
    refine eg_Vf1 cs_X9_179 dX9_nominate_16 (many_3 hN) (by first | exact er202 | exact er203 | exact er204 | exact er205 | exact er206 | exact er207 | exact er208 | exact er209 | exact er210 | exact er211 | exact er212 | exact er213 | exact er214 | exact er215) rfl (Nat.le_of_ble_eq_true rfl) (by decide) ?_
    refine eg_bipush dX9_nominate_19 (by decide) ?_
    refine eg_icmp_ne 27 dX9_nominate_21 ⟨by omega, by omega⟩ ⟨by omega, by omega⟩ rfl (fun h21 => ?_) (fun h21 => ?_)
    · refine eg_al_n dX9_nominate_27 rfl rfl ?_
      refine eg_Vpv0 cs_X9_206 dX9_nominate_28 (c_keepsPast hN hI.2.1.1 hI.2.1.2.1 hI.2.1.2.2) (by first | exact er202 | exact er203 | exact er204 | exact er205 | exact er206 | exact er207 | exact er208 | exact er209 | exact er210 | exact er211 | exact er212 | exact er213 | exact er214 | exact er215) rfl (Nat.le_of_ble_eq_true rfl) (by decide) ?_
      rintro y1 ⟨m1, m2, m3, m4⟩
      have hN : nw y1 s.1 := nw_c (m1 203 (by decide) (by decide)) hN
      have hF : ∀ c, c ≠ 203 → y1 c = y1 c := fun _ _ => rfl
      refine eg_al_n dX9_nominate_31 rfl rfl ?_
      refine eg_iload_n dX9_nominate_32 rfl ?_
      refine eg_iload_n dX9_nominate_33 rfl ?_
      refine eg_iload_n dX9_nominate_34 rfl ?_
      refine eg_iload dX9_nominate_35 rfl ?_
      refine eg_Vpv4 cs_X9_209 dX9_nominate_37 (c_adds hN ⟨by omega, by omega⟩ r_a r_b r_c r_d) (by first | exact er202 | exact er203 | exact er204 | exact er205 | exact er206 | exact er207 | exact er208 | exact er209 | exact er210 | exact er211 | exact er212 | exact er213 | exact er214 | exact er215) rfl (Nat.le_of_ble_eq_true rfl) (by decide) ?_
      rintro y2 ⟨f2, n2⟩
      refine eg_al_n dX9_nominate_40 rfl rfl ?_
      refine eg_iconst dX9_nominate_41 ?_
      refine eg_Vf1 cs_X9_179 dX9_nominate_42 (many_3 n2) (by first | exact er202 | exact er203 | exact er204 | exact er205 | exact er206 | exact er207 | exact er208 | exact er209 | exact er210 | exact er211 | exact er212 | exact er213 | exact er214 | exact er215) rfl (Nat.le_of_ble_eq_true rfl) (by decide) ?_
      refine eg_iconst dX9_nominate_45 ?_
      refine eg_isub dX9_nominate_46 ?_
      refine eg_ireturn dX9_nominate_47 rfl rfl ?_
      rw [addV_3]
      rw [show R_nominate s a b c d = (s.1 3, puS s (addV s.1 a b c d)) from by unfold R_nominate; (repeat (first | rw [if_pos (by first | assumption | omega)] | rw [if_neg (by first | assumption | omega)]))]
      exact ⟨congrArg (fun q => some (vI q)) (by omega), rfl, y2, rfl, hI.push m1 m2 m3 m4 f2 n2⟩
    · refine eg_bipush dX9_nominate_24 (by decide) ?_
      refine eg_ireturn dX9_nominate_26 rfl rfl ?_
      rw [show R_nominate s a b c d = (-2, s) from by unfold R_nominate; (repeat (first | rw [if_pos (by first | assumption | omega)] | rw [if_neg (by first | assumption | omega)]))]
      exact ⟨rfl, rfl, z, rfl, FM.rf, hI⟩
  · refine eg_iconst dX9_nominate_12 ?_
    refine eg_ireturn dX9_nominate_13 rfl rfl ?_
    rw [show R_nominate s a b c d = (-1, s) from by unfold R_nominate; (repeat (first | rw [if_pos (by first | assumption | omega)] | rw [if_neg (by first | assumption | omega)]))]
    exact ⟨rfl, rfl, z, rfl, FM.rf, hI⟩
theorem m_renominate {k : eg_K} {z : eg_Z} {X : eg_M} {n : Nat} {s : eg_S} (hI : IM z s) (hO : OS s) {a b : Int} (r_a : iR a) (r_b : iR b) : eg_P k gX9_renominate 3 0 0 [vR k 202, vI a, vI b] n (enc k z X) (eg_p k (some (vI (R_renominate s a b).1)) n X (fun z' => FM z z' ∧ IM z' (R_renominate s a b).2)) := by
  refine eg_P.of (by decide) (Nat.le_of_ble_eq_true rfl) ?_
  show eg_E k gX9_renominate 3 0 0 n (enc k z X) [vR k 202, vI a, vI b] [] 0 _
  have hN := hI.1
  have hv := hO.1.1
  have q := hv.r.2
  have hF : ∀ c, c ≠ 203 → z c = z c := fun _ _ => rfl
  have r_a1 := r_a.1; have r_a2 := r_a.2; have r_b1 := r_b.1; have r_b2 := r_b.2
  refine eg_al_n dX9_renominate_0 rfl rfl ?_
  refine eg_iload_n dX9_renominate_1 rfl ?_
  refine eg_Vf1 cs_X9_213 dX9_renominate_2 (c_isNom hN hv r_a) (by first | exact er202 | exact er203 | exact er204 | exact er205 | exact er206 | exact er207 | exact er208 | exact er209 | exact er210 | exact er211 | exact er212 | exact er213 | exact er214 | exact er215) rfl (Nat.le_of_ble_eq_true rfl) (by decide) ?_
  refine eg_bi_eq 38 dX9_renominate_5 rfl (fun h5 => ?_) (fun h5 => ?_)
  · refine eg_iconst dX9_renominate_38 ?_
    refine eg_ireturn dX9_renominate_39 rfl rfl ?_
    first | (rw [show R_renominate s a b = bcR s (108 + 4 * a + 3).toNat b (-2) from by unfold R_renominate; rw [if_pos (by omega)]]; exact ⟨rfl, rfl, y1, rfl, m1, m2⟩) | (rw [show R_renominate s a b = (-1, s) from by unfold R_renominate; rw [if_neg (by omega)]]; exact ⟨rfl, rfl, z, rfl, FM.rf, hI⟩)
  · refine eg_iload_n dX9_renominate_8 rfl ?_
    refine eg_i2l dX9_renominate_9 ⟨by omega, by omega⟩ ?_
    refine eg_lk0 dX9_renominate_10 ?_
    refine eg_ldc2 kw_X9_167 dX9_renominate_11 ?_
    refine eg_Sf3 cs_X9_81 dX9_renominate_14 (c_in ⟨by omega, by omega⟩ ⟨by omega, by omega⟩ ⟨by omega, by omega⟩) (Nat.le_of_ble_eq_true rfl) (by decide) ?_
    refine eg_bi_eq 38 dX9_renominate_17 rfl (fun h17 => ?_) (fun h17 => ?_)
    · refine eg_iconst dX9_renominate_38 ?_
      refine eg_ireturn dX9_renominate_39 rfl rfl ?_
      first | (rw [show R_renominate s a b = bcR s (108 + 4 * a + 3).toNat b (-2) from by unfold R_renominate; rw [if_pos (by omega)]]; exact ⟨rfl, rfl, y1, rfl, m1, m2⟩) | (rw [show R_renominate s a b = (-1, s) from by unfold R_renominate; rw [if_neg (by omega)]]; exact ⟨rfl, rfl, z, rfl, FM.rf, hI⟩)
    · refine eg_al_n dX9_renominate_20 rfl rfl ?_
      refine eg_bipush dX9_renominate_21 (by decide) ?_
      refine eg_iconst dX9_renominate_23 ?_
      refine eg_iload_n dX9_renominate_24 rfl ?_
      refine eg_imul dX9_renominate_25 ?_
      refine eg_iadd dX9_renominate_26 ?_
      refine eg_iconst dX9_renominate_27 ?_
      refine eg_iadd dX9_renominate_28 ?_
      refine eg_iload_n dX9_renominate_29 rfl ?_
      refine eg_bipush dX9_renominate_30 (by decide) ?_
      refine eg_Vpf3 cs_X9_216 dX9_renominate_32 (m_becomes hI (p := 108 + 4 * a + 3) ⟨by omega, by omega⟩ r_b (show iR (gN s.1 a 3) from (by have o1 := hv.N (q := a) (by omega) (by omega); simp only [okN, isIn, isOut] at o1; have o2 := o1.2.2.2.2; exact ⟨by omega, by omega⟩))) (by first | exact er202 | exact er203 | exact er204 | exact er205 | exact er206 | exact er207 | exact er208 | exact er209 | exact er210 | exact er211 | exact er212 | exact er213 | exact er214 | exact er215) rfl (Nat.le_of_ble_eq_true rfl) (by decide) ?_
      rintro y1 ⟨m1, m2⟩
      refine eg_goto 39 dX9_renominate_35 rfl ?_
      refine eg_ireturn dX9_renominate_39 rfl rfl ?_
      first | (rw [show R_renominate s a b = bcR s (108 + 4 * a + 3).toNat b (-2) from by unfold R_renominate; rw [if_pos (by omega)]]; exact ⟨rfl, rfl, y1, rfl, m1, m2⟩) | (rw [show R_renominate s a b = (-1, s) from by unfold R_renominate; rw [if_neg (by omega)]]; exact ⟨rfl, rfl, z, rfl, FM.rf, hI⟩)
theorem m_withdraw {k : eg_K} {z : eg_Z} {X : eg_M} {n : Nat} {s : eg_S} (hI : IM z s) (hO : OS s) {a : Int} (r_a : iR a) : eg_P k gX9_withdraw 2 0 0 [vR k 202, vI a] n (enc k z X) (eg_p k (some (vI (R_withdraw s a).1)) n X (fun z' => FM z z' ∧ IM z' (R_withdraw s a).2)) := by
  refine eg_P.of (by decide) (Nat.le_of_ble_eq_true rfl) ?_
  show eg_E k gX9_withdraw 2 0 0 n (enc k z X) [vR k 202, vI a] [] 0 _
  have hN := hI.1
  have hv := hO.1.1
  have q := hv.r.2
  have hF : ∀ c, c ≠ 203 → z c = z c := fun _ _ => rfl
  have r_a1 := r_a.1; have r_a2 := r_a.2
  refine eg_al_n dX9_withdraw_0 rfl rfl ?_
  refine eg_iload_n dX9_withdraw_1 rfl ?_
  refine eg_Vf1 cs_X9_213 dX9_withdraw_2 (c_isNom hN hv r_a) (by first | exact er202 | exact er203 | exact er204 | exact er205 | exact er206 | exact er207 | exact er208 | exact er209 | exact er210 | exact er211 | exact er212 | exact er213 | exact er214 | exact er215) rfl (Nat.le_of_ble_eq_true rfl) (by decide) ?_
  refine eg_bi_ne 10 dX9_withdraw_5 rfl (fun h5 => ?_) (fun h5 => ?_)
  · refine eg_al_n dX9_withdraw_10 rfl rfl ?_
    refine eg_Vpv0 cs_X9_206 dX9_withdraw_11 (c_keepsPast hN hI.2.1.1 hI.2.1.2.1 hI.2.1.2.2) (by first | exact er202 | exact er203 | exact er204 | exact er205 | exact er206 | exact er207 | exact er208 | exact er209 | exact er210 | exact er211 | exact er212 | exact er213 | exact er214 | exact er215) rfl (Nat.le_of_ble_eq_true rfl) (by decide) ?_
    rintro y1 ⟨m1, m2, m3, m4⟩
    have hN : nw y1 s.1 := nw_c (m1 203 (by decide) (by decide)) hN
    have hF : ∀ c, c ≠ 203 → y1 c = y1 c := fun _ _ => rfl
    refine eg_al_n dX9_withdraw_14 rfl rfl ?_
    refine eg_iload_n dX9_withdraw_15 rfl ?_
    refine eg_Vpv1 cs_X9_220 dX9_withdraw_16 (c_removes hN (by omega) ⟨by omega, by omega⟩) (by first | exact er202 | exact er203 | exact er204 | exact er205 | exact er206 | exact er207 | exact er208 | exact er209 | exact er210 | exact er211 | exact er212 | exact er213 | exact er214 | exact er215) rfl (Nat.le_of_ble_eq_true rfl) (by decide) ?_
    rintro y2 ⟨f2, n2⟩
    refine eg_al_n dX9_withdraw_19 rfl rfl ?_
    refine eg_iconst dX9_withdraw_20 ?_
    refine eg_Vf1 cs_X9_179 dX9_withdraw_21 (many_3 n2) (by first | exact er202 | exact er203 | exact er204 | exact er205 | exact er206 | exact er207 | exact er208 | exact er209 | exact er210 | exact er211 | exact er212 | exact er213 | exact er214 | exact er215) rfl (Nat.le_of_ble_eq_true rfl) (by decide) ?_
    refine eg_ireturn dX9_withdraw_24 rfl rfl ?_
    rw [remV_3]
    rw [show R_withdraw s a = (s.1 3 - 1, puS s (remV s.1 a)) from by unfold R_withdraw; (repeat (first | rw [if_pos (by first | assumption | omega)] | rw [if_neg (by first | assumption | omega)]))]
    exact ⟨rfl, rfl, y2, rfl, hI.push m1 m2 m3 m4 f2 n2⟩
  · refine eg_iconst dX9_withdraw_8 ?_
    refine eg_ireturn dX9_withdraw_9 rfl rfl ?_
    rw [show R_withdraw s a = (-1, s) from by unfold R_withdraw; (repeat (first | rw [if_pos (by first | assumption | omega)] | rw [if_neg (by first | assumption | omega)]))]
    exact ⟨rfl, rfl, z, rfl, FM.rf, hI⟩
theorem m_limit {k : eg_K} {z : eg_Z} {X : eg_M} {n : Nat} {s : eg_S} (hI : IM z s) (hO : OS s) {a b c : Int} (r_a : iR a) (r_b : iR b) (r_c : iR c) : eg_P k gX9_limit 3 0 0 [vR k 202, vI a, vI b, vI c] n (enc k z X) (eg_p k (some (vI (R_limit s a b c).1)) n X (fun z' => FM z z' ∧ IM z' (R_limit s a b c).2)) := by
  refine eg_P.of (by decide) (Nat.le_of_ble_eq_true rfl) ?_
  show eg_E k gX9_limit 3 0 0 n (enc k z X) [vR k 202, vI a, vI b, vI c] [] 0 _
  have hN := hI.1
  have hv := hO.1.1
  have q := hv.r.2
  have hF : ∀ c, c ≠ 203 → z c = z c := fun _ _ => rfl
  have r_a1 := r_a.1; have r_a2 := r_a.2; have r_b1 := r_b.1; have r_b2 := r_b.2; have r_c1 := r_c.1; have r_c2 := r_c.2
  refine eg_al_n dX9_limit_0 rfl rfl ?_
  refine eg_iload_n dX9_limit_1 rfl ?_
  refine eg_iload_n dX9_limit_2 rfl ?_
  refine eg_Vf2 cs_X9_223 dX9_limit_3 (c_isOne hN hv r_a r_b) (by first | exact er202 | exact er203 | exact er204 | exact er205 | exact er206 | exact er207 | exact er208 | exact er209 | exact er210 | exact er211 | exact er212 | exact er213 | exact er214 | exact er215) rfl (Nat.le_of_ble_eq_true rfl) (by decide) ?_
  refine eg_bi_eq 36 dX9_limit_6 rfl (fun h6 => ?_) (fun h6 => ?_)
  · refine eg_iconst dX9_limit_36 ?_
    refine eg_ireturn dX9_limit_37 rfl rfl ?_
    first | (rw [show R_limit s a b c = bcR s (if a = 0 then 26 + 4 * b + 2 else 12 + 2 * b).toNat c (-2) from by unfold R_limit; rw [if_pos (⟨h6, by omega⟩)]; simp only [Int.add_zero]]; exact ⟨rfl, rfl, y1, rfl, m1, m2⟩) | (rw [show R_limit s a b c = (-1, s) from by unfold R_limit; rw [if_neg (by omega)]]; exact ⟨rfl, rfl, z, rfl, FM.rf, hI⟩)
  · refine eg_iload_n dX9_limit_9 rfl ?_
    refine eg_i2l dX9_limit_10 ⟨by omega, by omega⟩ ?_
    refine eg_lk0 dX9_limit_11 ?_
    refine eg_ldc2 kw_X9_167 dX9_limit_12 ?_
    refine eg_Sf3 cs_X9_81 dX9_limit_15 (c_in ⟨by omega, by omega⟩ ⟨by omega, by omega⟩ ⟨by omega, by omega⟩) (Nat.le_of_ble_eq_true rfl) (by decide) ?_
    refine eg_bi_eq 36 dX9_limit_18 rfl (fun h18 => ?_) (fun h18 => ?_)
    · refine eg_iconst dX9_limit_36 ?_
      refine eg_ireturn dX9_limit_37 rfl rfl ?_
      first | (rw [show R_limit s a b c = bcR s (if a = 0 then 26 + 4 * b + 2 else 12 + 2 * b).toNat c (-2) from by unfold R_limit; rw [if_pos (⟨h6, by omega⟩)]; simp only [Int.add_zero]]; exact ⟨rfl, rfl, y1, rfl, m1, m2⟩) | (rw [show R_limit s a b c = (-1, s) from by unfold R_limit; rw [if_neg (by omega)]]; exact ⟨rfl, rfl, z, rfl, FM.rf, hI⟩)
    · refine eg_al_n dX9_limit_21 rfl rfl ?_
      refine eg_iload_n dX9_limit_22 rfl ?_
      refine eg_iload_n dX9_limit_23 rfl ?_
      refine eg_Sf2 cs_X9_226 dX9_limit_24 (c_capPlace r_a) (Nat.le_of_ble_eq_true rfl) (by decide) ?_
      have cb : iR (s.1 (if a = 0 then 26 + 4 * b + 2 else 12 + 2 * b).toNat) := by
        rcases h6 with ⟨e, h⟩ | ⟨e, h⟩
        · rw [if_pos e]; have := (hv.P h.1 h.2).2.2.1; show iR (gP s.1 b 2); exact ⟨by omega, by omega⟩
        · rw [if_neg (by omega)]; have := (hv.S h.1 (show b < 7 by omega)).1; unfold gS at this; rw [Int.add_zero] at this; exact ⟨by omega, by omega⟩
      refine eg_iload_n dX9_limit_27 rfl ?_
      refine eg_bipush dX9_limit_28 (by decide) ?_
      refine eg_Vpf3 cs_X9_216 dX9_limit_30 (m_becomes hI (p := if a = 0 then 26 + 4 * b + 2 else 12 + 2 * b) (by split <;> exact ⟨by omega, by omega⟩) r_c cb) (by first | exact er202 | exact er203 | exact er204 | exact er205 | exact er206 | exact er207 | exact er208 | exact er209 | exact er210 | exact er211 | exact er212 | exact er213 | exact er214 | exact er215) rfl (Nat.le_of_ble_eq_true rfl) (by decide) ?_
      rintro y1 ⟨m1, m2⟩
      refine eg_goto 37 dX9_limit_33 rfl ?_
      refine eg_ireturn dX9_limit_37 rfl rfl ?_
      first | (rw [show R_limit s a b c = bcR s (if a = 0 then 26 + 4 * b + 2 else 12 + 2 * b).toNat c (-2) from by unfold R_limit; rw [if_pos (⟨h6, by omega⟩)]; simp only [Int.add_zero]]; exact ⟨rfl, rfl, y1, rfl, m1, m2⟩) | (rw [show R_limit s a b c = (-1, s) from by unfold R_limit; rw [if_neg (by omega)]]; exact ⟨rfl, rfl, z, rfl, FM.rf, hI⟩)
theorem m_swing {k : eg_K} {z : eg_Z} {X : eg_M} {n : Nat} {s : eg_S} (hI : IM z s) (hO : OS s) {a b : Int} (r_a : iR a) (r_b : iR b) : eg_P k gX9_swing 3 0 0 [vR k 202, vI a, vI b] n (enc k z X) (eg_p k (some (vI (R_swing s a b).1)) n X (fun z' => FM z z' ∧ IM z' (R_swing s a b).2)) := by
  refine eg_P.of (by decide) (Nat.le_of_ble_eq_true rfl) ?_
  show eg_E k gX9_swing 3 0 0 n (enc k z X) [vR k 202, vI a, vI b] [] 0 _
  have hN := hI.1
  have hv := hO.1.1
  have q := hv.r.2
  have hF : ∀ c, c ≠ 203 → z c = z c := fun _ _ => rfl
  have r_a1 := r_a.1; have r_a2 := r_a.2; have r_b1 := r_b.1; have r_b2 := r_b.2
  refine eg_al_n dX9_swing_0 rfl rfl ?_
  refine eg_iload_n dX9_swing_1 rfl ?_
  refine eg_Vf1 cs_X9_185 dX9_swing_2 (c_isPoint hN hv r_a) (by first | exact er202 | exact er203 | exact er204 | exact er205 | exact er206 | exact er207 | exact er208 | exact er209 | exact er210 | exact er211 | exact er212 | exact er213 | exact er214 | exact er215) rfl (Nat.le_of_ble_eq_true rfl) (by decide) ?_
  refine eg_bi_eq 40 dX9_swing_5 rfl (fun h5 => ?_) (fun h5 => ?_)
  · refine eg_bipush dX9_swing_40 (by decide) ?_
    refine eg_ireturn dX9_swing_42 rfl rfl ?_
    first | (rw [show R_swing s a b = bcR s (26 + 4 * a + 3).toNat b (-101) from by unfold R_swing; rw [if_pos (by omega)]]; exact ⟨rfl, rfl, y1, rfl, m1, m2⟩) | (rw [show R_swing s a b = (-100, s) from by unfold R_swing; rw [if_neg (by omega)]]; exact ⟨rfl, rfl, z, rfl, FM.rf, hI⟩)
  · refine eg_iload_n dX9_swing_8 rfl ?_
    refine eg_i2l dX9_swing_9 ⟨by omega, by omega⟩ ?_
    refine eg_ldc2 kw_X9_229 dX9_swing_10 ?_
    refine eg_ldc2 kw_X9_231 dX9_swing_13 ?_
    refine eg_Sf3 cs_X9_81 dX9_swing_16 (c_in ⟨by omega, by omega⟩ ⟨by omega, by omega⟩ ⟨by omega, by omega⟩) (Nat.le_of_ble_eq_true rfl) (by decide) ?_
    refine eg_bi_eq 40 dX9_swing_19 rfl (fun h19 => ?_) (fun h19 => ?_)
    · refine eg_bipush dX9_swing_40 (by decide) ?_
      refine eg_ireturn dX9_swing_42 rfl rfl ?_
      first | (rw [show R_swing s a b = bcR s (26 + 4 * a + 3).toNat b (-101) from by unfold R_swing; rw [if_pos (by omega)]]; exact ⟨rfl, rfl, y1, rfl, m1, m2⟩) | (rw [show R_swing s a b = (-100, s) from by unfold R_swing; rw [if_neg (by omega)]]; exact ⟨rfl, rfl, z, rfl, FM.rf, hI⟩)
    · refine eg_al_n dX9_swing_22 rfl rfl ?_
      refine eg_bipush dX9_swing_23 (by decide) ?_
      refine eg_iconst dX9_swing_25 ?_
      refine eg_iload_n dX9_swing_26 rfl ?_
      refine eg_imul dX9_swing_27 ?_
      refine eg_iadd dX9_swing_28 ?_
      refine eg_iconst dX9_swing_29 ?_
      refine eg_iadd dX9_swing_30 ?_
      refine eg_iload_n dX9_swing_31 rfl ?_
      refine eg_bipush dX9_swing_32 (by decide) ?_
      refine eg_Vpf3 cs_X9_216 dX9_swing_34 (m_becomes hI (p := 26 + 4 * a + 3) ⟨by omega, by omega⟩ r_b (show iR (gP s.1 a 3) from (by have o1 := hv.P (p := a) (by omega) (by omega); unfold okP at o1; exact ⟨by omega, by omega⟩))) (by first | exact er202 | exact er203 | exact er204 | exact er205 | exact er206 | exact er207 | exact er208 | exact er209 | exact er210 | exact er211 | exact er212 | exact er213 | exact er214 | exact er215) rfl (Nat.le_of_ble_eq_true rfl) (by decide) ?_
      rintro y1 ⟨m1, m2⟩
      refine eg_goto 42 dX9_swing_37 rfl ?_
      refine eg_ireturn dX9_swing_42 rfl rfl ?_
      first | (rw [show R_swing s a b = bcR s (26 + 4 * a + 3).toNat b (-101) from by unfold R_swing; rw [if_pos (by omega)]]; exact ⟨rfl, rfl, y1, rfl, m1, m2⟩) | (rw [show R_swing s a b = (-100, s) from by unfold R_swing; rw [if_neg (by omega)]]; exact ⟨rfl, rfl, z, rfl, FM.rf, hI⟩)
theorem m_move {k : eg_K} {z : eg_Z} {X : eg_M} {n : Nat} {s : eg_S} (hI : IM z s) (hO : OS s) {a b : Int} (r_a : iR a) (r_b : iR b) : eg_P k gX9_move 3 0 0 [vR k 202, vI a, vI b] n (enc k z X) (eg_p k (some (vI (R_move s a b).1)) n X (fun z' => FM z z' ∧ IM z' (R_move s a b).2)) := by
  refine eg_P.of (by decide) (Nat.le_of_ble_eq_true rfl) ?_
  show eg_E k gX9_move 3 0 0 n (enc k z X) [vR k 202, vI a, vI b] [] 0 _
  have hN := hI.1
  have hv := hO.1.1
  have q := hv.r.2
  have hF : ∀ c, c ≠ 203 → z c = z c := fun _ _ => rfl
  have r_a1 := r_a.1; have r_a2 := r_a.2; have r_b1 := r_b.1; have r_b2 := r_b.2
  refine eg_al_n dX9_move_0 rfl rfl ?_
  refine eg_iload_n dX9_move_1 rfl ?_
  refine eg_Vf1 cs_X9_185 dX9_move_2 (c_isPoint hN hv r_a) (by first | exact er202 | exact er203 | exact er204 | exact er205 | exact er206 | exact er207 | exact er208 | exact er209 | exact er210 | exact er211 | exact er212 | exact er213 | exact er214 | exact er215) rfl (Nat.le_of_ble_eq_true rfl) (by decide) ?_
  refine eg_bi_eq 32 dX9_move_5 rfl (fun h5 => ?_) (fun h5 => ?_)
  · refine eg_iconst dX9_move_32 ?_
    refine eg_ireturn dX9_move_33 rfl rfl ?_
    first | (rw [show R_move s a b = bcR s (26 + 4 * a).toNat b (-2) from by unfold R_move; rw [if_pos (by omega)]; rw [Int.add_zero]]; exact ⟨rfl, rfl, y1, rfl, m1, m2⟩) | (rw [show R_move s a b = (-1, s) from by unfold R_move; rw [if_neg (by omega)]]; exact ⟨rfl, rfl, z, rfl, FM.rf, hI⟩)
  · refine eg_al_n dX9_move_8 rfl rfl ?_
    refine eg_iload_n dX9_move_9 rfl ?_
    refine eg_Vf1 cs_X9_253 dX9_move_10 (c_isHub hN hv r_b) (by first | exact er202 | exact er203 | exact er204 | exact er205 | exact er206 | exact er207 | exact er208 | exact er209 | exact er210 | exact er211 | exact er212 | exact er213 | exact er214 | exact er215) rfl (Nat.le_of_ble_eq_true rfl) (by decide) ?_
    refine eg_bi_eq 32 dX9_move_13 rfl (fun h13 => ?_) (fun h13 => ?_)
    · refine eg_iconst dX9_move_32 ?_
      refine eg_ireturn dX9_move_33 rfl rfl ?_
      first | (rw [show R_move s a b = bcR s (26 + 4 * a).toNat b (-2) from by unfold R_move; rw [if_pos (by omega)]; rw [Int.add_zero]]; exact ⟨rfl, rfl, y1, rfl, m1, m2⟩) | (rw [show R_move s a b = (-1, s) from by unfold R_move; rw [if_neg (by omega)]]; exact ⟨rfl, rfl, z, rfl, FM.rf, hI⟩)
    · refine eg_al_n dX9_move_16 rfl rfl ?_
      refine eg_bipush dX9_move_17 (by decide) ?_
      refine eg_iconst dX9_move_19 ?_
      refine eg_iload_n dX9_move_20 rfl ?_
      refine eg_imul dX9_move_21 ?_
      refine eg_iadd dX9_move_22 ?_
      refine eg_iload_n dX9_move_23 rfl ?_
      refine eg_bipush dX9_move_24 (by decide) ?_
      refine eg_Vpf3 cs_X9_216 dX9_move_26 (m_becomes hI (p := 26 + 4 * a) ⟨by omega, by omega⟩ r_b (by have o1 := hv.P (p := a) (by omega) (by omega); unfold okP at o1; unfold gP at o1; rw [Int.add_zero] at o1; exact ⟨by omega, by omega⟩)) (by first | exact er202 | exact er203 | exact er204 | exact er205 | exact er206 | exact er207 | exact er208 | exact er209 | exact er210 | exact er211 | exact er212 | exact er213 | exact er214 | exact er215) rfl (Nat.le_of_ble_eq_true rfl) (by decide) ?_
      rintro y1 ⟨m1, m2⟩
      refine eg_goto 33 dX9_move_29 rfl ?_
      refine eg_ireturn dX9_move_33 rfl rfl ?_
      first | (rw [show R_move s a b = bcR s (26 + 4 * a).toNat b (-2) from by unfold R_move; rw [if_pos (by omega)]; rw [Int.add_zero]]; exact ⟨rfl, rfl, y1, rfl, m1, m2⟩) | (rw [show R_move s a b = (-1, s) from by unfold R_move; rw [if_neg (by omega)]]; exact ⟨rfl, rfl, z, rfl, FM.rf, hI⟩)
theorem m_contract {k : eg_K} {z : eg_Z} {X : eg_M} {n : Nat} {s : eg_S} (hI : IM z s) (hO : OS s) {a b c : Int} (r_a : iR a) (r_b : iR b) (r_c : iR c) : eg_P k gX9_contract 3 0 0 [vR k 202, vI a, vI b, vI c] n (enc k z X) (eg_p k (some (vI (R_contract s a b c).1)) n X (fun z' => FM z z' ∧ IM z' (R_contract s a b c).2)) := by
  refine eg_P.of (by decide) (Nat.le_of_ble_eq_true rfl) ?_
  show eg_E k gX9_contract 3 0 0 n (enc k z X) [vR k 202, vI a, vI b, vI c] [] 0 _
  have hN := hI.1
  have hv := hO.1.1
  have q := hv.r.2
  have hF : ∀ c, c ≠ 203 → z c = z c := fun _ _ => rfl
  have r_a1 := r_a.1; have r_a2 := r_a.2; have r_b1 := r_b.1; have r_b2 := r_b.2; have r_c1 := r_c.1; have r_c2 := r_c.2
  refine eg_al_n dX9_contract_0 rfl rfl ?_
  refine eg_iload_n dX9_contract_1 rfl ?_
  refine eg_Vf1 cs_X9_199 dX9_contract_2 (c_isShipper hN hv r_a) (by first | exact er202 | exact er203 | exact er204 | exact er205 | exact er206 | exact er207 | exact er208 | exact er209 | exact er210 | exact er211 | exact er212 | exact er213 | exact er214 | exact er215) rfl (Nat.le_of_ble_eq_true rfl) (by decide) ?_
  refine eg_bi_eq 56 dX9_contract_5 rfl (fun h5 => ?_) (fun h5 => ?_)
  · refine eg_iconst dX9_contract_56 ?_
    refine eg_ireturn dX9_contract_57 rfl rfl ?_
    have tn : ¬ ((0 ≤ a ∧ a < s.1 2) ∧ tmB b c = true) := fun hh => by have h2 := of_decide_eq_true hh.2; omega
    rw [show R_contract s a b c = (-1, s) from by unfold R_contract; rw [if_neg tn]]
    exact ⟨rfl, rfl, z, rfl, FM.rf, hI⟩
  · refine eg_iload_n dX9_contract_8 rfl ?_
    refine eg_i2l dX9_contract_9 ⟨by omega, by omega⟩ ?_
    refine eg_lk0 dX9_contract_10 ?_
    refine eg_ldc2 kw_X9_233 dX9_contract_11 ?_
    refine eg_Sf3 cs_X9_81 dX9_contract_14 (c_in ⟨by omega, by omega⟩ ⟨by omega, by omega⟩ ⟨by omega, by omega⟩) (Nat.le_of_ble_eq_true rfl) (by decide) ?_
    refine eg_bi_eq 56 dX9_contract_17 rfl (fun h17 => ?_) (fun h17 => ?_)
    · refine eg_iconst dX9_contract_56 ?_
      refine eg_ireturn dX9_contract_57 rfl rfl ?_
      have tn : ¬ ((0 ≤ a ∧ a < s.1 2) ∧ tmB b c = true) := fun hh => by have h2 := of_decide_eq_true hh.2; omega
      rw [show R_contract s a b c = (-1, s) from by unfold R_contract; rw [if_neg tn]]
      exact ⟨rfl, rfl, z, rfl, FM.rf, hI⟩
    · refine eg_iload_n dX9_contract_20 rfl ?_
      refine eg_i2l dX9_contract_21 ⟨by omega, by omega⟩ ?_
      refine eg_iload_n dX9_contract_22 rfl ?_
      refine eg_iconst dX9_contract_23 ?_
      refine eg_icmp_ne 31 dX9_contract_24 ⟨by omega, by omega⟩ ⟨by omega, by omega⟩ rfl (fun h24 => ?_) (fun h24 => ?_)
      · refine eg_iconst dX9_contract_31 ?_
        refine eg_Sf1 cs_X9_118 dX9_contract_32 (c_truth (by omega)) (Nat.le_of_ble_eq_true rfl) (by decide) ?_
        refine eg_i2l dX9_contract_35 ⟨by omega, by omega⟩ ?_
        refine eg_iload_n dX9_contract_36 rfl ?_
        refine eg_iconst dX9_contract_37 ?_
        refine eg_icmp_ne 47 dX9_contract_38 ⟨by omega, by omega⟩ ⟨by omega, by omega⟩ rfl (fun h38 => ?_) (fun h38 => ?_)
        · refine eg_ldc2 kw_X9_167 dX9_contract_47 ?_
          refine eg_Sf3 cs_X9_81 dX9_contract_50 (c_in ⟨by omega, by omega⟩ ⟨by omega, by omega⟩ ⟨by omega, by omega⟩) (Nat.le_of_ble_eq_true rfl) (by decide) ?_
          refine eg_bi_ne 58 dX9_contract_53 rfl (fun h53 => ?_) (fun h53 => ?_)
          · refine eg_al_n dX9_contract_58 rfl rfl ?_
            refine eg_iload_n dX9_contract_59 rfl ?_
            refine eg_iload_n dX9_contract_60 rfl ?_
            refine eg_Vf2 cs_X9_237 dX9_contract_61 (c_ship hN (by omega) (by omega) (by omega) (by omega)) (by first | exact er202 | exact er203 | exact er204 | exact er205 | exact er206 | exact er207 | exact er208 | exact er209 | exact er210 | exact er211 | exact er212 | exact er213 | exact er214 | exact er215) rfl (Nat.le_of_ble_eq_true rfl) (by decide) ?_
            have oa := hv.H (s := a) (by omega) (by omega); unfold okH at oa
            have cb : -9999999 ≤ gH s.1 a b ∧ gH s.1 a b ≤ 9999999 := by
              rcases (show b = 0 ∨ b = 1 ∨ b = 2 ∨ b = 3 by omega) with rfl | rfl | rfl | rfl <;> omega
            refine eg_iload_n dX9_contract_64 rfl ?_
            refine eg_i2l dX9_contract_65 ⟨by omega, by omega⟩ ?_
            refine eg_lc_ne 73 dX9_contract_66 dX9_contract_67 ⟨by omega, by omega⟩ ⟨by omega, by omega⟩ rfl (fun h66 => ?_) (fun h66 => ?_)
            · refine eg_iload_n dX9_contract_73 rfl ?_
              refine eg_iconst dX9_contract_74 ?_
              refine eg_icmp_ne 96 dX9_contract_75 ⟨by omega, by omega⟩ ⟨by omega, by omega⟩ rfl (fun h75 => ?_) (fun h75 => ?_)
              · refine eg_al_n dX9_contract_96 rfl rfl ?_
                refine eg_bipush dX9_contract_97 (by decide) ?_
                refine eg_bipush dX9_contract_99 (by decide) ?_
                refine eg_iload_n dX9_contract_101 rfl ?_
                refine eg_imul dX9_contract_102 ?_
                refine eg_iadd dX9_contract_103 ?_
                refine eg_iload_n dX9_contract_104 rfl ?_
                refine eg_iadd dX9_contract_105 ?_
                refine eg_iload_n dX9_contract_106 rfl ?_
                refine eg_bipush dX9_contract_107 (by decide) ?_
                refine eg_Vpf3 cs_X9_216 dX9_contract_109 (m_becomes hI (p := 66 + 7 * a + b) ⟨by omega, by omega⟩ r_c (show iR (gH s.1 a b) from ⟨by omega, by omega⟩)) (by first | exact er202 | exact er203 | exact er204 | exact er205 | exact er206 | exact er207 | exact er208 | exact er209 | exact er210 | exact er211 | exact er212 | exact er213 | exact er214 | exact er215) rfl (Nat.le_of_ble_eq_true rfl) (by decide) ?_
                rintro y1 ⟨m1, m2⟩
                refine eg_ireturn dX9_contract_112 rfl rfl ?_
                have tp : (0 ≤ a ∧ a < s.1 2) ∧ tmB b c = true := ⟨by omega, decide_eq_true (by omega)⟩
                have e9 : R_contract s a b c = bcR s (66 + 7 * a + b).toNat c (-2) := by
                  unfold R_contract bcR
                  have en : ¬ s.1 (66 + 7 * a + b).toNat = c := h66
                  rw [if_pos tp, if_neg (show ¬ gH s.1 a b = c from h66), if_neg en, if_neg ?_]
                  · rfl
                  · intro hh
                    first | omega | (split at h89 <;> omega)
                rw [e9]
                exact ⟨rfl, rfl, y1, rfl, m1, m2⟩
              · refine eg_al_n dX9_contract_78 rfl rfl ?_
                refine eg_iload_n dX9_contract_79 rfl ?_
                refine eg_iconst dX9_contract_80 ?_
                refine eg_Vf2 cs_X9_237 dX9_contract_81 (c_ship hN (by omega) (by omega) (by omega) (by omega)) (by first | exact er202 | exact er203 | exact er204 | exact er205 | exact er206 | exact er207 | exact er208 | exact er209 | exact er210 | exact er211 | exact er212 | exact er213 | exact er214 | exact er215) rfl (Nat.le_of_ble_eq_true rfl) (by decide) ?_
                refine eg_mabsL cs_X9_241 dX9_contract_84 ⟨by omega, by omega⟩ (Nat.le_of_ble_eq_true rfl) (by decide) ?_
                refine eg_iload_n dX9_contract_87 rfl ?_
                refine eg_i2l dX9_contract_88 ⟨by omega, by omega⟩ ?_
                refine eg_lc_le 96 dX9_contract_89 dX9_contract_90 ⟨by omega, by omega⟩ ⟨by omega, by omega⟩ rfl (fun h89 => ?_) (fun h89 => ?_)
                · refine eg_al_n dX9_contract_96 rfl rfl ?_
                  refine eg_bipush dX9_contract_97 (by decide) ?_
                  refine eg_bipush dX9_contract_99 (by decide) ?_
                  refine eg_iload_n dX9_contract_101 rfl ?_
                  refine eg_imul dX9_contract_102 ?_
                  refine eg_iadd dX9_contract_103 ?_
                  refine eg_iload_n dX9_contract_104 rfl ?_
                  refine eg_iadd dX9_contract_105 ?_
                  refine eg_iload_n dX9_contract_106 rfl ?_
                  refine eg_bipush dX9_contract_107 (by decide) ?_
                  refine eg_Vpf3 cs_X9_216 dX9_contract_109 (m_becomes hI (p := 66 + 7 * a + b) ⟨by omega, by omega⟩ r_c (show iR (gH s.1 a b) from ⟨by omega, by omega⟩)) (by first | exact er202 | exact er203 | exact er204 | exact er205 | exact er206 | exact er207 | exact er208 | exact er209 | exact er210 | exact er211 | exact er212 | exact er213 | exact er214 | exact er215) rfl (Nat.le_of_ble_eq_true rfl) (by decide) ?_
                  rintro y1 ⟨m1, m2⟩
                  refine eg_ireturn dX9_contract_112 rfl rfl ?_
                  have tp : (0 ≤ a ∧ a < s.1 2) ∧ tmB b c = true := ⟨by omega, decide_eq_true (by omega)⟩
                  have e9 : R_contract s a b c = bcR s (66 + 7 * a + b).toNat c (-2) := by
                    unfold R_contract bcR
                    have en : ¬ s.1 (66 + 7 * a + b).toNat = c := h66
                    rw [if_pos tp, if_neg (show ¬ gH s.1 a b = c from h66), if_neg en, if_neg ?_]
                    · rfl
                    · intro hh
                      first | omega | (split at h89 <;> omega)
                  rw [e9]
                  exact ⟨rfl, rfl, y1, rfl, m1, m2⟩
                · refine eg_bipush dX9_contract_93 (by decide) ?_
                  refine eg_ireturn dX9_contract_95 rfl rfl ?_
                  have tp : (0 ≤ a ∧ a < s.1 2) ∧ tmB b c = true := ⟨by omega, decide_eq_true (by omega)⟩
                  rw [show R_contract s a b c = (-3, s) from by unfold R_contract; rw [if_pos tp, if_neg (by omega), if_pos (by split at h89 <;> omega)]]
                  exact ⟨rfl, rfl, z, rfl, FM.rf, hI⟩
            · refine eg_bipush dX9_contract_70 (by decide) ?_
              refine eg_ireturn dX9_contract_72 rfl rfl ?_
              have tp : (0 ≤ a ∧ a < s.1 2) ∧ tmB b c = true := ⟨by omega, decide_eq_true (by omega)⟩
              rw [show R_contract s a b c = (-2, s) from by unfold R_contract; rw [if_pos tp, if_pos (by omega)]]
              exact ⟨rfl, rfl, z, rfl, FM.rf, hI⟩
          · refine eg_iconst dX9_contract_56 ?_
            refine eg_ireturn dX9_contract_57 rfl rfl ?_
            have tn : ¬ ((0 ≤ a ∧ a < s.1 2) ∧ tmB b c = true) := fun hh => by have h2 := of_decide_eq_true hh.2; omega
            rw [show R_contract s a b c = (-1, s) from by unfold R_contract; rw [if_neg tn]]
            exact ⟨rfl, rfl, z, rfl, FM.rf, hI⟩
        · refine eg_ldc2 kw_X9_235 dX9_contract_41 ?_
          refine eg_goto 50 dX9_contract_44 rfl ?_
          refine eg_Sf3 cs_X9_81 dX9_contract_50 (c_in ⟨by omega, by omega⟩ ⟨by omega, by omega⟩ ⟨by omega, by omega⟩) (Nat.le_of_ble_eq_true rfl) (by decide) ?_
          refine eg_bi_ne 58 dX9_contract_53 rfl (fun h53 => ?_) (fun h53 => ?_)
          · refine eg_al_n dX9_contract_58 rfl rfl ?_
            refine eg_iload_n dX9_contract_59 rfl ?_
            refine eg_iload_n dX9_contract_60 rfl ?_
            refine eg_Vf2 cs_X9_237 dX9_contract_61 (c_ship hN (by omega) (by omega) (by omega) (by omega)) (by first | exact er202 | exact er203 | exact er204 | exact er205 | exact er206 | exact er207 | exact er208 | exact er209 | exact er210 | exact er211 | exact er212 | exact er213 | exact er214 | exact er215) rfl (Nat.le_of_ble_eq_true rfl) (by decide) ?_
            have oa := hv.H (s := a) (by omega) (by omega); unfold okH at oa
            have cb : -9999999 ≤ gH s.1 a b ∧ gH s.1 a b ≤ 9999999 := by
              rcases (show b = 0 ∨ b = 1 ∨ b = 2 ∨ b = 3 by omega) with rfl | rfl | rfl | rfl <;> omega
            refine eg_iload_n dX9_contract_64 rfl ?_
            refine eg_i2l dX9_contract_65 ⟨by omega, by omega⟩ ?_
            refine eg_lc_ne 73 dX9_contract_66 dX9_contract_67 ⟨by omega, by omega⟩ ⟨by omega, by omega⟩ rfl (fun h66 => ?_) (fun h66 => ?_)
            · refine eg_iload_n dX9_contract_73 rfl ?_
              refine eg_iconst dX9_contract_74 ?_
              refine eg_icmp_ne 96 dX9_contract_75 ⟨by omega, by omega⟩ ⟨by omega, by omega⟩ rfl (fun h75 => ?_) (fun h75 => ?_)
              · refine eg_al_n dX9_contract_96 rfl rfl ?_
                refine eg_bipush dX9_contract_97 (by decide) ?_
                refine eg_bipush dX9_contract_99 (by decide) ?_
                refine eg_iload_n dX9_contract_101 rfl ?_
                refine eg_imul dX9_contract_102 ?_
                refine eg_iadd dX9_contract_103 ?_
                refine eg_iload_n dX9_contract_104 rfl ?_
                refine eg_iadd dX9_contract_105 ?_
                refine eg_iload_n dX9_contract_106 rfl ?_
                refine eg_bipush dX9_contract_107 (by decide) ?_
                refine eg_Vpf3 cs_X9_216 dX9_contract_109 (m_becomes hI (p := 66 + 7 * a + b) ⟨by omega, by omega⟩ r_c (show iR (gH s.1 a b) from ⟨by omega, by omega⟩)) (by first | exact er202 | exact er203 | exact er204 | exact er205 | exact er206 | exact er207 | exact er208 | exact er209 | exact er210 | exact er211 | exact er212 | exact er213 | exact er214 | exact er215) rfl (Nat.le_of_ble_eq_true rfl) (by decide) ?_
                rintro y1 ⟨m1, m2⟩
                refine eg_ireturn dX9_contract_112 rfl rfl ?_
                have tp : (0 ≤ a ∧ a < s.1 2) ∧ tmB b c = true := ⟨by omega, decide_eq_true (by omega)⟩
                have e9 : R_contract s a b c = bcR s (66 + 7 * a + b).toNat c (-2) := by
                  unfold R_contract bcR
                  have en : ¬ s.1 (66 + 7 * a + b).toNat = c := h66
                  rw [if_pos tp, if_neg (show ¬ gH s.1 a b = c from h66), if_neg en, if_neg ?_]
                  · rfl
                  · intro hh
                    first | omega | (split at h89 <;> omega)
                rw [e9]
                exact ⟨rfl, rfl, y1, rfl, m1, m2⟩
              · refine eg_al_n dX9_contract_78 rfl rfl ?_
                refine eg_iload_n dX9_contract_79 rfl ?_
                refine eg_iconst dX9_contract_80 ?_
                refine eg_Vf2 cs_X9_237 dX9_contract_81 (c_ship hN (by omega) (by omega) (by omega) (by omega)) (by first | exact er202 | exact er203 | exact er204 | exact er205 | exact er206 | exact er207 | exact er208 | exact er209 | exact er210 | exact er211 | exact er212 | exact er213 | exact er214 | exact er215) rfl (Nat.le_of_ble_eq_true rfl) (by decide) ?_
                refine eg_mabsL cs_X9_241 dX9_contract_84 ⟨by omega, by omega⟩ (Nat.le_of_ble_eq_true rfl) (by decide) ?_
                refine eg_iload_n dX9_contract_87 rfl ?_
                refine eg_i2l dX9_contract_88 ⟨by omega, by omega⟩ ?_
                refine eg_lc_le 96 dX9_contract_89 dX9_contract_90 ⟨by omega, by omega⟩ ⟨by omega, by omega⟩ rfl (fun h89 => ?_) (fun h89 => ?_)
                · refine eg_al_n dX9_contract_96 rfl rfl ?_
                  refine eg_bipush dX9_contract_97 (by decide) ?_
                  refine eg_bipush dX9_contract_99 (by decide) ?_
                  refine eg_iload_n dX9_contract_101 rfl ?_
                  refine eg_imul dX9_contract_102 ?_
                  refine eg_iadd dX9_contract_103 ?_
                  refine eg_iload_n dX9_contract_104 rfl ?_
                  refine eg_iadd dX9_contract_105 ?_
                  refine eg_iload_n dX9_contract_106 rfl ?_
                  refine eg_bipush dX9_contract_107 (by decide) ?_
                  refine eg_Vpf3 cs_X9_216 dX9_contract_109 (m_becomes hI (p := 66 + 7 * a + b) ⟨by omega, by omega⟩ r_c (show iR (gH s.1 a b) from ⟨by omega, by omega⟩)) (by first | exact er202 | exact er203 | exact er204 | exact er205 | exact er206 | exact er207 | exact er208 | exact er209 | exact er210 | exact er211 | exact er212 | exact er213 | exact er214 | exact er215) rfl (Nat.le_of_ble_eq_true rfl) (by decide) ?_
                  rintro y1 ⟨m1, m2⟩
                  refine eg_ireturn dX9_contract_112 rfl rfl ?_
                  have tp : (0 ≤ a ∧ a < s.1 2) ∧ tmB b c = true := ⟨by omega, decide_eq_true (by omega)⟩
                  have e9 : R_contract s a b c = bcR s (66 + 7 * a + b).toNat c (-2) := by
                    unfold R_contract bcR
                    have en : ¬ s.1 (66 + 7 * a + b).toNat = c := h66
                    rw [if_pos tp, if_neg (show ¬ gH s.1 a b = c from h66), if_neg en, if_neg ?_]
                    · rfl
                    · intro hh
                      first | omega | (split at h89 <;> omega)
                  rw [e9]
                  exact ⟨rfl, rfl, y1, rfl, m1, m2⟩
                · refine eg_bipush dX9_contract_93 (by decide) ?_
                  refine eg_ireturn dX9_contract_95 rfl rfl ?_
                  have tp : (0 ≤ a ∧ a < s.1 2) ∧ tmB b c = true := ⟨by omega, decide_eq_true (by omega)⟩
                  rw [show R_contract s a b c = (-3, s) from by unfold R_contract; rw [if_pos tp, if_neg (by omega), if_pos (by split at h89 <;> omega)]]
                  exact ⟨rfl, rfl, z, rfl, FM.rf, hI⟩
            · refine eg_bipush dX9_contract_70 (by decide) ?_
              refine eg_ireturn dX9_contract_72 rfl rfl ?_
              have tp : (0 ≤ a ∧ a < s.1 2) ∧ tmB b c = true := ⟨by omega, decide_eq_true (by omega)⟩
              rw [show R_contract s a b c = (-2, s) from by unfold R_contract; rw [if_pos tp, if_pos (by omega)]]
              exact ⟨rfl, rfl, z, rfl, FM.rf, hI⟩
          · refine eg_iconst dX9_contract_56 ?_
            refine eg_ireturn dX9_contract_57 rfl rfl ?_
            have tn : ¬ ((0 ≤ a ∧ a < s.1 2) ∧ tmB b c = true) := fun hh => by have h2 := of_decide_eq_true hh.2; omega
            rw [show R_contract s a b c = (-1, s) from by unfold R_contract; rw [if_neg tn]]
            exact ⟨rfl, rfl, z, rfl, FM.rf, hI⟩
      · refine eg_iconst dX9_contract_27 ?_
        refine eg_goto 32 dX9_contract_28 rfl ?_
        refine eg_Sf1 cs_X9_118 dX9_contract_32 (c_truth (by omega)) (Nat.le_of_ble_eq_true rfl) (by decide) ?_
        refine eg_i2l dX9_contract_35 ⟨by omega, by omega⟩ ?_
        refine eg_iload_n dX9_contract_36 rfl ?_
        refine eg_iconst dX9_contract_37 ?_
        refine eg_icmp_ne 47 dX9_contract_38 ⟨by omega, by omega⟩ ⟨by omega, by omega⟩ rfl (fun h38 => ?_) (fun h38 => ?_)
        · refine eg_ldc2 kw_X9_167 dX9_contract_47 ?_
          refine eg_Sf3 cs_X9_81 dX9_contract_50 (c_in ⟨by omega, by omega⟩ ⟨by omega, by omega⟩ ⟨by omega, by omega⟩) (Nat.le_of_ble_eq_true rfl) (by decide) ?_
          refine eg_bi_ne 58 dX9_contract_53 rfl (fun h53 => ?_) (fun h53 => ?_)
          · refine eg_al_n dX9_contract_58 rfl rfl ?_
            refine eg_iload_n dX9_contract_59 rfl ?_
            refine eg_iload_n dX9_contract_60 rfl ?_
            refine eg_Vf2 cs_X9_237 dX9_contract_61 (c_ship hN (by omega) (by omega) (by omega) (by omega)) (by first | exact er202 | exact er203 | exact er204 | exact er205 | exact er206 | exact er207 | exact er208 | exact er209 | exact er210 | exact er211 | exact er212 | exact er213 | exact er214 | exact er215) rfl (Nat.le_of_ble_eq_true rfl) (by decide) ?_
            have oa := hv.H (s := a) (by omega) (by omega); unfold okH at oa
            have cb : -9999999 ≤ gH s.1 a b ∧ gH s.1 a b ≤ 9999999 := by
              rcases (show b = 0 ∨ b = 1 ∨ b = 2 ∨ b = 3 by omega) with rfl | rfl | rfl | rfl <;> omega
            refine eg_iload_n dX9_contract_64 rfl ?_
            refine eg_i2l dX9_contract_65 ⟨by omega, by omega⟩ ?_
            refine eg_lc_ne 73 dX9_contract_66 dX9_contract_67 ⟨by omega, by omega⟩ ⟨by omega, by omega⟩ rfl (fun h66 => ?_) (fun h66 => ?_)
            · refine eg_iload_n dX9_contract_73 rfl ?_
              refine eg_iconst dX9_contract_74 ?_
              refine eg_icmp_ne 96 dX9_contract_75 ⟨by omega, by omega⟩ ⟨by omega, by omega⟩ rfl (fun h75 => ?_) (fun h75 => ?_)
              · refine eg_al_n dX9_contract_96 rfl rfl ?_
                refine eg_bipush dX9_contract_97 (by decide) ?_
                refine eg_bipush dX9_contract_99 (by decide) ?_
                refine eg_iload_n dX9_contract_101 rfl ?_
                refine eg_imul dX9_contract_102 ?_
                refine eg_iadd dX9_contract_103 ?_
                refine eg_iload_n dX9_contract_104 rfl ?_
                refine eg_iadd dX9_contract_105 ?_
                refine eg_iload_n dX9_contract_106 rfl ?_
                refine eg_bipush dX9_contract_107 (by decide) ?_
                refine eg_Vpf3 cs_X9_216 dX9_contract_109 (m_becomes hI (p := 66 + 7 * a + b) ⟨by omega, by omega⟩ r_c (show iR (gH s.1 a b) from ⟨by omega, by omega⟩)) (by first | exact er202 | exact er203 | exact er204 | exact er205 | exact er206 | exact er207 | exact er208 | exact er209 | exact er210 | exact er211 | exact er212 | exact er213 | exact er214 | exact er215) rfl (Nat.le_of_ble_eq_true rfl) (by decide) ?_
                rintro y1 ⟨m1, m2⟩
                refine eg_ireturn dX9_contract_112 rfl rfl ?_
                have tp : (0 ≤ a ∧ a < s.1 2) ∧ tmB b c = true := ⟨by omega, decide_eq_true (by omega)⟩
                have e9 : R_contract s a b c = bcR s (66 + 7 * a + b).toNat c (-2) := by
                  unfold R_contract bcR
                  have en : ¬ s.1 (66 + 7 * a + b).toNat = c := h66
                  rw [if_pos tp, if_neg (show ¬ gH s.1 a b = c from h66), if_neg en, if_neg ?_]
                  · rfl
                  · intro hh
                    first | omega | (split at h89 <;> omega)
                rw [e9]
                exact ⟨rfl, rfl, y1, rfl, m1, m2⟩
              · refine eg_al_n dX9_contract_78 rfl rfl ?_
                refine eg_iload_n dX9_contract_79 rfl ?_
                refine eg_iconst dX9_contract_80 ?_
                refine eg_Vf2 cs_X9_237 dX9_contract_81 (c_ship hN (by omega) (by omega) (by omega) (by omega)) (by first | exact er202 | exact er203 | exact er204 | exact er205 | exact er206 | exact er207 | exact er208 | exact er209 | exact er210 | exact er211 | exact er212 | exact er213 | exact er214 | exact er215) rfl (Nat.le_of_ble_eq_true rfl) (by decide) ?_
                refine eg_mabsL cs_X9_241 dX9_contract_84 ⟨by omega, by omega⟩ (Nat.le_of_ble_eq_true rfl) (by decide) ?_
                refine eg_iload_n dX9_contract_87 rfl ?_
                refine eg_i2l dX9_contract_88 ⟨by omega, by omega⟩ ?_
                refine eg_lc_le 96 dX9_contract_89 dX9_contract_90 ⟨by omega, by omega⟩ ⟨by omega, by omega⟩ rfl (fun h89 => ?_) (fun h89 => ?_)
                · refine eg_al_n dX9_contract_96 rfl rfl ?_
                  refine eg_bipush dX9_contract_97 (by decide) ?_
                  refine eg_bipush dX9_contract_99 (by decide) ?_
                  refine eg_iload_n dX9_contract_101 rfl ?_
                  refine eg_imul dX9_contract_102 ?_
                  refine eg_iadd dX9_contract_103 ?_
                  refine eg_iload_n dX9_contract_104 rfl ?_
                  refine eg_iadd dX9_contract_105 ?_
                  refine eg_iload_n dX9_contract_106 rfl ?_
                  refine eg_bipush dX9_contract_107 (by decide) ?_
                  refine eg_Vpf3 cs_X9_216 dX9_contract_109 (m_becomes hI (p := 66 + 7 * a + b) ⟨by omega, by omega⟩ r_c (show iR (gH s.1 a b) from ⟨by omega, by omega⟩)) (by first | exact er202 | exact er203 | exact er204 | exact er205 | exact er206 | exact er207 | exact er208 | exact er209 | exact er210 | exact er211 | exact er212 | exact er213 | exact er214 | exact er215) rfl (Nat.le_of_ble_eq_true rfl) (by decide) ?_
                  rintro y1 ⟨m1, m2⟩
                  refine eg_ireturn dX9_contract_112 rfl rfl ?_
                  have tp : (0 ≤ a ∧ a < s.1 2) ∧ tmB b c = true := ⟨by omega, decide_eq_true (by omega)⟩
                  have e9 : R_contract s a b c = bcR s (66 + 7 * a + b).toNat c (-2) := by
                    unfold R_contract bcR
                    have en : ¬ s.1 (66 + 7 * a + b).toNat = c := h66
                    rw [if_pos tp, if_neg (show ¬ gH s.1 a b = c from h66), if_neg en, if_neg ?_]
                    · rfl
                    · intro hh
                      first | omega | (split at h89 <;> omega)
                  rw [e9]
                  exact ⟨rfl, rfl, y1, rfl, m1, m2⟩
                · refine eg_bipush dX9_contract_93 (by decide) ?_
                  refine eg_ireturn dX9_contract_95 rfl rfl ?_
                  have tp : (0 ≤ a ∧ a < s.1 2) ∧ tmB b c = true := ⟨by omega, decide_eq_true (by omega)⟩
                  rw [show R_contract s a b c = (-3, s) from by unfold R_contract; rw [if_pos tp, if_neg (by omega), if_pos (by split at h89 <;> omega)]]
                  exact ⟨rfl, rfl, z, rfl, FM.rf, hI⟩
            · refine eg_bipush dX9_contract_70 (by decide) ?_
              refine eg_ireturn dX9_contract_72 rfl rfl ?_
              have tp : (0 ≤ a ∧ a < s.1 2) ∧ tmB b c = true := ⟨by omega, decide_eq_true (by omega)⟩
              rw [show R_contract s a b c = (-2, s) from by unfold R_contract; rw [if_pos tp, if_pos (by omega)]]
              exact ⟨rfl, rfl, z, rfl, FM.rf, hI⟩
          · refine eg_iconst dX9_contract_56 ?_
            refine eg_ireturn dX9_contract_57 rfl rfl ?_
            have tn : ¬ ((0 ≤ a ∧ a < s.1 2) ∧ tmB b c = true) := fun hh => by have h2 := of_decide_eq_true hh.2; omega
            rw [show R_contract s a b c = (-1, s) from by unfold R_contract; rw [if_neg tn]]
            exact ⟨rfl, rfl, z, rfl, FM.rf, hI⟩
        · refine eg_ldc2 kw_X9_235 dX9_contract_41 ?_
          refine eg_goto 50 dX9_contract_44 rfl ?_
          refine eg_Sf3 cs_X9_81 dX9_contract_50 (c_in ⟨by omega, by omega⟩ ⟨by omega, by omega⟩ ⟨by omega, by omega⟩) (Nat.le_of_ble_eq_true rfl) (by decide) ?_
          refine eg_bi_ne 58 dX9_contract_53 rfl (fun h53 => ?_) (fun h53 => ?_)
          · refine eg_al_n dX9_contract_58 rfl rfl ?_
            refine eg_iload_n dX9_contract_59 rfl ?_
            refine eg_iload_n dX9_contract_60 rfl ?_
            refine eg_Vf2 cs_X9_237 dX9_contract_61 (c_ship hN (by omega) (by omega) (by omega) (by omega)) (by first | exact er202 | exact er203 | exact er204 | exact er205 | exact er206 | exact er207 | exact er208 | exact er209 | exact er210 | exact er211 | exact er212 | exact er213 | exact er214 | exact er215) rfl (Nat.le_of_ble_eq_true rfl) (by decide) ?_
            have oa := hv.H (s := a) (by omega) (by omega); unfold okH at oa
            have cb : -9999999 ≤ gH s.1 a b ∧ gH s.1 a b ≤ 9999999 := by
              rcases (show b = 0 ∨ b = 1 ∨ b = 2 ∨ b = 3 by omega) with rfl | rfl | rfl | rfl <;> omega
            refine eg_iload_n dX9_contract_64 rfl ?_
            refine eg_i2l dX9_contract_65 ⟨by omega, by omega⟩ ?_
            refine eg_lc_ne 73 dX9_contract_66 dX9_contract_67 ⟨by omega, by omega⟩ ⟨by omega, by omega⟩ rfl (fun h66 => ?_) (fun h66 => ?_)
            · refine eg_iload_n dX9_contract_73 rfl ?_
              refine eg_iconst dX9_contract_74 ?_
              refine eg_icmp_ne 96 dX9_contract_75 ⟨by omega, by omega⟩ ⟨by omega, by omega⟩ rfl (fun h75 => ?_) (fun h75 => ?_)
              · refine eg_al_n dX9_contract_96 rfl rfl ?_
                refine eg_bipush dX9_contract_97 (by decide) ?_
                refine eg_bipush dX9_contract_99 (by decide) ?_
                refine eg_iload_n dX9_contract_101 rfl ?_
                refine eg_imul dX9_contract_102 ?_
                refine eg_iadd dX9_contract_103 ?_
                refine eg_iload_n dX9_contract_104 rfl ?_
                refine eg_iadd dX9_contract_105 ?_
                refine eg_iload_n dX9_contract_106 rfl ?_
                refine eg_bipush dX9_contract_107 (by decide) ?_
                refine eg_Vpf3 cs_X9_216 dX9_contract_109 (m_becomes hI (p := 66 + 7 * a + b) ⟨by omega, by omega⟩ r_c (show iR (gH s.1 a b) from ⟨by omega, by omega⟩)) (by first | exact er202 | exact er203 | exact er204 | exact er205 | exact er206 | exact er207 | exact er208 | exact er209 | exact er210 | exact er211 | exact er212 | exact er213 | exact er214 | exact er215) rfl (Nat.le_of_ble_eq_true rfl) (by decide) ?_
                rintro y1 ⟨m1, m2⟩
                refine eg_ireturn dX9_contract_112 rfl rfl ?_
                have tp : (0 ≤ a ∧ a < s.1 2) ∧ tmB b c = true := ⟨by omega, decide_eq_true (by omega)⟩
                have e9 : R_contract s a b c = bcR s (66 + 7 * a + b).toNat c (-2) := by
                  unfold R_contract bcR
                  have en : ¬ s.1 (66 + 7 * a + b).toNat = c := h66
                  rw [if_pos tp, if_neg (show ¬ gH s.1 a b = c from h66), if_neg en, if_neg ?_]
                  · rfl
                  · intro hh
                    first | omega | (split at h89 <;> omega)
                rw [e9]
                exact ⟨rfl, rfl, y1, rfl, m1, m2⟩
              · refine eg_al_n dX9_contract_78 rfl rfl ?_
                refine eg_iload_n dX9_contract_79 rfl ?_
                refine eg_iconst dX9_contract_80 ?_
                refine eg_Vf2 cs_X9_237 dX9_contract_81 (c_ship hN (by omega) (by omega) (by omega) (by omega)) (by first | exact er202 | exact er203 | exact er204 | exact er205 | exact er206 | exact er207 | exact er208 | exact er209 | exact er210 | exact er211 | exact er212 | exact er213 | exact er214 | exact er215) rfl (Nat.le_of_ble_eq_true rfl) (by decide) ?_
                refine eg_mabsL cs_X9_241 dX9_contract_84 ⟨by omega, by omega⟩ (Nat.le_of_ble_eq_true rfl) (by decide) ?_
                refine eg_iload_n dX9_contract_87 rfl ?_
                refine eg_i2l dX9_contract_88 ⟨by omega, by omega⟩ ?_
                refine eg_lc_le 96 dX9_contract_89 dX9_contract_90 ⟨by omega, by omega⟩ ⟨by omega, by omega⟩ rfl (fun h89 => ?_) (fun h89 => ?_)
                · refine eg_al_n dX9_contract_96 rfl rfl ?_
                  refine eg_bipush dX9_contract_97 (by decide) ?_
                  refine eg_bipush dX9_contract_99 (by decide) ?_
                  refine eg_iload_n dX9_contract_101 rfl ?_
                  refine eg_imul dX9_contract_102 ?_
                  refine eg_iadd dX9_contract_103 ?_
                  refine eg_iload_n dX9_contract_104 rfl ?_
                  refine eg_iadd dX9_contract_105 ?_
                  refine eg_iload_n dX9_contract_106 rfl ?_
                  refine eg_bipush dX9_contract_107 (by decide) ?_
                  refine eg_Vpf3 cs_X9_216 dX9_contract_109 (m_becomes hI (p := 66 + 7 * a + b) ⟨by omega, by omega⟩ r_c (show iR (gH s.1 a b) from ⟨by omega, by omega⟩)) (by first | exact er202 | exact er203 | exact er204 | exact er205 | exact er206 | exact er207 | exact er208 | exact er209 | exact er210 | exact er211 | exact er212 | exact er213 | exact er214 | exact er215) rfl (Nat.le_of_ble_eq_true rfl) (by decide) ?_
                  rintro y1 ⟨m1, m2⟩
                  refine eg_ireturn dX9_contract_112 rfl rfl ?_
                  have tp : (0 ≤ a ∧ a < s.1 2) ∧ tmB b c = true := ⟨by omega, decide_eq_true (by omega)⟩
                  have e9 : R_contract s a b c = bcR s (66 + 7 * a + b).toNat c (-2) := by
                    unfold R_contract bcR
                    have en : ¬ s.1 (66 + 7 * a + b).toNat = c := h66
                    rw [if_pos tp, if_neg (show ¬ gH s.1 a b = c from h66), if_neg en, if_neg ?_]
                    · rfl
                    · intro hh
                      first | omega | (split at h89 <;> omega)
                  rw [e9]
                  exact ⟨rfl, rfl, y1, rfl, m1, m2⟩
                · refine eg_bipush dX9_contract_93 (by decide) ?_
                  refine eg_ireturn dX9_contract_95 rfl rfl ?_
                  have tp : (0 ≤ a ∧ a < s.1 2) ∧ tmB b c = true := ⟨by omega, decide_eq_true (by omega)⟩
                  rw [show R_contract s a b c = (-3, s) from by unfold R_contract; rw [if_pos tp, if_neg (by omega), if_pos (by split at h89 <;> omega)]]
                  exact ⟨rfl, rfl, z, rfl, FM.rf, hI⟩
            · refine eg_bipush dX9_contract_70 (by decide) ?_
              refine eg_ireturn dX9_contract_72 rfl rfl ?_
              have tp : (0 ≤ a ∧ a < s.1 2) ∧ tmB b c = true := ⟨by omega, decide_eq_true (by omega)⟩
              rw [show R_contract s a b c = (-2, s) from by unfold R_contract; rw [if_pos tp, if_pos (by omega)]]
              exact ⟨rfl, rfl, z, rfl, FM.rf, hI⟩
          · refine eg_iconst dX9_contract_56 ?_
            refine eg_ireturn dX9_contract_57 rfl rfl ?_
            have tn : ¬ ((0 ≤ a ∧ a < s.1 2) ∧ tmB b c = true) := fun hh => by have h2 := of_decide_eq_true hh.2; omega
            rw [show R_contract s a b c = (-1, s) from by unfold R_contract; rw [if_neg tn]]
            exact ⟨rfl, rfl, z, rfl, FM.rf, hI⟩
theorem m_trade {k : eg_K} {z : eg_Z} {X : eg_M} {n : Nat} {s : eg_S} (hI : IM z s) (hO : OS s) {a b c : Int} (r_a : iR a) (r_b : iR b) (r_c : iR c) : eg_P k gX9_trade 3 0 0 [vR k 202, vI a, vI b, vI c] n (enc k z X) (eg_p k (some (vI (R_trade s a b c).1)) n X (fun z' => FM z z' ∧ IM z' (R_trade s a b c).2)) := by
  refine eg_P.of (by decide) (Nat.le_of_ble_eq_true rfl) ?_
  show eg_E k gX9_trade 3 0 0 n (enc k z X) [vR k 202, vI a, vI b, vI c] [] 0 _
  have hN := hI.1
  have hv := hO.1.1
  have q := hv.r.2
  have hF : ∀ c, c ≠ 203 → z c = z c := fun _ _ => rfl
  have r_a1 := r_a.1; have r_a2 := r_a.2; have r_b1 := r_b.1; have r_b2 := r_b.2; have r_c1 := r_c.1; have r_c2 := r_c.2
  have J : dlB s.1 a b c = true → eg_E k gX9_trade 3 0 0 n (enc k z X) [vR k 202, vI a, vI b, vI c] [] 12 (eg_p k (some (vI (R_trade s a b c).1)) n X (fun z' => FM z z' ∧ IM z' (R_trade s a b c).2)) := by
    intro h7
    have dl := of_decide_eq_true h7
    have oa := hv.H (s := a) (by omega) (by omega); have ob := hv.H (s := b) (by omega) (by omega); unfold okH at oa ob
    refine eg_al_n dX9_trade_12 rfl rfl ?_
    refine eg_iload_n dX9_trade_13 rfl ?_
    refine eg_iconst dX9_trade_14 ?_
    refine eg_Vf2 cs_X9_237 dX9_trade_15 (c_ship hN (by omega) (by omega) (by omega) (by omega)) (by first | exact er202 | exact er203 | exact er204 | exact er205 | exact er206 | exact er207 | exact er208 | exact er209 | exact er210 | exact er211 | exact er212 | exact er213 | exact er214 | exact er215) rfl (Nat.le_of_ble_eq_true rfl) (by decide) ?_
    refine eg_iload_n dX9_trade_18 rfl ?_
    refine eg_i2l dX9_trade_19 ⟨by omega, by omega⟩ ?_
    refine eg_lc_lt 37 dX9_trade_20 dX9_trade_21 ⟨by omega, by omega⟩ ⟨by omega, by omega⟩ rfl (fun h20 => ?_) (fun h20 => ?_)
    · refine eg_bipush dX9_trade_37 (by decide) ?_
      refine eg_ireturn dX9_trade_39 rfl rfl ?_
      rw [show R_trade s a b c = (-2, s) from by unfold R_trade; rw [if_pos h7, if_pos (by omega)]]
      exact ⟨rfl, rfl, z, rfl, FM.rf, hI⟩
    · refine eg_al_n dX9_trade_24 rfl rfl ?_
      refine eg_iload_n dX9_trade_25 rfl ?_
      refine eg_iconst dX9_trade_26 ?_
      refine eg_Vf2 cs_X9_237 dX9_trade_27 (c_ship hN (by omega) (by omega) (by omega) (by omega)) (by first | exact er202 | exact er203 | exact er204 | exact er205 | exact er206 | exact er207 | exact er208 | exact er209 | exact er210 | exact er211 | exact er212 | exact er213 | exact er214 | exact er215) rfl (Nat.le_of_ble_eq_true rfl) (by decide) ?_
      refine eg_iload_n dX9_trade_30 rfl ?_
      refine eg_ineg dX9_trade_31 ?_
      refine eg_i2l dX9_trade_32 ⟨by omega, by omega⟩ ?_
      refine eg_lc_le 40 dX9_trade_33 dX9_trade_34 ⟨by omega, by omega⟩ ⟨by omega, by omega⟩ rfl (fun h33 => ?_) (fun h33 => ?_)
      · refine eg_al_n dX9_trade_40 rfl rfl ?_
        refine eg_Vpv0 cs_X9_206 dX9_trade_41 (c_keepsPast hN hI.2.1.1 hI.2.1.2.1 hI.2.1.2.2) (by first | exact er202 | exact er203 | exact er204 | exact er205 | exact er206 | exact er207 | exact er208 | exact er209 | exact er210 | exact er211 | exact er212 | exact er213 | exact er214 | exact er215) rfl (Nat.le_of_ble_eq_true rfl) (by decide) ?_
        rintro y1 ⟨m1, m2, m3, m4⟩
        have hN : nw y1 s.1 := nw_c (m1 203 (by decide) (by decide)) hN
        have hF : ∀ c, c ≠ 203 → y1 c = y1 c := fun _ _ => rfl
        refine eg_al_n dX9_trade_44 rfl rfl ?_
        refine eg_iload_n dX9_trade_45 rfl ?_
        refine eg_iload_n dX9_trade_46 rfl ?_
        refine eg_iconst dX9_trade_47 ?_
        refine eg_iload_n dX9_trade_48 rfl ?_
        refine eg_i2l dX9_trade_49 ⟨by omega, by omega⟩ ?_
        refine eg_Vpv4 cs_X9_249 dX9_trade_50 (c_goes hN ⟨by omega, by omega⟩ ⟨by omega, by omega⟩ (by omega)) (by first | exact er202 | exact er203 | exact er204 | exact er205 | exact er206 | exact er207 | exact er208 | exact er209 | exact er210 | exact er211 | exact er212 | exact er213 | exact er214 | exact er215) rfl (Nat.le_of_ble_eq_true rfl) (by decide) ?_
        rintro y2 ⟨f2, n2⟩
        refine eg_iconst dX9_trade_53 ?_
        refine eg_ireturn dX9_trade_54 rfl rfl ?_
        rw [show R_trade s a b c = (1, puS s (mvV s.1 a b 4 c)) from by unfold R_trade; rw [if_pos h7, if_neg (by omega)]]
        exact ⟨rfl, rfl, y2, rfl, hI.push m1 m2 m3 m4 f2 n2⟩
      · refine eg_bipush dX9_trade_37 (by decide) ?_
        refine eg_ireturn dX9_trade_39 rfl rfl ?_
        rw [show R_trade s a b c = (-2, s) from by unfold R_trade; rw [if_pos h7, if_pos (by omega)]]
        exact ⟨rfl, rfl, z, rfl, FM.rf, hI⟩
  refine eg_al_n dX9_trade_0 rfl rfl ?_
  refine eg_iload_n dX9_trade_1 rfl ?_
  refine eg_iload_n dX9_trade_2 rfl ?_
  refine eg_iload_n dX9_trade_3 rfl ?_
  refine eg_Vf3 cs_X9_245 dX9_trade_4 (c_areShippers hN hv r_a r_b r_c) (by first | exact er202 | exact er203 | exact er204 | exact er205 | exact er206 | exact er207 | exact er208 | exact er209 | exact er210 | exact er211 | exact er212 | exact er213 | exact er214 | exact er215) rfl (Nat.le_of_ble_eq_true rfl) (by decide) ?_
  refine eg_bi_ne 12 dX9_trade_7 rfl (fun h7 => ?_) (fun h7 => ?_)
  · exact J h7
  · refine eg_iconst dX9_trade_10 ?_
    refine eg_ireturn dX9_trade_11 rfl rfl ?_
    rw [show R_trade s a b c = (-1, s) from by unfold R_trade; rw [if_neg h7]]
    exact ⟨rfl, rfl, z, rfl, FM.rf, hI⟩
theorem m_lend {k : eg_K} {z : eg_Z} {X : eg_M} {n : Nat} {s : eg_S} (hI : IM z s) (hO : OS s) {a b c : Int} (r_a : iR a) (r_b : iR b) (r_c : iR c) : eg_P k gX9_lend 3 0 0 [vR k 202, vI a, vI b, vI c] n (enc k z X) (eg_p k (some (vI (R_lend s a b c).1)) n X (fun z' => FM z z' ∧ IM z' (R_lend s a b c).2)) := by
  refine eg_P.of (by decide) (Nat.le_of_ble_eq_true rfl) ?_
  show eg_E k gX9_lend 3 0 0 n (enc k z X) [vR k 202, vI a, vI b, vI c] [] 0 _
  have hN := hI.1
  have hv := hO.1.1
  have q := hv.r.2
  have hF : ∀ c, c ≠ 203 → z c = z c := fun _ _ => rfl
  have r_a1 := r_a.1; have r_a2 := r_a.2; have r_b1 := r_b.1; have r_b2 := r_b.2; have r_c1 := r_c.1; have r_c2 := r_c.2
  have J : dlB s.1 a b c = true → eg_E k gX9_lend 3 0 0 n (enc k z X) [vR k 202, vI a, vI b, vI c] [] 12 (eg_p k (some (vI (R_lend s a b c).1)) n X (fun z' => FM z z' ∧ IM z' (R_lend s a b c).2)) := by
    intro h7
    have dl := of_decide_eq_true h7
    have oa := hv.H (s := a) (by omega) (by omega); have ob := hv.H (s := b) (by omega) (by omega); unfold okH at oa ob
    refine eg_al_n dX9_lend_12 rfl rfl ?_
    refine eg_iload_n dX9_lend_13 rfl ?_
    refine eg_iconst dX9_lend_14 ?_
    refine eg_Vf2 cs_X9_237 dX9_lend_15 (c_ship hN (by omega) (by omega) (by omega) (by omega)) (by first | exact er202 | exact er203 | exact er204 | exact er205 | exact er206 | exact er207 | exact er208 | exact er209 | exact er210 | exact er211 | exact er212 | exact er213 | exact er214 | exact er215) rfl (Nat.le_of_ble_eq_true rfl) (by decide) ?_
    refine eg_iload_n dX9_lend_18 rfl ?_
    refine eg_i2l dX9_lend_19 ⟨by omega, by omega⟩ ?_
    refine eg_lc_ge 27 dX9_lend_20 dX9_lend_21 ⟨by omega, by omega⟩ ⟨by omega, by omega⟩ rfl (fun h20 => ?_) (fun h20 => ?_)
    · refine eg_al_n dX9_lend_27 rfl rfl ?_
      refine eg_iload_n dX9_lend_28 rfl ?_
      refine eg_iconst dX9_lend_29 ?_
      refine eg_Vf2 cs_X9_237 dX9_lend_30 (c_ship hN (by omega) (by omega) (by omega) (by omega)) (by first | exact er202 | exact er203 | exact er204 | exact er205 | exact er206 | exact er207 | exact er208 | exact er209 | exact er210 | exact er211 | exact er212 | exact er213 | exact er214 | exact er215) rfl (Nat.le_of_ble_eq_true rfl) (by decide) ?_
      refine eg_iload_n dX9_lend_33 rfl ?_
      refine eg_i2l dX9_lend_34 ⟨by omega, by omega⟩ ?_
      refine eg_ladd dX9_lend_35 ?_
      refine eg_al_n dX9_lend_36 rfl rfl ?_
      refine eg_iload_n dX9_lend_37 rfl ?_
      refine eg_iconst dX9_lend_38 ?_
      refine eg_Vf2 cs_X9_237 dX9_lend_39 (c_ship hN (by omega) (by omega) (by omega) (by omega)) (by first | exact er202 | exact er203 | exact er204 | exact er205 | exact er206 | exact er207 | exact er208 | exact er209 | exact er210 | exact er211 | exact er212 | exact er213 | exact er214 | exact er215) rfl (Nat.le_of_ble_eq_true rfl) (by decide) ?_
      refine eg_lc_le 49 dX9_lend_42 dX9_lend_43 ⟨by omega, by omega⟩ ⟨by omega, by omega⟩ rfl (fun h42 => ?_) (fun h42 => ?_)
      · refine eg_al_n dX9_lend_49 rfl rfl ?_
        refine eg_Vpv0 cs_X9_206 dX9_lend_50 (c_keepsPast hN hI.2.1.1 hI.2.1.2.1 hI.2.1.2.2) (by first | exact er202 | exact er203 | exact er204 | exact er205 | exact er206 | exact er207 | exact er208 | exact er209 | exact er210 | exact er211 | exact er212 | exact er213 | exact er214 | exact er215) rfl (Nat.le_of_ble_eq_true rfl) (by decide) ?_
        rintro y1 ⟨m1, m2, m3, m4⟩
        have hN : nw y1 s.1 := nw_c (m1 203 (by decide) (by decide)) hN
        have hF : ∀ c, c ≠ 203 → y1 c = y1 c := fun _ _ => rfl
        refine eg_al_n dX9_lend_53 rfl rfl ?_
        refine eg_iload_n dX9_lend_54 rfl ?_
        refine eg_iload_n dX9_lend_55 rfl ?_
        refine eg_iconst dX9_lend_56 ?_
        refine eg_iload_n dX9_lend_57 rfl ?_
        refine eg_i2l dX9_lend_58 ⟨by omega, by omega⟩ ?_
        refine eg_Vpv4 cs_X9_249 dX9_lend_59 (c_goes hN ⟨by omega, by omega⟩ ⟨by omega, by omega⟩ (by omega)) (by first | exact er202 | exact er203 | exact er204 | exact er205 | exact er206 | exact er207 | exact er208 | exact er209 | exact er210 | exact er211 | exact er212 | exact er213 | exact er214 | exact er215) rfl (Nat.le_of_ble_eq_true rfl) (by decide) ?_
        rintro y2 ⟨f2, n2⟩
        refine eg_iconst dX9_lend_62 ?_
        refine eg_ireturn dX9_lend_63 rfl rfl ?_
        rw [show R_lend s a b c = (1, puS s (mvV s.1 a b 5 c)) from by unfold R_lend; rw [if_pos h7, if_neg (by omega), if_pos (by omega)]]
        exact ⟨rfl, rfl, y2, rfl, hI.push m1 m2 m3 m4 f2 n2⟩
      · refine eg_bipush dX9_lend_46 (by decide) ?_
        refine eg_ireturn dX9_lend_48 rfl rfl ?_
        rw [show R_lend s a b c = (-3, s) from by unfold R_lend; rw [if_pos h7, if_neg (by omega), if_neg (by omega)]]
        exact ⟨rfl, rfl, z, rfl, FM.rf, hI⟩
    · refine eg_bipush dX9_lend_24 (by decide) ?_
      refine eg_ireturn dX9_lend_26 rfl rfl ?_
      rw [show R_lend s a b c = (-2, s) from by unfold R_lend; rw [if_pos h7, if_pos (by omega)]]
      exact ⟨rfl, rfl, z, rfl, FM.rf, hI⟩
  refine eg_al_n dX9_lend_0 rfl rfl ?_
  refine eg_iload_n dX9_lend_1 rfl ?_
  refine eg_iload_n dX9_lend_2 rfl ?_
  refine eg_iload_n dX9_lend_3 rfl ?_
  refine eg_Vf3 cs_X9_245 dX9_lend_4 (c_areShippers hN hv r_a r_b r_c) (by first | exact er202 | exact er203 | exact er204 | exact er205 | exact er206 | exact er207 | exact er208 | exact er209 | exact er210 | exact er211 | exact er212 | exact er213 | exact er214 | exact er215) rfl (Nat.le_of_ble_eq_true rfl) (by decide) ?_
  refine eg_bi_ne 12 dX9_lend_7 rfl (fun h7 => ?_) (fun h7 => ?_)
  · exact J h7
  · refine eg_iconst dX9_lend_10 ?_
    refine eg_ireturn dX9_lend_11 rfl rfl ?_
    rw [show R_lend s a b c = (-1, s) from by unfold R_lend; rw [if_neg h7]]
    exact ⟨rfl, rfl, z, rfl, FM.rf, hI⟩
theorem m_store {k : eg_K} {z : eg_Z} {X : eg_M} {n : Nat} {s : eg_S} (hI : IM z s) (hO : OS s) {a b : Int} (r_a : iR a) (r_b : iR b) : eg_P k gX9_store 2 0 0 [vR k 202, vI a, vI b] n (enc k z X) (eg_p k (some (vI (R_store s a b).1)) n X (fun z' => FM z z' ∧ IM z' (R_store s a b).2)) := by
  refine eg_P.of (by decide) (Nat.le_of_ble_eq_true rfl) ?_
  show eg_E k gX9_store 2 0 0 n (enc k z X) [vR k 202, vI a, vI b] [] 0 _
  have hN := hI.1
  have hv := hO.1.1
  have q := hv.r.2
  have hF : ∀ c, c ≠ 203 → z c = z c := fun _ _ => rfl
  have r_a1 := r_a.1; have r_a2 := r_a.2; have r_b1 := r_b.1; have r_b2 := r_b.2
  refine eg_al_n dX9_store_0 rfl rfl ?_
  refine eg_iload_n dX9_store_1 rfl ?_
  refine eg_Vf1 cs_X9_199 dX9_store_2 (c_isShipper hN hv r_a) (by first | exact er202 | exact er203 | exact er204 | exact er205 | exact er206 | exact er207 | exact er208 | exact er209 | exact er210 | exact er211 | exact er212 | exact er213 | exact er214 | exact er215) rfl (Nat.le_of_ble_eq_true rfl) (by decide) ?_
  refine eg_bi_eq 20 dX9_store_5 rfl (fun h5 => ?_) (fun h5 => ?_)
  · refine eg_iconst dX9_store_20 ?_
    refine eg_ireturn dX9_store_21 rfl rfl ?_
    rw [show R_store s a b = (-1, s) from by unfold R_store; (repeat (first | rw [if_pos (by first | assumption | omega)] | rw [if_neg (by first | assumption | omega)]))]
    exact ⟨rfl, rfl, z, rfl, FM.rf, hI⟩
  · refine eg_iload_n dX9_store_8 rfl ?_
    refine eg_i2l dX9_store_9 ⟨by omega, by omega⟩ ?_
    refine eg_lk1 dX9_store_10 ?_
    refine eg_ldc2 kw_X9_167 dX9_store_11 ?_
    refine eg_Sf3 cs_X9_81 dX9_store_14 (c_in ⟨by omega, by omega⟩ ⟨by omega, by omega⟩ ⟨by omega, by omega⟩) (Nat.le_of_ble_eq_true rfl) (by decide) ?_
    refine eg_bi_ne 22 dX9_store_17 rfl (fun h17 => ?_) (fun h17 => ?_)
    · refine eg_al_n dX9_store_22 rfl rfl ?_
      refine eg_iload_n dX9_store_23 rfl ?_
      refine eg_iconst dX9_store_24 ?_
      refine eg_Vf2 cs_X9_237 dX9_store_25 (c_ship hN (by omega) (by omega) (by omega) (by omega)) (by first | exact er202 | exact er203 | exact er204 | exact er205 | exact er206 | exact er207 | exact er208 | exact er209 | exact er210 | exact er211 | exact er212 | exact er213 | exact er214 | exact er215) rfl (Nat.le_of_ble_eq_true rfl) (by decide) ?_
      have oa := hv.H (s := a) (by omega) (by omega); unfold okH at oa
      refine eg_iload_n dX9_store_28 rfl ?_
      refine eg_i2l dX9_store_29 ⟨by omega, by omega⟩ ?_
      refine eg_lc_ge 37 dX9_store_30 dX9_store_31 ⟨by omega, by omega⟩ ⟨by omega, by omega⟩ rfl (fun h30 => ?_) (fun h30 => ?_)
      · refine eg_al_n dX9_store_37 rfl rfl ?_
        refine eg_iload_n dX9_store_38 rfl ?_
        refine eg_iconst dX9_store_39 ?_
        refine eg_Vf2 cs_X9_237 dX9_store_40 (c_ship hN (by omega) (by omega) (by omega) (by omega)) (by first | exact er202 | exact er203 | exact er204 | exact er205 | exact er206 | exact er207 | exact er208 | exact er209 | exact er210 | exact er211 | exact er212 | exact er213 | exact er214 | exact er215) rfl (Nat.le_of_ble_eq_true rfl) (by decide) ?_
        refine eg_iload_n dX9_store_43 rfl ?_
        refine eg_i2l dX9_store_44 ⟨by omega, by omega⟩ ?_
        refine eg_ladd dX9_store_45 ?_
        refine eg_al_n dX9_store_46 rfl rfl ?_
        refine eg_iload_n dX9_store_47 rfl ?_
        refine eg_iconst dX9_store_48 ?_
        refine eg_Vf2 cs_X9_237 dX9_store_49 (c_ship hN (by omega) (by omega) (by omega) (by omega)) (by first | exact er202 | exact er203 | exact er204 | exact er205 | exact er206 | exact er207 | exact er208 | exact er209 | exact er210 | exact er211 | exact er212 | exact er213 | exact er214 | exact er215) rfl (Nat.le_of_ble_eq_true rfl) (by decide) ?_
        refine eg_lc_le 59 dX9_store_52 dX9_store_53 ⟨by omega, by omega⟩ ⟨by omega, by omega⟩ rfl (fun h52 => ?_) (fun h52 => ?_)
        · refine eg_al_n dX9_store_59 rfl rfl ?_
          refine eg_Vpv0 cs_X9_206 dX9_store_60 (c_keepsPast hN hI.2.1.1 hI.2.1.2.1 hI.2.1.2.2) (by first | exact er202 | exact er203 | exact er204 | exact er205 | exact er206 | exact er207 | exact er208 | exact er209 | exact er210 | exact er211 | exact er212 | exact er213 | exact er214 | exact er215) rfl (Nat.le_of_ble_eq_true rfl) (by decide) ?_
          rintro y1 ⟨m1, m2, m3, m4⟩
          have hN : nw y1 s.1 := nw_c (m1 203 (by decide) (by decide)) hN
          have hF : ∀ c, c ≠ 203 → y1 c = y1 c := fun _ _ => rfl
          refine eg_al_n dX9_store_63 rfl rfl ?_
          refine eg_get fl_X9_9 dX9_store_64 (by first | exact er202 | exact er203 | exact er204 | exact er205 | exact er206 | exact er207 | exact er208 | exact er209 | exact er210 | exact er211 | exact er212 | exact er213 | exact er214 | exact er215) rfl ?_
          refine eg_bipush dX9_store_67 (by decide) ?_
          refine eg_bipush dX9_store_69 (by decide) ?_
          refine eg_iload_n dX9_store_71 rfl ?_
          refine eg_imul dX9_store_72 ?_
          refine eg_iadd dX9_store_73 ?_
          refine eg_iconst dX9_store_74 ?_
          refine eg_iadd dX9_store_75 ?_
          refine eg_dup2 dX9_store_76 rfl rfl ?_
          refine eg_nowL dX9_store_77 hN (by omega) (by omega) ?_
          refine eg_iload_n dX9_store_78 rfl ?_
          refine eg_i2l dX9_store_79 ⟨by omega, by omega⟩ ?_
          refine eg_lsub dX9_store_80 ?_
          refine eg_nowS dX9_store_81 hN (by omega) (by omega) (fun y f1 hN => ?_)
          have hF := fun c hc => (f1 c hc).trans (hF c hc)
          refine eg_al_n dX9_store_82 rfl rfl ?_
          refine eg_get fl_X9_9 dX9_store_83 (by first | exact er202 | exact er203 | exact er204 | exact er205 | exact er206 | exact er207 | exact er208 | exact er209 | exact er210 | exact er211 | exact er212 | exact er213 | exact er214 | exact er215) rfl ?_
          refine eg_bipush dX9_store_86 (by decide) ?_
          refine eg_bipush dX9_store_88 (by decide) ?_
          refine eg_iload_n dX9_store_90 rfl ?_
          refine eg_imul dX9_store_91 ?_
          refine eg_iadd dX9_store_92 ?_
          refine eg_iconst dX9_store_93 ?_
          refine eg_iadd dX9_store_94 ?_
          refine eg_dup2 dX9_store_95 rfl rfl ?_
          refine eg_nowL dX9_store_96 hN (by omega) (by omega) ?_
          refine eg_iload_n dX9_store_97 rfl ?_
          refine eg_i2l dX9_store_98 ⟨by omega, by omega⟩ ?_
          refine eg_ladd dX9_store_99 ?_
          refine eg_nowS dX9_store_100 hN (by omega) (by omega) (fun y f1 hN => ?_)
          have hF := fun c hc => (f1 c hc).trans (hF c hc)
          refine eg_iconst dX9_store_101 ?_
          refine eg_ireturn dX9_store_102 rfl rfl ?_
          rw [show R_store s a b = (1, puS s (stV s.1 a b)) from by unfold R_store; (repeat (first | rw [if_pos (by first | assumption | omega)] | rw [if_neg (by first | assumption | omega)]))]
          exact ⟨rfl, rfl, y, rfl, hI.push m1 m2 m3 m4 hF hN⟩
        · refine eg_bipush dX9_store_56 (by decide) ?_
          refine eg_ireturn dX9_store_58 rfl rfl ?_
          rw [show R_store s a b = (-3, s) from by unfold R_store; (repeat (first | rw [if_pos (by first | assumption | omega)] | rw [if_neg (by first | assumption | omega)]))]
          exact ⟨rfl, rfl, z, rfl, FM.rf, hI⟩
      · refine eg_bipush dX9_store_34 (by decide) ?_
        refine eg_ireturn dX9_store_36 rfl rfl ?_
        rw [show R_store s a b = (-2, s) from by unfold R_store; (repeat (first | rw [if_pos (by first | assumption | omega)] | rw [if_neg (by first | assumption | omega)]))]
        exact ⟨rfl, rfl, z, rfl, FM.rf, hI⟩
    · refine eg_iconst dX9_store_20 ?_
      refine eg_ireturn dX9_store_21 rfl rfl ?_
      rw [show R_store s a b = (-1, s) from by unfold R_store; (repeat (first | rw [if_pos (by first | assumption | omega)] | rw [if_neg (by first | assumption | omega)]))]
      exact ⟨rfl, rfl, z, rfl, FM.rf, hI⟩
theorem m_undo {k : eg_K} {z : eg_Z} {X : eg_M} {n : Nat} {s : eg_S} (hI : IM z s) (hO : OS s) : eg_P k gX9_undo 1 0 0 [vR k 202] n (enc k z X) (eg_p k (some (vI (R_undo s).1)) n X (fun z' => FM z z' ∧ IM z' (R_undo s).2)) := by
  refine eg_P.of (by decide) (Nat.le_of_ble_eq_true rfl) ?_
  show eg_E k gX9_undo 1 0 0 n (enc k z X) [vR k 202] [] 0 _
  have hN := hI.1
  have hv := hO.1.1
  have q := hv.r.2
  have hF : ∀ c, c ≠ 203 → z c = z c := fun _ _ => rfl
  have e6 := hI.2.1.2.1
  have d10 := hI.2.1.1
  refine eg_al_n dX9_undo_0 rfl rfl ?_
  refine eg_get fl_X9_176 dX9_undo_1 (by first | exact er202 | exact er203 | exact er204 | exact er205 | exact er206 | exact er207 | exact er208 | exact er209 | exact er210 | exact er211 | exact er212 | exact er213 | exact er214 | exact er215) rfl ?_
  refine eg_if_ne 9 dX9_undo_4 ⟨by omega, by omega⟩ rfl (fun h4 => ?_) (fun h4 => ?_)
  · refine eg_al_n dX9_undo_9 rfl rfl ?_
    refine eg_dup dX9_undo_10 rfl ?_
    refine eg_get fl_X9_176 dX9_undo_11 (by first | exact er202 | exact er203 | exact er204 | exact er205 | exact er206 | exact er207 | exact er208 | exact er209 | exact er210 | exact er211 | exact er212 | exact er213 | exact er214 | exact er215) rfl ?_
    refine eg_iconst dX9_undo_14 ?_
    refine eg_isub dX9_undo_15 ?_
    refine eg_put fl_X9_176 dX9_undo_16 (by first | exact er202 | exact er203 | exact er204 | exact er205 | exact er206 | exact er207 | exact er208 | exact er209 | exact er210 | exact er211 | exact er212 | exact er213 | exact er214 | exact er215) rfl rfl rfl rfl ?_
    refine eg_eqM es202_6 ?_
    refine eg_al_n dX9_undo_19 rfl rfl ?_
    refine eg_get fl_X9_19 dX9_undo_20 (by first | exact er202 | exact er203 | exact er204 | exact er205 | exact er206 | exact er207 | exact er208 | exact er209 | exact er210 | exact er211 | exact er212 | exact er213 | exact er214 | exact er215) rfl ?_
    refine eg_al_n dX9_undo_23 rfl rfl ?_
    refine eg_get fl_X9_176 dX9_undo_24 (by first | exact er202 | exact er203 | exact er204 | exact er205 | exact er206 | exact er207 | exact er208 | exact er209 | exact er210 | exact er211 | exact er212 | exact er213 | exact er214 | exact er215) rfl ?_
    refine eg_eqI (y := ((s.2.1 - 1 : Nat) : Int)) (by rw [va_up_s, va_up_s, e6]; omega) ?_
    refine eg_al_n dX9_undo_27 rfl rfl ?_
    refine eg_get fl_X9_9 dX9_undo_28 (by first | exact er202 | exact er203 | exact er204 | exact er205 | exact er206 | exact er207 | exact er208 | exact er209 | exact er210 | exact er211 | exact er212 | exact er213 | exact er214 | exact er215) rfl ?_
    refine eg_iconst dX9_undo_31 ?_
    refine eg_Sv4 cs_X9_172 dX9_undo_32 (mv_u (t := s.2.1 - 1) (by omega)) (Nat.le_of_ble_eq_true rfl) (by decide) ?_
    refine eg_al_n dX9_undo_35 rfl rfl ?_
    refine eg_get fl_X9_176 dX9_undo_36 (by first | exact er202 | exact er203 | exact er204 | exact er205 | exact er206 | exact er207 | exact er208 | exact er209 | exact er210 | exact er211 | exact er212 | exact er213 | exact er214 | exact er215) rfl ?_
    refine eg_ireturn dX9_undo_39 rfl rfl ?_
    rw [show R_undo s = ((s.2.1 : Int) - 1, (s.2.2.1 (s.2.1 - 1), s.2.1 - 1, s.2.2)) from by unfold R_undo; (repeat (first | rw [if_pos (by first | assumption | omega)] | rw [if_neg (by first | assumption | omega)]))]
    refine ⟨congrArg (fun q => some (vI q)) ?_, rfl, _, rfl, fun c hc => ?_, fun i hi => ?_, ⟨?_, ?_, fun j hj i hi => ?_⟩, hI.2.2.1, hI.2.2.2⟩
    · rw [va_up_n _ _ (by decide), va_up_s, va_up_s, e6]
    · rw [va_up_n _ _ (by omega), va_up_n _ _ (by omega)]
    · rw [va_up_s, show i = 220 * 0 + i by omega, cpR_i hi, va_up_n _ _ (by decide)]
      have := hI.2.1.2.2 (s.2.1 - 1) (by omega) i hi
      rw [Nat.mul_zero, Nat.zero_add]
      exact this
    · show s.2.1 - 1 ≤ 10; omega
    · rw [va_up_n _ _ (by decide), va_up_s, va_up_s, e6]; show _ = ((s.2.1 - 1 : Nat) : Int); omega
    · rw [va_up_n _ _ (by decide), va_up_n _ _ (by decide)]; exact hI.2.1.2.2 j (by have : j < s.2.1 - 1 := hj; omega) i hi
  · refine eg_iconst dX9_undo_7 ?_
    refine eg_ireturn dX9_undo_8 rfl rfl ?_
    rw [show R_undo s = (-1, s) from by unfold R_undo; (repeat (first | rw [if_pos (by first | assumption | omega)] | rw [if_neg (by first | assumption | omega)]))]
    exact ⟨rfl, rfl, z, rfl, FM.rf, hI⟩
theorem m_keep {k : eg_K} {z : eg_Z} {X : eg_M} {n : Nat} {s : eg_S} (hI : IM z s) (hO : OS s) {a : Int} (r_a : iR a) : eg_P k gX9_keep 1 0 0 [vR k 202, vI a] n (enc k z X) (eg_p k (some (vI (R_keep s a).1)) n X (fun z' => FM z z' ∧ IM z' (R_keep s a).2)) := by
  refine eg_P.of (by decide) (Nat.le_of_ble_eq_true rfl) ?_
  show eg_E k gX9_keep 1 0 0 n (enc k z X) [vR k 202, vI a] [] 0 _
  have hN := hI.1
  have hv := hO.1.1
  have q := hv.r.2
  have hF : ∀ c, c ≠ 203 → z c = z c := fun _ _ => rfl
  have r_a1 := r_a.1; have r_a2 := r_a.2
  refine eg_iload_n dX9_keep_0 rfl ?_
  refine eg_i2l dX9_keep_1 ⟨by omega, by omega⟩ ?_
  refine eg_lk0 dX9_keep_2 ?_
  refine eg_lk1 dX9_keep_3 ?_
  refine eg_Sf3 cs_X9_81 dX9_keep_4 (c_in ⟨by omega, by omega⟩ ⟨by omega, by omega⟩ ⟨by omega, by omega⟩) (Nat.le_of_ble_eq_true rfl) (by decide) ?_
  refine eg_bi_ne 12 dX9_keep_7 rfl (fun h7 => ?_) (fun h7 => ?_)
  · refine eg_al_n dX9_keep_12 rfl rfl ?_
    refine eg_get fl_X9_9 dX9_keep_13 (by first | exact er202 | exact er203 | exact er204 | exact er205 | exact er206 | exact er207 | exact er208 | exact er209 | exact er210 | exact er211 | exact er212 | exact er213 | exact er214 | exact er215) rfl ?_
    refine eg_iconst dX9_keep_16 ?_
    refine eg_al_n dX9_keep_17 rfl rfl ?_
    refine eg_get fl_X9_22 dX9_keep_18 (by first | exact er202 | exact er203 | exact er204 | exact er205 | exact er206 | exact er207 | exact er208 | exact er209 | exact er210 | exact er211 | exact er212 | exact er213 | exact er214 | exact er215) rfl ?_
    refine eg_iload_n dX9_keep_21 rfl ?_
    refine eg_eqI (show a = ((a.toNat : Nat) : Int) by omega) ?_
    refine eg_Sv4 cs_X9_172 dX9_keep_22 (mv_sk (t := a.toNat) (by omega)) (Nat.le_of_ble_eq_true rfl) (by decide) ?_
    refine eg_al_n dX9_keep_25 rfl rfl ?_
    refine eg_get fl_X9_25 dX9_keep_26 (by first | exact er202 | exact er203 | exact er204 | exact er205 | exact er206 | exact er207 | exact er208 | exact er209 | exact er210 | exact er211 | exact er212 | exact er213 | exact er214 | exact er215) rfl ?_
    refine eg_iload_n dX9_keep_29 rfl ?_
    refine eg_iconst dX9_keep_30 ?_
    refine eg_zast dX9_keep_31 (by first | exact er202 | exact er203 | exact er204 | exact er205 | exact er206 | exact er207 | exact er208 | exact er209 | exact er210 | exact er211 | exact er212 | exact er213 | exact er214 | exact er215) (by omega) (by omega) (by decide) (z := 1) rfl ?_
    refine eg_eqM (es208) ?_
    refine eg_al_n dX9_keep_32 rfl rfl ?_
    refine eg_iconst dX9_keep_33 ?_
    refine eg_Vf1 cs_X9_179 dX9_keep_34 (many_1 (nw_c rfl hN)) (by first | exact er202 | exact er203 | exact er204 | exact er205 | exact er206 | exact er207 | exact er208 | exact er209 | exact er210 | exact er211 | exact er212 | exact er213 | exact er214 | exact er215) rfl (Nat.le_of_ble_eq_true rfl) (by decide) ?_
    refine eg_ireturn dX9_keep_37 rfl rfl ?_
    rw [show R_keep s a = (s.1 1, (s.1, s.2.1, s.2.2.1, va_up s.2.2.2.1 a.toNat true, va_up s.2.2.2.2.1 a.toNat s.1, s.2.2.2.2.2)) from by unfold R_keep; (repeat (first | rw [if_pos (by first | assumption | omega)] | rw [if_neg (by first | assumption | omega)]))]
    refine ⟨rfl, rfl, _, rfl, fun c hc => ?_, nw_c (by rw [va_up_n _ _ (by decide), va_up_n _ _ (by decide)]) hI.1, hI.2.1, fun j hj => ⟨?_, fun hk i hi => ?_⟩, hI.2.2.2⟩
    · rw [va_up_n _ _ (by omega), va_up_n _ _ (by omega)]
    · rw [va_up_s]
      show _ = if va_up s.2.2.2.1 a.toNat true j = true then (1 : Int) else 0
      by_cases e : j = a.toNat
      · subst e; rw [va_up_s, va_up_s, if_pos rfl]
      · rw [va_up_n _ _ e, va_up_n _ _ e]; exact (hI.2.2.1 j hj).1
    · rw [va_up_n _ _ (by decide), va_up_s]
      show _ = va_up s.2.2.2.2.1 a.toNat s.1 j i
      by_cases e : j = a.toNat
      · subst e; rw [cpR_i hi, va_up_s, Nat.mul_zero, Nat.zero_add]; exact hI.1 i hi
      · rw [cpR_o (by omega), va_up_n _ _ e]
        have hk2 : va_up s.2.2.2.1 a.toNat true j = true := hk
        rw [va_up_n _ _ e] at hk2
        exact (hI.2.2.1 j hj).2 hk2 i hi
  · refine eg_iconst dX9_keep_10 ?_
    refine eg_ireturn dX9_keep_11 rfl rfl ?_
    rw [show R_keep s a = (-1, s) from by unfold R_keep; (repeat (first | rw [if_pos (by first | assumption | omega)] | rw [if_neg (by first | assumption | omega)]))]
    exact ⟨rfl, rfl, z, rfl, FM.rf, hI⟩
theorem m_back {k : eg_K} {z : eg_Z} {X : eg_M} {n : Nat} {s : eg_S} (hI : IM z s) (hO : OS s) {a : Int} (r_a : iR a) : eg_P k gX9_back 1 0 0 [vR k 202, vI a] n (enc k z X) (eg_p k (some (vI (R_back s a).1)) n X (fun z' => FM z z' ∧ IM z' (R_back s a).2)) := by
  refine eg_P.of (by decide) (Nat.le_of_ble_eq_true rfl) ?_
  show eg_E k gX9_back 1 0 0 n (enc k z X) [vR k 202, vI a] [] 0 _
  have hN := hI.1
  have hv := hO.1.1
  have q := hv.r.2
  have hF : ∀ c, c ≠ 203 → z c = z c := fun _ _ => rfl
  have r_a1 := r_a.1; have r_a2 := r_a.2
  have kb : ∀ b : Bool, (0 : Int) ≤ (if b = true then 1 else 0) ∧ (if b = true then (1 : Int) else 0) ≤ 1 := fun b => by split <;> omega
  have kb1 := kb (s.2.2.2.1 a.toNat)
  refine eg_iload_n dX9_back_0 rfl ?_
  refine eg_i2l dX9_back_1 ⟨by omega, by omega⟩ ?_
  refine eg_lk0 dX9_back_2 ?_
  refine eg_lk1 dX9_back_3 ?_
  refine eg_Sf3 cs_X9_81 dX9_back_4 (c_in ⟨by omega, by omega⟩ ⟨by omega, by omega⟩ ⟨by omega, by omega⟩) (Nat.le_of_ble_eq_true rfl) (by decide) ?_
  refine eg_bi_ne 12 dX9_back_7 rfl (fun h7 => ?_) (fun h7 => ?_)
  · refine eg_al_n dX9_back_12 rfl rfl ?_
    refine eg_get fl_X9_25 dX9_back_13 (by first | exact er202 | exact er203 | exact er204 | exact er205 | exact er206 | exact er207 | exact er208 | exact er209 | exact er210 | exact er211 | exact er212 | exact er213 | exact er214 | exact er215) rfl ?_
    refine eg_iload_n dX9_back_16 rfl ?_
    refine eg_zald dX9_back_17 (by first | exact er202 | exact er203 | exact er204 | exact er205 | exact er206 | exact er207 | exact er208 | exact er209 | exact er210 | exact er211 | exact er212 | exact er213 | exact er214 | exact er215) (by omega) (by omega) (by decide) ?_
    rw [(hI.2.2.1 a.toNat (by omega)).1]
    refine eg_if_ne 24 dX9_back_18 ⟨by omega, by omega⟩ rfl (fun h18 => ?_) (fun h18 => ?_)
    · refine eg_al_n dX9_back_24 rfl rfl ?_
      refine eg_get fl_X9_22 dX9_back_25 (by first | exact er202 | exact er203 | exact er204 | exact er205 | exact er206 | exact er207 | exact er208 | exact er209 | exact er210 | exact er211 | exact er212 | exact er213 | exact er214 | exact er215) rfl ?_
      refine eg_iload_n dX9_back_28 rfl ?_
      refine eg_eqI (show a = ((a.toNat : Nat) : Int) by omega) ?_
      refine eg_al_n dX9_back_29 rfl rfl ?_
      refine eg_get fl_X9_9 dX9_back_30 (by first | exact er202 | exact er203 | exact er204 | exact er205 | exact er206 | exact er207 | exact er208 | exact er209 | exact er210 | exact er211 | exact er212 | exact er213 | exact er214 | exact er215) rfl ?_
      refine eg_iconst dX9_back_33 ?_
      refine eg_Sv4 cs_X9_172 dX9_back_34 (mv_sb (t := a.toNat) (by omega)) (Nat.le_of_ble_eq_true rfl) (by decide) ?_
      refine eg_al_n dX9_back_37 rfl rfl ?_
      refine eg_iconst dX9_back_38 ?_
      refine eg_put fl_X9_176 dX9_back_39 (by first | exact er202 | exact er203 | exact er204 | exact er205 | exact er206 | exact er207 | exact er208 | exact er209 | exact er210 | exact er211 | exact er212 | exact er213 | exact er214 | exact er215) rfl rfl rfl rfl ?_
      refine eg_eqM es202_6 ?_
      have hk : s.2.2.2.1 a.toNat = true := by
        by_cases e : s.2.2.2.1 a.toNat = true
        · exact e
        · rw [if_neg e] at h18; omega
      have hNb : nw (va_up (va_up z 203 (cpR (z 207) a.toNat (z 203) 0 220)) 202 (va_up (va_up z 203 (cpR (z 207) a.toNat (z 203) 0 220) 202) 6 0)) (s.2.2.2.2.1 a.toNat) := fun i hi => by
        rw [va_up_n _ _ (by decide), va_up_s, show i = 220 * 0 + i by omega, cpR_i hi, Nat.mul_zero, Nat.zero_add]
        exact (hI.2.2.1 a.toNat (by omega)).2 hk i hi
      refine eg_al_n dX9_back_42 rfl rfl ?_
      refine eg_iconst dX9_back_43 ?_
      refine eg_Vf1 cs_X9_179 dX9_back_44 (many_1 hNb) (by first | exact er202 | exact er203 | exact er204 | exact er205 | exact er206 | exact er207 | exact er208 | exact er209 | exact er210 | exact er211 | exact er212 | exact er213 | exact er214 | exact er215) rfl (Nat.le_of_ble_eq_true rfl) (by decide) ?_
      refine eg_ireturn dX9_back_47 rfl rfl ?_
      rw [show R_back s a = (s.2.2.2.2.1 a.toNat 1, (s.2.2.2.2.1 a.toNat, 0, s.2.2)) from by unfold R_back; (repeat (first | rw [if_pos (by first | assumption | omega)] | rw [if_neg (by first | assumption | omega)]))]
      refine ⟨rfl, rfl, _, rfl, fun c hc => ?_, hNb, ⟨by show (0 : Nat) ≤ 10; omega, ?_, fun j hj => absurd hj (Nat.not_lt_zero j)⟩, hI.2.2.1, hI.2.2.2⟩
      · rw [va_up_n _ _ (by omega), va_up_n _ _ (by omega)]
      · rw [va_up_s, va_up_s]; rfl
    · refine eg_bipush dX9_back_21 (by decide) ?_
      refine eg_ireturn dX9_back_23 rfl rfl ?_
      rw [show R_back s a = (-2, s) from by unfold R_back; rw [if_pos (by omega), if_neg (fun hk => by rw [if_pos hk] at h18; omega)]]
      exact ⟨rfl, rfl, z, rfl, FM.rf, hI⟩
  · refine eg_iconst dX9_back_10 ?_
    refine eg_ireturn dX9_back_11 rfl rfl ?_
    rw [show R_back s a = (-1, s) from by unfold R_back; (repeat (first | rw [if_pos (by first | assumption | omega)] | rw [if_neg (by first | assumption | omega)]))]
    exact ⟨rfl, rfl, z, rfl, FM.rf, hI⟩
