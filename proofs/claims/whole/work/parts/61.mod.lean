theorem m_more {k : eg_K} {z : eg_Z} {X : eg_M} {n : Nat} {s : eg_S} (hI : IM z s) (hO : OS s) {a b c d : Int} (r_a : iR a) (r_b : iR b) (r_c : iR c) (r_d : iR d) : eg_P k gX9_more 6 0 0 [vR k 202, vI a, vI b, vI c, vI d] n (enc k z X) (eg_p k (some (vI (A_more s.1 a b c d))) n X (fun z' => FM z z' ∧ IM z' s)) := by
  refine eg_P.of (by decide) (Nat.le_of_ble_eq_true rfl) ?_
  show eg_E k gX9_more 6 0 0 n (enc k z X) [vR k 202, vI a, vI b, vI c, vI d, vU] [] 0 _
  have hN := hI.1
  have hv := hO.1.1
  have q := hv.r.2
  have hF : ∀ c, c ≠ 203 → z c = z c := fun _ _ => rfl
  have r_a1 := r_a.1; have r_a2 := r_a.2; have r_b1 := r_b.1; have r_b2 := r_b.2; have r_c1 := r_c.1; have r_c2 := r_c.2; have r_d1 := r_d.1; have r_d2 := r_d.2
  refine eg_al_n dX9_more_0 rfl rfl ?_
  refine eg_iload_n dX9_more_1 rfl ?_
  refine eg_iload_n dX9_more_2 rfl ?_
  refine eg_iload_n dX9_more_3 rfl ?_
  refine eg_iload dX9_more_4 rfl ?_
  refine eg_Vf4 cs_X9_202 dX9_more_6 (c_canNominate hN hv r_a r_b r_c r_d) (by first | exact er202 | exact er203 | exact er204 | exact er205 | exact er206 | exact er207 | exact er208 | exact er209 | exact er210 | exact er211 | exact er212 | exact er213 | exact er214 | exact er215) rfl (Nat.le_of_ble_eq_true rfl) (by decide) ?_
  refine eg_bi_ne 14 dX9_more_9 rfl (fun h9 => ?_) (fun h9 => ?_)
  · refine eg_al_n dX9_more_14 rfl rfl ?_
    refine eg_iconst dX9_more_15 ?_
    refine eg_Vf1 cs_X9_179 dX9_more_16 (many_3 hN) (by first | exact er202 | exact er203 | exact er204 | exact er205 | exact er206 | exact er207 | exact er208 | exact er209 | exact er210 | exact er211 | exact er212 | exact er213 | exact er214 | exact er215) rfl (Nat.le_of_ble_eq_true rfl) (by decide) ?_
    refine eg_bipush dX9_more_19 (by decide) ?_
    refine eg_icmp_ne 27 dX9_more_21 ⟨by omega, by omega⟩ ⟨by omega, by omega⟩ rfl (fun h21 => ?_) (fun h21 => ?_)
    · refine eg_al_n dX9_more_27 rfl rfl ?_
      refine eg_Vpv0 cs_X9_349 dX9_more_28 (c_laysAside hN) (by first | exact er202 | exact er203 | exact er204 | exact er205 | exact er206 | exact er207 | exact er208 | exact er209 | exact er210 | exact er211 | exact er212 | exact er213 | exact er214 | exact er215) rfl (Nat.le_of_ble_eq_true rfl) (by decide) ?_
      rintro y1 ⟨f1, g1⟩
      have hN1 : nw y1 s.1 := nw_c (f1 203 (by decide)) hN
      refine eg_al_n dX9_more_31 rfl rfl ?_
      refine eg_iload_n dX9_more_32 rfl ?_
      refine eg_iload_n dX9_more_33 rfl ?_
      refine eg_iload_n dX9_more_34 rfl ?_
      refine eg_iload dX9_more_35 rfl ?_
      refine eg_Vpv4 cs_X9_209 dX9_more_37 (c_adds hN1 ⟨by omega, by omega⟩ r_a r_b r_c r_d) (by first | exact er202 | exact er203 | exact er204 | exact er205 | exact er206 | exact er207 | exact er208 | exact er209 | exact er210 | exact er211 | exact er212 | exact er213 | exact er214 | exact er215) rfl (Nat.le_of_ble_eq_true rfl) (by decide) ?_
      rintro y2 ⟨f2, n2⟩
      have al := alB_to h9
      have ok9 : okV (addV s.1 a b c d) := okV_add hO.1 (by omega) al.1 al.2.1 al.2.2.1 al.2.2.2.1 ⟨by omega, by omega⟩
      refine eg_al_n dX9_more_40 rfl rfl ?_
      refine eg_Vpv0 cs_X9_302 dX9_more_41 (c_schedules n2 ok9.1 ok9.2.1) (by first | exact er202 | exact er203 | exact er204 | exact er205 | exact er206 | exact er207 | exact er208 | exact er209 | exact er210 | exact er211 | exact er212 | exact er213 | exact er214 | exact er215) rfl (Nat.le_of_ble_eq_true rfl) (by decide) ?_
      rintro y3 ⟨f3, j3, p3⟩
      have n3 : nw y3 (addV s.1 a b c d) := nw_c (f3 203 (by omega)) n2
      refine eg_al_n dX9_more_44 rfl rfl ?_
      refine eg_get fl_X9_43 dX9_more_45 (by first | exact er202 | exact er203 | exact er204 | exact er205 | exact er206 | exact er207 | exact er208 | exact er209 | exact er210 | exact er211 | exact er212 | exact er213 | exact er214 | exact er215) rfl ?_
      refine eg_al_n dX9_more_48 rfl rfl ?_
      refine eg_iconst dX9_more_49 ?_
      refine eg_Vf1 cs_X9_179 dX9_more_50 (many_3 n3) (by first | exact er202 | exact er203 | exact er204 | exact er205 | exact er206 | exact er207 | exact er208 | exact er209 | exact er210 | exact er211 | exact er212 | exact er213 | exact er214 | exact er215) rfl (Nat.le_of_ble_eq_true rfl) (by decide) ?_
      refine eg_eqI addV_3 ?_
      refine eg_iconst dX9_more_53 ?_
      refine eg_isub dX9_more_54 ?_
      refine eg_eqI (show s.1 3 + 1 - 1 = s.1 3 by omega) ?_
      refine eg_iald dX9_more_55 (by first | exact er202 | exact er203 | exact er204 | exact er205 | exact er206 | exact er207 | exact er208 | exact er209 | exact er210 | exact er211 | exact er212 | exact er213 | exact er214 | exact er215) (by omega) (by omega) (by decide) ?_
      refine eg_eqI ((j3.2 (s.1 3) (by omega) (by rw [addV_3]; omega)).1) ?_
      refine eg_istore dX9_more_56 rfl rfl rfl ?_
      refine eg_al_n dX9_more_58 rfl rfl ?_
      refine eg_Vpv0 cs_X9_352 dX9_more_59 (c_laysBack (v := s.1) (fun i hi => by rw [f3 205 (by omega), f2 205 (by decide)]; exact g1 i hi)) (by first | exact er202 | exact er203 | exact er204 | exact er205 | exact er206 | exact er207 | exact er208 | exact er209 | exact er210 | exact er211 | exact er212 | exact er213 | exact er214 | exact er215) rfl (Nat.le_of_ble_eq_true rfl) (by decide) ?_
      rintro y4 ⟨f4, hN9⟩
      have fm9 : Fm z y4 := Fm.of (fun c hc => by rw [f4 c (by omega), f3 c (by omega), f2 c (by omega), f1 c (by omega)])
      refine eg_iload dX9_more_62 rfl ?_
      refine eg_ireturn dX9_more_64 rfl rfl ?_
      refine ⟨congrArg (fun q => some (vI q)) ?_, rfl, y4, rfl, fm9.1, hI.fm fm9 hN9⟩
      unfold A_more
      rw [if_pos h9, if_neg (by omega)]
    · refine eg_bipush dX9_more_24 (by decide) ?_
      refine eg_ireturn dX9_more_26 rfl rfl ?_
      refine ⟨congrArg (fun q => some (vI q)) ?_, rfl, z, rfl, (Fm.rf).1, hI.fm (Fm.rf) hN⟩
      unfold A_more; (repeat (first | rw [if_pos (by first | assumption | omega)] | rw [if_neg (by first | assumption | omega)]))
  · refine eg_iconst dX9_more_12 ?_
    refine eg_ireturn dX9_more_13 rfl rfl ?_
    refine ⟨congrArg (fun q => some (vI q)) ?_, rfl, z, rfl, (Fm.rf).1, hI.fm (Fm.rf) hN⟩
    unfold A_more; (repeat (first | rw [if_pos (by first | assumption | omega)] | rw [if_neg (by first | assumption | omega)]))
theorem m_gain {k : eg_K} {z : eg_Z} {X : eg_M} {n : Nat} {s : eg_S} (hI : IM z s) (hO : OS s) {a : Int} (r_a : iR a) : eg_P k gX9_gain 6 0 0 [vR k 202, vI a] n (enc k z X) (eg_p k (some (vI (A_gain s.1 a))) n X (fun z' => FM z z' ∧ IM z' s)) := by
  refine eg_P.of (by decide) (Nat.le_of_ble_eq_true rfl) ?_
  show eg_E k gX9_gain 6 0 0 n (enc k z X) [vR k 202, vI a, vU, vU] [] 0 _
  have hN := hI.1
  have hv := hO.1.1
  have q := hv.r.2
  have hF : ∀ c, c ≠ 203 → z c = z c := fun _ _ => rfl
  have r_a1 := r_a.1; have r_a2 := r_a.2
  refine eg_al_n dX9_gain_0 rfl rfl ?_
  refine eg_iload_n dX9_gain_1 rfl ?_
  refine eg_Vf1 cs_X9_213 dX9_gain_2 (c_isNom hN hv r_a) (by first | exact er202 | exact er203 | exact er204 | exact er205 | exact er206 | exact er207 | exact er208 | exact er209 | exact er210 | exact er211 | exact er212 | exact er213 | exact er214 | exact er215) rfl (Nat.le_of_ble_eq_true rfl) (by decide) ?_
  refine eg_bi_ne 10 dX9_gain_5 rfl (fun h5 => ?_) (fun h5 => ?_)
  · refine eg_al_n dX9_gain_10 rfl rfl ?_
    refine eg_Vpv0 cs_X9_302 dX9_gain_11 (c_schedules hN hv hO.1.2.1) (by first | exact er202 | exact er203 | exact er204 | exact er205 | exact er206 | exact er207 | exact er208 | exact er209 | exact er210 | exact er211 | exact er212 | exact er213 | exact er214 | exact er215) rfl (Nat.le_of_ble_eq_true rfl) (by decide) ?_
    rintro y1 ⟨f1, j1, p1⟩
    have hN1 : nw y1 s.1 := nw_c (f1 203 (by omega)) hN
    have fm1 : Fm z y1 := Fm.of (fun c hc => f1 c (by omega))
    refine eg_al_n dX9_gain_14 rfl rfl ?_
    refine eg_Vf0 cs_X9_305 dX9_gain_15 (c_allPlanned (p := SS (s.1) 10) hN1 hv (fun q9 a9 b9 => (j1.2 q9 a9 b9).1)) (by first | exact er202 | exact er203 | exact er204 | exact er205 | exact er206 | exact er207 | exact er208 | exact er209 | exact er210 | exact er211 | exact er212 | exact er213 | exact er214 | exact er215) rfl (Nat.le_of_ble_eq_true rfl) (by decide) ?_
    refine eg_al_n dX9_gain_18 rfl rfl ?_
    refine eg_get fl_X9_43 dX9_gain_19 (by first | exact er202 | exact er203 | exact er204 | exact er205 | exact er206 | exact er207 | exact er208 | exact er209 | exact er210 | exact er211 | exact er212 | exact er213 | exact er214 | exact er215) rfl ?_
    refine eg_iload_n dX9_gain_22 rfl ?_
    refine eg_iald dX9_gain_23 (by first | exact er202 | exact er203 | exact er204 | exact er205 | exact er206 | exact er207 | exact er208 | exact er209 | exact er210 | exact er211 | exact er212 | exact er213 | exact er214 | exact er215) (by omega) (by omega) (by decide) ?_
    refine eg_eqI ((j1.2 a (by omega) (by omega)).1) ?_
    refine eg_isub dX9_gain_24 ?_
    refine eg_istore_n dX9_gain_25 rfl rfl rfl ?_
    refine eg_al_n dX9_gain_26 rfl rfl ?_
    refine eg_Vpv0 cs_X9_349 dX9_gain_27 (c_laysAside hN1) (by first | exact er202 | exact er203 | exact er204 | exact er205 | exact er206 | exact er207 | exact er208 | exact er209 | exact er210 | exact er211 | exact er212 | exact er213 | exact er214 | exact er215) rfl (Nat.le_of_ble_eq_true rfl) (by decide) ?_
    rintro y2 ⟨f2, g2⟩
    have hN2 : nw y2 s.1 := nw_c (f2 203 (by decide)) hN1
    refine eg_al_n dX9_gain_30 rfl rfl ?_
    refine eg_iload_n dX9_gain_31 rfl ?_
    refine eg_Vpv1 cs_X9_220 dX9_gain_32 (c_removes hN2 (by omega) ⟨by omega, by omega⟩) (by first | exact er202 | exact er203 | exact er204 | exact er205 | exact er206 | exact er207 | exact er208 | exact er209 | exact er210 | exact er211 | exact er212 | exact er213 | exact er214 | exact er215) rfl (Nat.le_of_ble_eq_true rfl) (by decide) ?_
    rintro y3 ⟨f3, n3⟩
    have ok9 := okV_rem hO.1 (k := a) (by omega) (by omega)
    refine eg_al_n dX9_gain_35 rfl rfl ?_
    refine eg_Vpv0 cs_X9_302 dX9_gain_36 (c_schedules n3 ok9.1 ok9.2.1) (by first | exact er202 | exact er203 | exact er204 | exact er205 | exact er206 | exact er207 | exact er208 | exact er209 | exact er210 | exact er211 | exact er212 | exact er213 | exact er214 | exact er215) rfl (Nat.le_of_ble_eq_true rfl) (by decide) ?_
    rintro y4 ⟨f4, j4, p4⟩
    have n4 : nw y4 (remV s.1 a) := nw_c (f4 203 (by omega)) n3
    refine eg_al_n dX9_gain_39 rfl rfl ?_
    refine eg_Vf0 cs_X9_305 dX9_gain_40 (c_allPlanned (p := SS (remV s.1 a) 10) n4 ok9.1 (fun q9 a9 b9 => (j4.2 q9 a9 b9).1)) (by first | exact er202 | exact er203 | exact er204 | exact er205 | exact er206 | exact er207 | exact er208 | exact er209 | exact er210 | exact er211 | exact er212 | exact er213 | exact er214 | exact er215) rfl (Nat.le_of_ble_eq_true rfl) (by decide) ?_
    rw [show remV s.1 a 3 = s.1 3 - 1 from remV_3]
    refine eg_iload_n dX9_gain_43 rfl ?_
    refine eg_isub dX9_gain_44 ?_
    refine eg_istore_n dX9_gain_45 rfl rfl rfl ?_
    refine eg_al_n dX9_gain_46 rfl rfl ?_
    refine eg_Vpv0 cs_X9_352 dX9_gain_47 (c_laysBack (v := s.1) (fun i hi => by rw [f4 205 (by omega), f3 205 (by decide)]; exact g2 i hi)) (by first | exact er202 | exact er203 | exact er204 | exact er205 | exact er206 | exact er207 | exact er208 | exact er209 | exact er210 | exact er211 | exact er212 | exact er213 | exact er214 | exact er215) rfl (Nat.le_of_ble_eq_true rfl) (by decide) ?_
    rintro y5 ⟨f5, hN9⟩
    have fm9 : Fm z y5 := Fm.of (fun c hc => by rw [f5 c (by omega), f4 c (by omega), f3 c (by omega), f2 c (by omega), f1 c (by omega)])
    refine eg_iload_n dX9_gain_50 rfl ?_
    refine eg_ldc kw_X9_105 dX9_gain_51 ?_
    refine eg_iadd dX9_gain_53 ?_
    refine eg_ireturn dX9_gain_54 rfl rfl ?_
    refine ⟨congrArg (fun q => some (vI q)) ?_, rfl, y5, rfl, fm9.1, hI.fm fm9 hN9⟩
    unfold A_gain
    rw [if_pos (by omega)]
  · refine eg_iconst dX9_gain_8 ?_
    refine eg_ireturn dX9_gain_9 rfl rfl ?_
    refine ⟨congrArg (fun q => some (vI q)) ?_, rfl, z, rfl, (Fm.rf).1, hI.fm (Fm.rf) hN⟩
    unfold A_gain; (repeat (first | rw [if_pos (by first | assumption | omega)] | rw [if_neg (by first | assumption | omega)]))
theorem m_widen {k : eg_K} {z : eg_Z} {X : eg_M} {n : Nat} {s : eg_S} (hI : IM z s) (hO : OS s) {a b c : Int} (r_a : iR a) (r_b : iR b) (r_c : iR c) : eg_P k gX9_widen 6 0 0 [vR k 202, vI a, vI b, vI c] n (enc k z X) (eg_p k (some (vI (A_widen s.1 a b c))) n X (fun z' => FM z z' ∧ IM z' s)) := by
  refine eg_P.of (by decide) (Nat.le_of_ble_eq_true rfl) ?_
  show eg_E k gX9_widen 6 0 0 n (enc k z X) [vR k 202, vI a, vI b, vI c, vU, vU] [] 0 _
  have hN := hI.1
  have hv := hO.1.1
  have q := hv.r.2
  have hF : ∀ c, c ≠ 203 → z c = z c := fun _ _ => rfl
  have r_a1 := r_a.1; have r_a2 := r_a.2; have r_b1 := r_b.1; have r_b2 := r_b.2; have r_c1 := r_c.1; have r_c2 := r_c.2
  refine eg_al_n dX9_widen_0 rfl rfl ?_
  refine eg_iload_n dX9_widen_1 rfl ?_
  refine eg_iload_n dX9_widen_2 rfl ?_
  refine eg_Vf2 cs_X9_223 dX9_widen_3 (c_isOne hN hv r_a r_b) (by first | exact er202 | exact er203 | exact er204 | exact er205 | exact er206 | exact er207 | exact er208 | exact er209 | exact er210 | exact er211 | exact er212 | exact er213 | exact er214 | exact er215) rfl (Nat.le_of_ble_eq_true rfl) (by decide) ?_
  refine eg_bi_eq 21 dX9_widen_6 rfl (fun h6 => ?_) (fun h6 => ?_)
  · refine eg_iconst dX9_widen_21 ?_
    refine eg_ireturn dX9_widen_22 rfl rfl ?_
    refine ⟨congrArg (fun q => some (vI q)) ?_, rfl, z, rfl, (Fm.rf).1, hI.fm (Fm.rf) hN⟩
    unfold A_widen; rw [if_neg]; omega
  · refine eg_iload_n dX9_widen_9 rfl ?_
    refine eg_i2l dX9_widen_10 ⟨by omega, by omega⟩ ?_
    refine eg_lk0 dX9_widen_11 ?_
    refine eg_ldc2 kw_X9_167 dX9_widen_12 ?_
    refine eg_Sf3 cs_X9_81 dX9_widen_15 (c_in ⟨by omega, by omega⟩ ⟨by omega, by omega⟩ ⟨by omega, by omega⟩) (Nat.le_of_ble_eq_true rfl) (by decide) ?_
    refine eg_bi_ne 23 dX9_widen_18 rfl (fun h18 => ?_) (fun h18 => ?_)
    · refine eg_al_n dX9_widen_23 rfl rfl ?_
      refine eg_Vpv0 cs_X9_302 dX9_widen_24 (c_schedules hN hv hO.1.2.1) (by first | exact er202 | exact er203 | exact er204 | exact er205 | exact er206 | exact er207 | exact er208 | exact er209 | exact er210 | exact er211 | exact er212 | exact er213 | exact er214 | exact er215) rfl (Nat.le_of_ble_eq_true rfl) (by decide) ?_
      rintro y1 ⟨f1, j1, p1⟩
      have hN1 : nw y1 s.1 := nw_c (f1 203 (by omega)) hN
      have fm1 : Fm z y1 := Fm.of (fun c hc => f1 c (by omega))
      refine eg_al_n dX9_widen_27 rfl rfl ?_
      refine eg_Vf0 cs_X9_305 dX9_widen_28 (c_allPlanned (p := SS (s.1) 10) hN1 hv (fun q9 a9 b9 => (j1.2 q9 a9 b9).1)) (by first | exact er202 | exact er203 | exact er204 | exact er205 | exact er206 | exact er207 | exact er208 | exact er209 | exact er210 | exact er211 | exact er212 | exact er213 | exact er214 | exact er215) rfl (Nat.le_of_ble_eq_true rfl) (by decide) ?_
      refine eg_istore dX9_widen_31 rfl rfl rfl ?_
      refine eg_al_n dX9_widen_33 rfl rfl ?_
      refine eg_Vpv0 cs_X9_349 dX9_widen_34 (c_laysAside hN1) (by first | exact er202 | exact er203 | exact er204 | exact er205 | exact er206 | exact er207 | exact er208 | exact er209 | exact er210 | exact er211 | exact er212 | exact er213 | exact er214 | exact er215) rfl (Nat.le_of_ble_eq_true rfl) (by decide) ?_
      rintro y2 ⟨f2, g2⟩
      have hN2 : nw y2 s.1 := nw_c (f2 203 (by decide)) hN1
      have pb : 0 ≤ (if a = 0 then 26 + 4 * b + 2 else 12 + 2 * b) ∧ (if a = 0 then 26 + 4 * b + 2 else 12 + 2 * b) < 220 := by
        rcases h6 with ⟨e, h⟩ | ⟨e, h⟩
        · rw [if_pos e]; omega
        · rw [if_neg (by omega)]; omega
      refine eg_al_n dX9_widen_37 rfl rfl ?_
      refine eg_get fl_X9_9 dX9_widen_38 (by first | exact er202 | exact er203 | exact er204 | exact er205 | exact er206 | exact er207 | exact er208 | exact er209 | exact er210 | exact er211 | exact er212 | exact er213 | exact er214 | exact er215) rfl ?_
      refine eg_iload_n dX9_widen_41 rfl ?_
      refine eg_iload_n dX9_widen_42 rfl ?_
      refine eg_Sf2 cs_X9_226 dX9_widen_43 (c_capPlace r_a) (Nat.le_of_ble_eq_true rfl) (by decide) ?_
      refine eg_iload_n dX9_widen_46 rfl ?_
      refine eg_i2l dX9_widen_47 ⟨by omega, by omega⟩ ?_
      refine eg_nowS dX9_widen_48 hN2 pb.1 pb.2 (fun y3 f3 n3 => ?_)
      have n3 : nw y3 (wdV s.1 a b c) := by unfold wdV; rw [Int.add_zero]; exact n3
      have e3 : wdV s.1 a b c 3 = s.1 3 := by unfold wdV; exact va_up_n _ _ (by split <;> omega)
      have ok9 : okV (wdV s.1 a b c) := by
        unfold wdV
        rcases h6 with ⟨e, h⟩ | ⟨e, h⟩
        · rw [if_pos e]; exact okV_p hO.1 h.1 h.2 (by omega)
        · rw [if_neg (by omega)]; exact okV_s hO.1 h.1 (by omega) (by omega)
      refine eg_al_n dX9_widen_49 rfl rfl ?_
      refine eg_Vpv0 cs_X9_302 dX9_widen_50 (c_schedules n3 ok9.1 ok9.2.1) (by first | exact er202 | exact er203 | exact er204 | exact er205 | exact er206 | exact er207 | exact er208 | exact er209 | exact er210 | exact er211 | exact er212 | exact er213 | exact er214 | exact er215) rfl (Nat.le_of_ble_eq_true rfl) (by decide) ?_
      rintro y4 ⟨f4, j4, p4⟩
      have n4 : nw y4 (wdV s.1 a b c) := nw_c (f4 203 (by omega)) n3
      refine eg_al_n dX9_widen_53 rfl rfl ?_
      refine eg_Vf0 cs_X9_305 dX9_widen_54 (c_allPlanned (p := SS (wdV s.1 a b c) 10) n4 ok9.1 (fun q9 a9 b9 => (j4.2 q9 a9 b9).1)) (by first | exact er202 | exact er203 | exact er204 | exact er205 | exact er206 | exact er207 | exact er208 | exact er209 | exact er210 | exact er211 | exact er212 | exact er213 | exact er214 | exact er215) rfl (Nat.le_of_ble_eq_true rfl) (by decide) ?_
      rw [e3]
      refine eg_iload dX9_widen_57 rfl ?_
      refine eg_isub dX9_widen_59 ?_
      refine eg_istore dX9_widen_60 rfl rfl rfl ?_
      refine eg_al_n dX9_widen_62 rfl rfl ?_
      refine eg_Vpv0 cs_X9_352 dX9_widen_63 (c_laysBack (v := s.1) (fun i hi => by rw [f4 205 (by omega), f3 205 (by decide)]; exact g2 i hi)) (by first | exact er202 | exact er203 | exact er204 | exact er205 | exact er206 | exact er207 | exact er208 | exact er209 | exact er210 | exact er211 | exact er212 | exact er213 | exact er214 | exact er215) rfl (Nat.le_of_ble_eq_true rfl) (by decide) ?_
      rintro y5 ⟨f5, hN9⟩
      have fm9 : Fm z y5 := Fm.of (fun c hc => by rw [f5 c (by omega), f4 c (by omega), f3 c (by omega), f2 c (by omega), f1 c (by omega)])
      refine eg_iload dX9_widen_66 rfl ?_
      refine eg_ldc kw_X9_105 dX9_widen_68 ?_
      refine eg_iadd dX9_widen_70 ?_
      refine eg_ireturn dX9_widen_71 rfl rfl ?_
      refine ⟨congrArg (fun q => some (vI q)) ?_, rfl, y5, rfl, fm9.1, hI.fm fm9 hN9⟩
      unfold A_widen
      rw [if_pos ⟨h6, by omega⟩]
    · refine eg_iconst dX9_widen_21 ?_
      refine eg_ireturn dX9_widen_22 rfl rfl ?_
      refine ⟨congrArg (fun q => some (vI q)) ?_, rfl, z, rfl, (Fm.rf).1, hI.fm (Fm.rf) hN⟩
      unfold A_widen; rw [if_neg]; omega
theorem m_ahead {k : eg_K} {z : eg_Z} {X : eg_M} {n : Nat} {s : eg_S} (hI : IM z s) (hO : OS s) {a b : Int} (r_a : iR a) (r_b : iR b) : eg_P k gX9_ahead 7 0 0 [vR k 202, vI a, vI b] n (enc k z X) (eg_p k (some (vL (A_ahead s.1 a b))) n X (fun z' => FM z z' ∧ IM z' s)) := by
  refine eg_P.of (by decide) (Nat.le_of_ble_eq_true rfl) ?_
  show eg_E k gX9_ahead 7 0 0 n (enc k z X) [vR k 202, vI a, vI b, vU, vU] [] 0 _
  have hN := hI.1
  have hv := hO.1.1
  have q := hv.r.2
  have hF : ∀ c, c ≠ 203 → z c = z c := fun _ _ => rfl
  have r_a1 := r_a.1; have r_a2 := r_a.2; have r_b1 := r_b.1; have r_b2 := r_b.2
  have J : (0 ≤ a ∧ a < s.1 2) → (0 ≤ b ∧ b ≤ 99) → ∀ y : eg_Z, (∀ c, c ≠ 205 → y c = z c) → (∀ j : Nat, j < 220 → y 205 j = s.1 j) → eg_E k gX9_ahead 7 0 0 n (enc k y X) [vR k 202, vI a, vI b, vI 0, vU] [] 30 (eg_p k (some (vL (A_ahead s.1 a b))) n X (fun z' => FM z z' ∧ IM z' s)) := by
    intro ha hb y f1 hA
    have L1 : ∀ (mm : Nat) (i : Int) (y : eg_Z) (w : Value), (0 ≤ i) → (i ≤ b) → (∀ d, d ≠ 203 → d ≠ 205 → (d < 210 ∨ 216 ≤ d) → y d = z d) → (nw y (itD s.1 i.toNat)) → (∀ j : Nat, j < 220 → y 205 j = s.1 j) → b - i < (mm : Int) → eg_E k gX9_ahead 7 0 0 n (enc k y X) [vR k 202, vI a, vI b, vI i, w] [] 30 (eg_p k (some (vL (A_ahead s.1 a b))) n X (fun z' => FM z z' ∧ IM z' s)) := by
      intro mm
      induction mm with
      | zero => intro i y w h0 h1 hf hNi hA hmm; exfalso; omega
      | succ mm ih =>
        intro i y w h0 h1 hf hNi hA hmm
        have it := itD_p hO.1 i.toNat (by omega)
        refine eg_iload_n dX9_ahead_30 rfl ?_
        refine eg_iload_n dX9_ahead_31 rfl ?_
        refine eg_icmp_ge 47 dX9_ahead_32 ⟨by omega, by omega⟩ ⟨by omega, by omega⟩ rfl (fun h32 => ?_) (fun h32 => ?_)
        · refine eg_al_n dX9_ahead_47 rfl rfl ?_
          refine eg_iload_n dX9_ahead_48 rfl ?_
          refine eg_iconst dX9_ahead_49 ?_
          refine eg_Vf2 cs_X9_237 dX9_ahead_50 (c_ship hNi (by omega) (by omega) (by omega) (by omega)) (by first | exact er202 | exact er203 | exact er204 | exact er205 | exact er206 | exact er207 | exact er208 | exact er209 | exact er210 | exact er211 | exact er212 | exact er213 | exact er214 | exact er215) rfl (Nat.le_of_ble_eq_true rfl) (by decide) ?_
          refine eg_lstore_n dX9_ahead_53 rfl rfl rfl ?_
          refine eg_al_n dX9_ahead_54 rfl rfl ?_
          refine eg_Vpv0 cs_X9_352 dX9_ahead_55 (c_laysBack (v := s.1) hA) (by first | exact er202 | exact er203 | exact er204 | exact er205 | exact er206 | exact er207 | exact er208 | exact er209 | exact er210 | exact er211 | exact er212 | exact er213 | exact er214 | exact er215) rfl (Nat.le_of_ble_eq_true rfl) (by decide) ?_
          rintro y5 ⟨f5, hN9⟩
          have fm9 : Fm z y5 := Fm.of (fun c hc => by rw [f5 c (by omega)]; exact hf c (by omega) (by omega) (by omega))
          refine eg_lload_n dX9_ahead_58 rfl ?_
          refine eg_lreturn dX9_ahead_59 rfl ?_
          refine ⟨congrArg (fun q => some (vL q)) ?_, rfl, y5, rfl, fm9.1, hI.fm fm9 hN9⟩
          unfold A_ahead
          rw [if_pos (by omega), show i = b by omega]
        · refine eg_al_n dX9_ahead_35 rfl rfl ?_
          refine eg_Vpf0 cs_X9_320 dX9_ahead_36 (c_dayGoes hNi it.1 it.2.1) (by first | exact er202 | exact er203 | exact er204 | exact er205 | exact er206 | exact er207 | exact er208 | exact er209 | exact er210 | exact er211 | exact er212 | exact er213 | exact er214 | exact er215) rfl (Nat.le_of_ble_eq_true rfl) (by decide) ?_
          rintro y2 ⟨f2, n2⟩
          refine eg_istore dX9_ahead_39 rfl rfl rfl ?_
          refine eg_iinc dX9_ahead_41 rfl rfl rfl ?_
          refine eg_goto 30 dX9_ahead_44 rfl ?_
          exact ih (i + 1) y2 _ (by omega) (by omega) (fun d d1 d2 d3 => (f2 d d1 d3).trans (hf d d1 d2 d3)) (by rw [itD_s h0]; exact n2) (fun j hj => by rw [f2 205 (by decide) (by omega)]; exact hA j hj) (by omega)
    exact L1 100 0 y vU (by omega) (by omega) (fun d _ d2 _ => f1 d d2) (nw_c (f1 203 (by decide)) hN) hA (by omega)
  refine eg_al_n dX9_ahead_0 rfl rfl ?_
  refine eg_iload_n dX9_ahead_1 rfl ?_
  refine eg_Vf1 cs_X9_199 dX9_ahead_2 (c_isShipper hN hv r_a) (by first | exact er202 | exact er203 | exact er204 | exact er205 | exact er206 | exact er207 | exact er208 | exact er209 | exact er210 | exact er211 | exact er212 | exact er213 | exact er214 | exact er215) rfl (Nat.le_of_ble_eq_true rfl) (by decide) ?_
  refine eg_bi_eq 20 dX9_ahead_5 rfl (fun h5 => ?_) (fun h5 => ?_)
  · refine eg_ldc2 kw_X9_336 dX9_ahead_20 ?_
    refine eg_lreturn dX9_ahead_23 rfl ?_
    refine ⟨congrArg (fun q => some (vL q)) ?_, rfl, z, rfl, (Fm.rf).1, hI.fm (Fm.rf) hN⟩
    unfold A_ahead; (repeat (first | rw [if_pos (by first | assumption | omega)] | rw [if_neg (by first | assumption | omega)]))
  · refine eg_iload_n dX9_ahead_8 rfl ?_
    refine eg_i2l dX9_ahead_9 ⟨by omega, by omega⟩ ?_
    refine eg_lk0 dX9_ahead_10 ?_
    refine eg_ldc2 kw_X9_231 dX9_ahead_11 ?_
    refine eg_Sf3 cs_X9_81 dX9_ahead_14 (c_in ⟨by omega, by omega⟩ ⟨by omega, by omega⟩ ⟨by omega, by omega⟩) (Nat.le_of_ble_eq_true rfl) (by decide) ?_
    refine eg_bi_ne 24 dX9_ahead_17 rfl (fun h17 => ?_) (fun h17 => ?_)
    · refine eg_al_n dX9_ahead_24 rfl rfl ?_
      refine eg_Vpv0 cs_X9_349 dX9_ahead_25 (c_laysAside hN) (by first | exact er202 | exact er203 | exact er204 | exact er205 | exact er206 | exact er207 | exact er208 | exact er209 | exact er210 | exact er211 | exact er212 | exact er213 | exact er214 | exact er215) rfl (Nat.le_of_ble_eq_true rfl) (by decide) ?_
      rintro y1 ⟨f1, g1⟩
      refine eg_iconst dX9_ahead_28 ?_
      refine eg_istore_n dX9_ahead_29 rfl rfl rfl ?_
      exact J (by omega) (by omega) y1 f1 g1
    · refine eg_ldc2 kw_X9_336 dX9_ahead_20 ?_
      refine eg_lreturn dX9_ahead_23 rfl ?_
      refine ⟨congrArg (fun q => some (vL q)) ?_, rfl, z, rfl, (Fm.rf).1, hI.fm (Fm.rf) hN⟩
      unfold A_ahead; (repeat (first | rw [if_pos (by first | assumption | omega)] | rw [if_neg (by first | assumption | omega)]))
theorem m_first {k : eg_K} {z : eg_Z} {X : eg_M} {n : Nat} {s : eg_S} (hI : IM z s) (hO : OS s) {a : Int} (r_a : iR a) : eg_P k gX9_first 7 0 0 [vR k 202, vI a] n (enc k z X) (eg_p k (some (vI (A_first s.1 a))) n X (fun z' => FM z z' ∧ IM z' s)) := by
  refine eg_P.of (by decide) (Nat.le_of_ble_eq_true rfl) ?_
  show eg_E k gX9_first 7 0 0 n (enc k z X) [vR k 202, vI a, vU, vU, vU] [] 0 _
  have hN := hI.1
  have hv := hO.1.1
  have q := hv.r.2
  have hF : ∀ c, c ≠ 203 → z c = z c := fun _ _ => rfl
  have r_a1 := r_a.1; have r_a2 := r_a.2
  have J : (0 ≤ a ∧ a < s.1 2) → ∀ y : eg_Z, (∀ c, c ≠ 205 → y c = z c) → (∀ j : Nat, j < 220 → y 205 j = s.1 j) → eg_E k gX9_first 7 0 0 n (enc k y X) [vR k 202, vI a, vI (-2), vI 0, vU] [] 19 (eg_p k (some (vI (A_first s.1 a))) n X (fun z' => FM z z' ∧ IM z' s)) := by
    intro ha y f1 hA
    have L1 : ∀ (mm : Nat) (i : Int) (f : Int) (y : eg_Z) (w : Value), (0 ≤ i) → (i ≤ 100) → (-2 ≤ f ∧ f < 100) → (∀ d, d ≠ 203 → d ≠ 205 → (d < 210 ∨ 216 ≤ d) → y d = z d) → (nw y (itD s.1 i.toNat)) → (∀ j : Nat, j < 220 → y 205 j = s.1 j) → ((f = -2 ∧ fsD s.1 a (100 - i).toNat i = fsD s.1 a 100 0) ∨ (f ≠ -2 ∧ f = fsD s.1 a 100 0 ∧ 0 ≤ f ∧ f < i)) → 100 - i < (mm : Int) → eg_E k gX9_first 7 0 0 n (enc k y X) [vR k 202, vI a, vI f, vI i, w] [] 19 (eg_p k (some (vI (A_first s.1 a))) n X (fun z' => FM z z' ∧ IM z' s)) := by
      intro mm
      induction mm with
      | zero => intro i f y w h0 h1 fb hf hNi hA hT hmm; exfalso; omega
      | succ mm ih =>
        intro i f y w h0 h1 fb hf hNi hA hT hmm
        have it := itD_p hO.1 i.toNat (by omega)
        refine eg_iload_n dX9_first_19 rfl ?_
        refine eg_bipush dX9_first_20 (by decide) ?_
        refine eg_icmp_gt 55 dX9_first_22 ⟨by omega, by omega⟩ ⟨by omega, by omega⟩ rfl (fun h22 => ?_) (fun h22 => ?_)
        · refine eg_al_n dX9_first_55 rfl rfl ?_
          refine eg_Vpv0 cs_X9_352 dX9_first_56 (c_laysBack (v := s.1) hA) (by first | exact er202 | exact er203 | exact er204 | exact er205 | exact er206 | exact er207 | exact er208 | exact er209 | exact er210 | exact er211 | exact er212 | exact er213 | exact er214 | exact er215) rfl (Nat.le_of_ble_eq_true rfl) (by decide) ?_
          rintro y5 ⟨f5, hN9⟩
          have fm9 : Fm z y5 := Fm.of (fun c hc => by rw [f5 c (by omega)]; exact hf c (by omega) (by omega) (by omega))
          refine eg_iload_n dX9_first_59 rfl ?_
          refine eg_ireturn dX9_first_60 rfl rfl ?_
          refine ⟨congrArg (fun q => some (vI q)) ?_, rfl, y5, rfl, fm9.1, hI.fm fm9 hN9⟩
          unfold A_first
          rw [if_pos (by omega)]
          rcases hT with t | t
          · rw [← t.2, t.1, show (100 - i).toNat = 0 by omega]; rfl
          · exact t.2.1
        · refine eg_iload_n dX9_first_25 rfl ?_
          refine eg_bipush dX9_first_26 (by decide) ?_
          refine eg_icmp_ne 55 dX9_first_28 ⟨by omega, by omega⟩ ⟨by omega, by omega⟩ rfl (fun h28 => ?_) (fun h28 => ?_)
          · refine eg_al_n dX9_first_55 rfl rfl ?_
            refine eg_Vpv0 cs_X9_352 dX9_first_56 (c_laysBack (v := s.1) hA) (by first | exact er202 | exact er203 | exact er204 | exact er205 | exact er206 | exact er207 | exact er208 | exact er209 | exact er210 | exact er211 | exact er212 | exact er213 | exact er214 | exact er215) rfl (Nat.le_of_ble_eq_true rfl) (by decide) ?_
            rintro y5 ⟨f5, hN9⟩
            have fm9 : Fm z y5 := Fm.of (fun c hc => by rw [f5 c (by omega)]; exact hf c (by omega) (by omega) (by omega))
            refine eg_iload_n dX9_first_59 rfl ?_
            refine eg_ireturn dX9_first_60 rfl rfl ?_
            refine ⟨congrArg (fun q => some (vI q)) ?_, rfl, y5, rfl, fm9.1, hI.fm fm9 hN9⟩
            unfold A_first
            rw [if_pos (by omega)]
            rcases hT with t | t
            · rw [← t.2, t.1, show (100 - i).toNat = 0 by omega]; rfl
            · exact t.2.1
          · have hT2 : fsD s.1 a (100 - i).toNat i = fsD s.1 a 100 0 := by rcases hT with t | t; exact t.2; exact absurd (by omega) t.1
            rw [show (100 - i).toNat = (100 - (i + 1)).toNat + 1 by omega] at hT2
            have hT3 : (if sOver (itD s.1 i.toNat) a = 0 then fsD s.1 a (100 - (i + 1)).toNat (i + 1) else i) = fsD s.1 a 100 0 := hT2
            have ob := sOver_b it.1 (s := a) (by omega) (by rw [it.2.2.2]; omega)
            refine eg_al_n dX9_first_31 rfl rfl ?_
            refine eg_iload_n dX9_first_32 rfl ?_
            refine eg_Vf1 cs_X9_329 dX9_first_33 (c_overOf hNi it.1 (by omega) (by omega) (by rw [it.2.2.2]; omega)) (by first | exact er202 | exact er203 | exact er204 | exact er205 | exact er206 | exact er207 | exact er208 | exact er209 | exact er210 | exact er211 | exact er212 | exact er213 | exact er214 | exact er215) rfl (Nat.le_of_ble_eq_true rfl) (by decide) ?_
            refine eg_lk0 dX9_first_36 ?_
            refine eg_lc_eq 43 dX9_first_37 dX9_first_38 ⟨by omega, by omega⟩ ⟨by omega, by omega⟩ rfl (fun h37 => ?_) (fun h37 => ?_)
            · refine eg_al_n dX9_first_43 rfl rfl ?_
              refine eg_Vpf0 cs_X9_320 dX9_first_44 (c_dayGoes hNi it.1 it.2.1) (by first | exact er202 | exact er203 | exact er204 | exact er205 | exact er206 | exact er207 | exact er208 | exact er209 | exact er210 | exact er211 | exact er212 | exact er213 | exact er214 | exact er215) rfl (Nat.le_of_ble_eq_true rfl) (by decide) ?_
              rintro y2 ⟨f2, n2⟩
              refine eg_istore dX9_first_47 rfl rfl rfl ?_
              refine eg_iinc dX9_first_49 rfl rfl rfl ?_
              refine eg_goto 19 dX9_first_52 rfl ?_
              refine ih (i + 1) f y2 _ (by omega) (by omega) (by omega) (fun d d1 d2 d3 => (f2 d d1 d3).trans (hf d d1 d2 d3)) (by rw [itD_s h0]; exact n2) (fun j hj => by rw [f2 205 (by decide) (by omega)]; exact hA j hj) (Or.inl ⟨by omega, ?_⟩) (by omega)
              rw [if_pos (by omega)] at hT3
              exact hT3
            · refine eg_iload_n dX9_first_41 rfl ?_
              refine eg_istore_n dX9_first_42 rfl rfl rfl ?_
              refine eg_al_n dX9_first_43 rfl rfl ?_
              refine eg_Vpf0 cs_X9_320 dX9_first_44 (c_dayGoes hNi it.1 it.2.1) (by first | exact er202 | exact er203 | exact er204 | exact er205 | exact er206 | exact er207 | exact er208 | exact er209 | exact er210 | exact er211 | exact er212 | exact er213 | exact er214 | exact er215) rfl (Nat.le_of_ble_eq_true rfl) (by decide) ?_
              rintro y2 ⟨f2, n2⟩
              refine eg_istore dX9_first_47 rfl rfl rfl ?_
              refine eg_iinc dX9_first_49 rfl rfl rfl ?_
              refine eg_goto 19 dX9_first_52 rfl ?_
              refine ih (i + 1) i y2 _ (by omega) (by omega) (by omega) (fun d d1 d2 d3 => (f2 d d1 d3).trans (hf d d1 d2 d3)) (by rw [itD_s h0]; exact n2) (fun j hj => by rw [f2 205 (by decide) (by omega)]; exact hA j hj) (Or.inr ⟨by omega, ?_, h0, by omega⟩) (by omega)
              rw [if_neg (by omega)] at hT3
              exact hT3
    exact L1 101 0 (-2) y vU (by omega) (by omega) (by omega) (fun d _ d2 _ => f1 d d2) (nw_c (f1 203 (by decide)) hN) hA (Or.inl ⟨rfl, rfl⟩) (by omega)
  refine eg_al_n dX9_first_0 rfl rfl ?_
  refine eg_iload_n dX9_first_1 rfl ?_
  refine eg_Vf1 cs_X9_199 dX9_first_2 (c_isShipper hN hv r_a) (by first | exact er202 | exact er203 | exact er204 | exact er205 | exact er206 | exact er207 | exact er208 | exact er209 | exact er210 | exact er211 | exact er212 | exact er213 | exact er214 | exact er215) rfl (Nat.le_of_ble_eq_true rfl) (by decide) ?_
  refine eg_bi_ne 10 dX9_first_5 rfl (fun h5 => ?_) (fun h5 => ?_)
  · refine eg_al_n dX9_first_10 rfl rfl ?_
    refine eg_Vpv0 cs_X9_349 dX9_first_11 (c_laysAside hN) (by first | exact er202 | exact er203 | exact er204 | exact er205 | exact er206 | exact er207 | exact er208 | exact er209 | exact er210 | exact er211 | exact er212 | exact er213 | exact er214 | exact er215) rfl (Nat.le_of_ble_eq_true rfl) (by decide) ?_
    rintro y1 ⟨f1, g1⟩
    refine eg_bipush dX9_first_14 (by decide) ?_
    refine eg_istore_n dX9_first_16 rfl rfl rfl ?_
    refine eg_iconst dX9_first_17 ?_
    refine eg_istore_n dX9_first_18 rfl rfl rfl ?_
    exact J (by omega) y1 f1 g1
  · refine eg_iconst dX9_first_8 ?_
    refine eg_ireturn dX9_first_9 rfl rfl ?_
    refine ⟨congrArg (fun q => some (vI q)) ?_, rfl, z, rfl, (Fm.rf).1, hI.fm (Fm.rf) hN⟩
    unfold A_first; (repeat (first | rw [if_pos (by first | assumption | omega)] | rw [if_neg (by first | assumption | omega)]))
theorem m_fair {k : eg_K} {z : eg_Z} {X : eg_M} {n : Nat} {s : eg_S} (hI : IM z s) (hO : OS s) {a : Int} (r_a : iR a) : eg_P k gX9_fair 5 0 0 [vR k 202, vI a] n (enc k z X) (eg_p k (some (vI (A_fair s.1 a))) n X (fun z' => FM z z' ∧ IM z' s)) := by
  refine eg_P.of (by decide) (Nat.le_of_ble_eq_true rfl) ?_
  show eg_E k gX9_fair 5 0 0 n (enc k z X) [vR k 202, vI a, vU] [] 0 _
  have hN := hI.1
  have hv := hO.1.1
  have q := hv.r.2
  have hF : ∀ c, c ≠ 203 → z c = z c := fun _ _ => rfl
  have r_a1 := r_a.1; have r_a2 := r_a.2
  have J : (0 ≤ a ∧ a < s.1 3) → ∀ y : eg_Z, (∀ d, (d < 210 ∨ 216 ≤ d) → y d = z d) → (∀ m : Int, isM s.1 m → y 210 m.toNat = l0 s.1 (stM s.1 m)) → (∀ q : Int, 0 ≤ q → q < 16 → y 213 q.toNat = 0 ∧ y 214 q.toNat = -2) → eg_E k gX9_fair 5 0 0 n (enc k y X) [vR k 202, vI a, vI 0] [] 16 (eg_p k (some (vI (A_fair s.1 a))) n X (fun z' => FM z z' ∧ IM z' s)) := by
    intro ha y hf hG hB
    have L1 : ∀ (mm : Nat) (i : Int) (y : eg_Z), (0 ≤ i) → (i ≤ s.1 3) → (∀ d, (d < 210 ∨ 216 ≤ d) → y d = z d) → (∀ m : Int, isM s.1 m → y 210 m.toNat = l0 s.1 (stM s.1 m)) → (∀ q : Int, 0 ≤ q → q < 16 → y 213 q.toNat = 0 ∧ y 214 q.toNat = -2) → (∀ q : Int, 0 ≤ q → q < i → y 211 q.toNat = gN s.1 q 3) → s.1 3 - i < (mm : Int) → eg_E k gX9_fair 5 0 0 n (enc k y X) [vR k 202, vI a, vI i] [] 16 (eg_p k (some (vI (A_fair s.1 a))) n X (fun z' => FM z z' ∧ IM z' s)) := by
      intro mm
      induction mm with
      | zero => intro i y h0 h1 hf hG hB hP hmm; exfalso; omega
      | succ mm ih =>
        intro i y h0 h1 hf hG hB hP hmm
        have hNy : nw y s.1 := nw_c (hf 203 (by omega)) hN
        refine eg_iload_n dX9_fair_16 rfl ?_
        refine eg_al_n dX9_fair_17 rfl rfl ?_
        refine eg_iconst dX9_fair_18 ?_
        refine eg_Vf1 cs_X9_179 dX9_fair_19 (many_3 hNy) (by first | exact er202 | exact er203 | exact er204 | exact er205 | exact er206 | exact er207 | exact er208 | exact er209 | exact er210 | exact er211 | exact er212 | exact er213 | exact er214 | exact er215) rfl (Nat.le_of_ble_eq_true rfl) (by decide) ?_
        refine eg_icmp_ge 43 dX9_fair_22 ⟨by omega, by omega⟩ ⟨by omega, by omega⟩ rfl (fun h22 => ?_) (fun h22 => ?_)
        · refine eg_al_n dX9_fair_43 rfl rfl ?_
          refine eg_Vpv0 cs_X9_282 dX9_fair_44 (c_classGoes (l := l0 s.1) (p0 := fun q => gN s.1 q 3) (ct0 := fun _ => -2) hNy hv (gN3_ok hv) (fun c hc => l0_b hv hO.1.2.1 ⟨by omega, by omega⟩) (fun _ _ _ => ⟨by omega, by omega⟩) hG (fun q9 a9 b9 => ⟨hP q9 a9 (by omega), (hB q9 a9 (by omega)).2⟩)) (by first | exact er202 | exact er203 | exact er204 | exact er205 | exact er206 | exact er207 | exact er208 | exact er209 | exact er210 | exact er211 | exact er212 | exact er213 | exact er214 | exact er215) rfl (Nat.le_of_ble_eq_true rfl) (by decide) ?_
          rintro y3 ⟨f3, z3, p3, l3⟩
          have hN9 : nw y3 s.1 := nw_c (f3 203 (by decide) (by decide) (by decide) (by decide)) hNy
          have fm9 : Fm z y3 := Fm.of (fun c hc => by rw [f3 c (by omega) (by omega) (by omega) (by omega)]; exact hf c (by omega))
          refine eg_al_n dX9_fair_47 rfl rfl ?_
          refine eg_get fl_X9_43 dX9_fair_48 (by first | exact er202 | exact er203 | exact er204 | exact er205 | exact er206 | exact er207 | exact er208 | exact er209 | exact er210 | exact er211 | exact er212 | exact er213 | exact er214 | exact er215) rfl ?_
          refine eg_iload_n dX9_fair_51 rfl ?_
          refine eg_iald dX9_fair_52 (by first | exact er202 | exact er203 | exact er204 | exact er205 | exact er206 | exact er207 | exact er208 | exact er209 | exact er210 | exact er211 | exact er212 | exact er213 | exact er214 | exact er215) (by omega) (by omega) (by decide) ?_
          refine eg_ireturn dX9_fair_53 rfl rfl ?_
          rw [p3 a (by omega) (by omega), (hB a (by omega) (by omega)).1]
          refine ⟨congrArg (fun q => some (vI q)) ?_, rfl, y3, rfl, fm9.1, hI.fm fm9 hN9⟩
          unfold A_fair
          rw [if_pos (by omega)]
          unfold fairS
          omega
        · refine eg_al_n dX9_fair_25 rfl rfl ?_
          refine eg_get fl_X9_37 dX9_fair_26 (by first | exact er202 | exact er203 | exact er204 | exact er205 | exact er206 | exact er207 | exact er208 | exact er209 | exact er210 | exact er211 | exact er212 | exact er213 | exact er214 | exact er215) rfl ?_
          refine eg_iload_n dX9_fair_29 rfl ?_
          refine eg_al_n dX9_fair_30 rfl rfl ?_
          refine eg_iload_n dX9_fair_31 rfl ?_
          refine eg_iconst dX9_fair_32 ?_
          refine eg_Vf2 cs_X9_259 dX9_fair_33 (c_nom hNy (by omega) (by omega) (by omega) (by omega)) (by first | exact er202 | exact er203 | exact er204 | exact er205 | exact er206 | exact er207 | exact er208 | exact er209 | exact er210 | exact er211 | exact er212 | exact er213 | exact er214 | exact er215) rfl (Nat.le_of_ble_eq_true rfl) (by decide) ?_
          refine eg_ia211 dX9_fair_36 (by omega) (by omega) (fun y1 f1 e1 => ?_)
          refine eg_iinc dX9_fair_37 rfl rfl rfl ?_
          refine eg_goto 16 dX9_fair_40 rfl ?_
          refine ih (i + 1) y1 (by omega) (by omega) (fun d hd => (f1 d (by omega)).trans (hf d hd)) (fun m9 h9 => by rw [f1 210 (by decide)]; exact hG m9 h9) (fun q9 a9 b9 => by rw [f1 213 (by decide), f1 214 (by decide)]; exact hB q9 a9 b9) (fun q9 a9 b9 => ?_) (by omega)
          by_cases e : q9 = i
          · subst e; rw [va_up_e e1 rfl]
          · rw [va_up_k e1 (by omega)]; exact hP q9 a9 (by omega)
    exact L1 17 0 y (by omega) (by omega) hf hG hB (fun q9 a9 b9 => absurd b9 (by omega)) (by omega)
  refine eg_al_n dX9_fair_0 rfl rfl ?_
  refine eg_iload_n dX9_fair_1 rfl ?_
  refine eg_Vf1 cs_X9_213 dX9_fair_2 (c_isNom hN hv r_a) (by first | exact er202 | exact er203 | exact er204 | exact er205 | exact er206 | exact er207 | exact er208 | exact er209 | exact er210 | exact er211 | exact er212 | exact er213 | exact er214 | exact er215) rfl (Nat.le_of_ble_eq_true rfl) (by decide) ?_
  refine eg_bi_ne 10 dX9_fair_5 rfl (fun h5 => ?_) (fun h5 => ?_)
  · refine eg_al_n dX9_fair_10 rfl rfl ?_
    refine eg_Vpv0 cs_X9_276 dX9_fair_11 (c_begins hN hv) (by first | exact er202 | exact er203 | exact er204 | exact er205 | exact er206 | exact er207 | exact er208 | exact er209 | exact er210 | exact er211 | exact er212 | exact er213 | exact er214 | exact er215) rfl (Nat.le_of_ble_eq_true rfl) (by decide) ?_
    rintro y1 ⟨f1, g1, b1⟩
    refine eg_iconst dX9_fair_14 ?_
    refine eg_istore_n dX9_fair_15 rfl rfl rfl ?_
    exact J (by omega) y1 (fun d hd => f1 d (by omega) (by omega) (by omega) (by omega)) g1 (fun q9 a9 b9 => ⟨(b1 q9 a9 b9).1, (b1 q9 a9 b9).2.1⟩)
  · refine eg_iconst dX9_fair_8 ?_
    refine eg_ireturn dX9_fair_9 rfl rfl ?_
    refine ⟨congrArg (fun q => some (vI q)) ?_, rfl, z, rfl, (Fm.rf).1, hI.fm (Fm.rf) hN⟩
    unfold A_fair; (repeat (first | rw [if_pos (by first | assumption | omega)] | rw [if_neg (by first | assumption | omega)]))
theorem m_alone {k : eg_K} {z : eg_Z} {X : eg_M} {n : Nat} {s : eg_S} (hI : IM z s) (hO : OS s) {a : Int} (r_a : iR a) : eg_P k gX9_alone 6 0 0 [vR k 202, vI a] n (enc k z X) (eg_p k (some (vI (A_alone s.1 a))) n X (fun z' => FM z z' ∧ IM z' s)) := by
  refine eg_P.of (by decide) (Nat.le_of_ble_eq_true rfl) ?_
  show eg_E k gX9_alone 6 0 0 n (enc k z X) [vR k 202, vI a, vU] [] 0 _
  have hN := hI.1
  have hv := hO.1.1
  have q := hv.r.2
  have hF : ∀ c, c ≠ 203 → z c = z c := fun _ _ => rfl
  have r_a1 := r_a.1; have r_a2 := r_a.2
  have J : (0 ≤ a ∧ a < s.1 3) → ∀ y : eg_Z, (∀ c, c ≠ 205 → y c = z c) → (∀ j : Nat, j < 220 → y 205 j = s.1 j) → eg_E k gX9_alone 6 0 0 n (enc k y X) [vR k 202, vI a, vI 0] [] 16 (eg_p k (some (vI (A_alone s.1 a))) n X (fun z' => FM z z' ∧ IM z' s)) := by
    intro ha y f1 hA
    have L1 : ∀ (mm : Nat) (i : Int) (y : eg_Z), (0 ≤ i) → (i ≤ s.1 3) → (∀ d, d ≠ 203 → d ≠ 205 → y d = z d) → (nw y (alIt s.1 a i.toNat)) → (∀ j : Nat, j < 220 → y 205 j = s.1 j) → s.1 3 - i < (mm : Int) → eg_E k gX9_alone 6 0 0 n (enc k y X) [vR k 202, vI a, vI i] [] 16 (eg_p k (some (vI (A_alone s.1 a))) n X (fun z' => FM z z' ∧ IM z' s)) := by
      intro mm
      induction mm with
      | zero => intro i y h0 h1 hf hNi hA hmm; exfalso; omega
      | succ mm ih =>
        intro i y h0 h1 hf hNi hA hmm
        have ap := alIt_p (q := a) hO.1 i.toNat (by omega)
        refine eg_iload_n dX9_alone_16 rfl ?_
        refine eg_al_n dX9_alone_17 rfl rfl ?_
        refine eg_iconst dX9_alone_18 ?_
        refine eg_Vf1 cs_X9_179 dX9_alone_19 (many_3 hNi) (by first | exact er202 | exact er203 | exact er204 | exact er205 | exact er206 | exact er207 | exact er208 | exact er209 | exact er210 | exact er211 | exact er212 | exact er213 | exact er214 | exact er215) rfl (Nat.le_of_ble_eq_true rfl) (by decide) ?_
        rw [ap.2 3 (by omega)]
        refine eg_icmp_ge 50 dX9_alone_22 ⟨by omega, by omega⟩ ⟨by omega, by omega⟩ rfl (fun h22 => ?_) (fun h22 => ?_)
        · refine eg_al_n dX9_alone_50 rfl rfl ?_
          refine eg_Vpv0 cs_X9_302 dX9_alone_51 (c_schedules hNi ap.1.1 ap.1.2.1) (by first | exact er202 | exact er203 | exact er204 | exact er205 | exact er206 | exact er207 | exact er208 | exact er209 | exact er210 | exact er211 | exact er212 | exact er213 | exact er214 | exact er215) rfl (Nat.le_of_ble_eq_true rfl) (by decide) ?_
          rintro y3 ⟨f3, j3, p3⟩
          refine eg_al_n dX9_alone_54 rfl rfl ?_
          refine eg_get fl_X9_43 dX9_alone_55 (by first | exact er202 | exact er203 | exact er204 | exact er205 | exact er206 | exact er207 | exact er208 | exact er209 | exact er210 | exact er211 | exact er212 | exact er213 | exact er214 | exact er215) rfl ?_
          refine eg_iload_n dX9_alone_58 rfl ?_
          refine eg_iald dX9_alone_59 (by first | exact er202 | exact er203 | exact er204 | exact er205 | exact er206 | exact er207 | exact er208 | exact er209 | exact er210 | exact er211 | exact er212 | exact er213 | exact er214 | exact er215) (by omega) (by omega) (by decide) ?_
          refine eg_eqI ((j3.2 a (by omega) (by rw [ap.2 3 (by omega)]; omega)).1) ?_
          refine eg_istore_n dX9_alone_60 rfl rfl rfl ?_
          refine eg_al_n dX9_alone_61 rfl rfl ?_
          refine eg_Vpv0 cs_X9_352 dX9_alone_62 (c_laysBack (v := s.1) (fun j hj => by rw [f3 205 (by omega)]; exact hA j hj)) (by first | exact er202 | exact er203 | exact er204 | exact er205 | exact er206 | exact er207 | exact er208 | exact er209 | exact er210 | exact er211 | exact er212 | exact er213 | exact er214 | exact er215) rfl (Nat.le_of_ble_eq_true rfl) (by decide) ?_
          rintro y5 ⟨f5, hN9⟩
          have fm9 : Fm z y5 := Fm.of (fun c hc => by rw [f5 c (by omega), f3 c (by omega)]; exact hf c (by omega) (by omega))
          refine eg_iload_n dX9_alone_65 rfl ?_
          refine eg_ireturn dX9_alone_66 rfl rfl ?_
          refine ⟨congrArg (fun q => some (vI q)) ?_, rfl, y5, rfl, fm9.1, hI.fm fm9 hN9⟩
          unfold A_alone
          rw [if_pos (by omega), show i = s.1 3 by omega]
        · refine eg_iload_n dX9_alone_25 rfl ?_
          refine eg_iload_n dX9_alone_26 rfl ?_
          refine eg_icmp_eq 44 dX9_alone_27 ⟨by omega, by omega⟩ ⟨by omega, by omega⟩ rfl (fun h27 => ?_) (fun h27 => ?_)
          · refine eg_iinc dX9_alone_44 rfl rfl rfl ?_
            refine eg_goto 16 dX9_alone_47 rfl ?_
            refine ih (i + 1) y (by omega) (by omega) hf ?_ hA (by omega)
            rw [alIt_s h0, if_pos (by omega)]
            exact hNi
          · have hF : ∀ c, c ≠ 203 → y c = y c := fun _ _ => rfl
            have hN := hNi
            refine eg_al_n dX9_alone_30 rfl rfl ?_
            refine eg_get fl_X9_9 dX9_alone_31 (by first | exact er202 | exact er203 | exact er204 | exact er205 | exact er206 | exact er207 | exact er208 | exact er209 | exact er210 | exact er211 | exact er212 | exact er213 | exact er214 | exact er215) rfl ?_
            refine eg_bipush dX9_alone_34 (by decide) ?_
            refine eg_iconst dX9_alone_36 ?_
            refine eg_iload_n dX9_alone_37 rfl ?_
            refine eg_imul dX9_alone_38 ?_
            refine eg_iadd dX9_alone_39 ?_
            refine eg_iconst dX9_alone_40 ?_
            refine eg_iadd dX9_alone_41 ?_
            refine eg_lk0 dX9_alone_42 ?_
            refine eg_nowS dX9_alone_43 hN (by omega) (by omega) (fun y f1 hN => ?_)
            have hF := fun c hc => (f1 c hc).trans (hF c hc)
            refine eg_iinc dX9_alone_44 rfl rfl rfl ?_
            refine eg_goto 16 dX9_alone_47 rfl ?_
            refine ih (i + 1) _ (by omega) (by omega) (fun d d1 d2 => (hF d d1).trans (hf d d1 d2)) ?_ (fun j hj => by rw [hF 205 (by decide)]; exact hA j hj) (by omega)
            rw [alIt_s h0, if_neg (by omega)]
            exact hN
    exact L1 17 0 y (by omega) (by omega) (fun d _ d2 => f1 d d2) (nw_c (f1 203 (by decide)) hN) hA (by omega)
  refine eg_al_n dX9_alone_0 rfl rfl ?_
  refine eg_iload_n dX9_alone_1 rfl ?_
  refine eg_Vf1 cs_X9_213 dX9_alone_2 (c_isNom hN hv r_a) (by first | exact er202 | exact er203 | exact er204 | exact er205 | exact er206 | exact er207 | exact er208 | exact er209 | exact er210 | exact er211 | exact er212 | exact er213 | exact er214 | exact er215) rfl (Nat.le_of_ble_eq_true rfl) (by decide) ?_
  refine eg_bi_ne 10 dX9_alone_5 rfl (fun h5 => ?_) (fun h5 => ?_)
  · refine eg_al_n dX9_alone_10 rfl rfl ?_
    refine eg_Vpv0 cs_X9_349 dX9_alone_11 (c_laysAside hN) (by first | exact er202 | exact er203 | exact er204 | exact er205 | exact er206 | exact er207 | exact er208 | exact er209 | exact er210 | exact er211 | exact er212 | exact er213 | exact er214 | exact er215) rfl (Nat.le_of_ble_eq_true rfl) (by decide) ?_
    rintro y1 ⟨f1, g1⟩
    refine eg_iconst dX9_alone_14 ?_
    refine eg_istore_n dX9_alone_15 rfl rfl rfl ?_
    exact J (by omega) y1 f1 g1
  · refine eg_iconst dX9_alone_8 ?_
    refine eg_ireturn dX9_alone_9 rfl rfl ?_
    refine ⟨congrArg (fun q => some (vI q)) ?_, rfl, z, rfl, (Fm.rf).1, hI.fm (Fm.rf) hN⟩
    unfold A_alone; (repeat (first | rw [if_pos (by first | assumption | omega)] | rw [if_neg (by first | assumption | omega)]))
theorem m_log {k : eg_K} {z : eg_Z} {X : eg_M} {n : Nat} {s : eg_S} (hI : IM z s) (hO : OS s) {a b : Int} (r_a : iR a) (r_b : iR b) (h11 : s.1 11 = if s.1 4 < 8 then s.1 4 else 8) : eg_P k gX9_log 2 0 0 [vR k 202, vI a, vI b] n (enc k z X) (eg_p k (some (vI (A_log s.1 a b))) n X (fun z' => FM z z' ∧ IM z' s)) := by
  refine eg_P.of (by decide) (Nat.le_of_ble_eq_true rfl) ?_
  show eg_E k gX9_log 2 0 0 n (enc k z X) [vR k 202, vI a, vI b] [] 0 _
  have hN := hI.1
  have hv := hO.1.1
  have q := hv.r.2
  have hF : ∀ c, c ≠ 203 → z c = z c := fun _ _ => rfl
  have r_a1 := r_a.1; have r_a2 := r_a.2; have r_b1 := r_b.1; have r_b2 := r_b.2
  have h11b : (0 ≤ s.1 11 ∧ s.1 11 ≤ 8) ∧ (a < s.1 11 ↔ (a < 8 ∧ a < s.1 4)) := by rw [h11]; split <;> omega
  have h11c := h11b.1
  have h11d := h11b.2
  refine eg_iload_n dX9_log_0 rfl ?_
  refine eg_i2l dX9_log_1 ⟨by omega, by omega⟩ ?_
  refine eg_lk0 dX9_log_2 ?_
  refine eg_al_n dX9_log_3 rfl rfl ?_
  refine eg_get fl_X9_9 dX9_log_4 (by first | exact er202 | exact er203 | exact er204 | exact er205 | exact er206 | exact er207 | exact er208 | exact er209 | exact er210 | exact er211 | exact er212 | exact er213 | exact er214 | exact er215) rfl ?_
  refine eg_bipush dX9_log_7 (by decide) ?_
  refine eg_nowL dX9_log_9 hN (by omega) (by omega) ?_
  refine eg_eqL (y := s.1 11) rfl ?_
  refine eg_lk1 dX9_log_10 ?_
  refine eg_lsub dX9_log_11 ?_
  refine eg_Sf3 cs_X9_81 dX9_log_12 (c_in ⟨by omega, by omega⟩ ⟨by omega, by omega⟩ ⟨by omega, by omega⟩) (Nat.le_of_ble_eq_true rfl) (by decide) ?_
  refine eg_bi_eq 45 dX9_log_15 rfl (fun h15 => ?_) (fun h15 => ?_)
  · refine eg_ldcw kw_X9_355 dX9_log_45 ?_
    refine eg_ireturn dX9_log_48 rfl rfl ?_
    refine ⟨congrArg (fun q => some (vI q)) ?_, rfl, z, rfl, (Fm.rf).1, hI.fm (Fm.rf) hN⟩
    unfold A_log; (repeat (first | rw [if_pos (by first | assumption | omega)] | rw [if_neg (by first | assumption | omega)]))
  · refine eg_al_n dX9_log_18 rfl rfl ?_
    refine eg_iload_n dX9_log_19 rfl ?_
    refine eg_Vf1 cs_X9_199 dX9_log_20 (c_isShipper hN hv r_b) (by first | exact er202 | exact er203 | exact er204 | exact er205 | exact er206 | exact er207 | exact er208 | exact er209 | exact er210 | exact er211 | exact er212 | exact er213 | exact er214 | exact er215) rfl (Nat.le_of_ble_eq_true rfl) (by decide) ?_
    refine eg_bi_eq 45 dX9_log_23 rfl (fun h23 => ?_) (fun h23 => ?_)
    · refine eg_ldcw kw_X9_355 dX9_log_45 ?_
      refine eg_ireturn dX9_log_48 rfl rfl ?_
      refine ⟨congrArg (fun q => some (vI q)) ?_, rfl, z, rfl, (Fm.rf).1, hI.fm (Fm.rf) hN⟩
      unfold A_log; (repeat (first | rw [if_pos (by first | assumption | omega)] | rw [if_neg (by first | assumption | omega)]))
    · refine eg_al_n dX9_log_26 rfl rfl ?_
      refine eg_get fl_X9_9 dX9_log_27 (by first | exact er202 | exact er203 | exact er204 | exact er205 | exact er206 | exact er207 | exact er208 | exact er209 | exact er210 | exact er211 | exact er212 | exact er213 | exact er214 | exact er215) rfl ?_
      refine eg_sipush dX9_log_30 (by decide) ?_
      refine eg_bipush dX9_log_33 (by decide) ?_
      refine eg_iload_n dX9_log_35 rfl ?_
      refine eg_imul dX9_log_36 ?_
      refine eg_iadd dX9_log_37 ?_
      refine eg_iload_n dX9_log_38 rfl ?_
      refine eg_iadd dX9_log_39 ?_
      refine eg_nowL dX9_log_40 hN (by omega) (by omega) ?_
      refine eg_l2i dX9_log_41 ?_
      refine eg_goto 48 dX9_log_42 rfl ?_
      refine eg_ireturn dX9_log_48 rfl rfl ?_
      refine ⟨congrArg (fun q => some (vI q)) ?_, rfl, z, rfl, (Fm.rf).1, hI.fm (Fm.rf) hN⟩
      unfold A_log; (repeat (first | rw [if_pos (by first | assumption | omega)] | rw [if_neg (by first | assumption | omega)]))
