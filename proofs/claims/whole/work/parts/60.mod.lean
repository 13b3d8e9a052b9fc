theorem bi_c {p q : Prop} [Decidable p] [Decidable q] (h : p ↔ q) : bi p = bi q := by
  unfold bi
  by_cases a : p
  · rw [if_pos a, if_pos (h.mp a)]
  · rw [if_neg a, if_neg (fun b => a (h.mpr b))]
theorem stM_lo {v : eg_v} {m : Int} (h : m < 24) : stM v m = stQ v m := by unfold stM; rw [if_pos h]
theorem stM_sg {v : eg_v} {m : Int} (h : 10 ≤ m ∧ m < 24) : stM v m = m := by unfold stM stQ; rw [if_pos h.2, if_neg (by omega)]
theorem m_point {k : eg_K} {z : eg_Z} {X : eg_M} {n : Nat} {s : eg_S} (hI : IM z s) (hO : OS s) {a b : Int} (r_a : iR a) (r_b : iR b) : eg_P k gX9_point 6 0 0 [vR k 202, vI a, vI b] n (enc k z X) (eg_p k (some (vI (A_point s.1 a b))) n X (fun z' => FM z z' ∧ IM z' s)) := by
  refine eg_P.of (by decide) (Nat.le_of_ble_eq_true rfl) ?_
  show eg_E k gX9_point 6 0 0 n (enc k z X) [vR k 202, vI a, vI b] [] 0 _
  have hN := hI.1
  have hv := hO.1.1
  have q := hv.r.2
  have hF : ∀ c, c ≠ 203 → z c = z c := fun _ _ => rfl
  have r_a1 := r_a.1; have r_a2 := r_a.2; have r_b1 := r_b.1; have r_b2 := r_b.2
  refine eg_al_n dX9_point_0 rfl rfl ?_
  refine eg_iload_n dX9_point_1 rfl ?_
  refine eg_Vf1 cs_X9_185 dX9_point_2 (c_isPoint hN hv r_a) (by first | exact er202 | exact er203 | exact er204 | exact er205 | exact er206 | exact er207 | exact er208 | exact er209 | exact er210 | exact er211 | exact er212 | exact er213 | exact er214 | exact er215) rfl (Nat.le_of_ble_eq_true rfl) (by decide) ?_
  refine eg_bi_ne 10 dX9_point_5 rfl (fun h5 => ?_) (fun h5 => ?_)
  · refine eg_iload_n dX9_point_10 rfl ?_
    by_cases t11_44 : b = 0 ∨ b = 1 ∨ b = 2
    · have J : eg_E k gX9_point 6 0 0 n (enc k z X) [vR k 202, vI a, vI b] [] 44 (eg_p k (some (vI (A_point s.1 a b))) n X (fun z' => FM z z' ∧ IM z' s)) := by
        refine eg_al_n dX9_point_44 rfl rfl ?_
        refine eg_iload_n dX9_point_45 rfl ?_
        refine eg_iload_n dX9_point_46 rfl ?_
        refine eg_Vf2 cs_X9_189 dX9_point_47 (c_pointOf hN (by omega) (by omega) (by omega) (by omega)) (by first | exact er202 | exact er203 | exact er204 | exact er205 | exact er206 | exact er207 | exact er208 | exact er209 | exact er210 | exact er211 | exact er212 | exact er213 | exact er214 | exact er215) rfl (Nat.le_of_ble_eq_true rfl) (by decide) ?_
        refine eg_ireturn dX9_point_50 rfl rfl ?_
        refine ⟨congrArg (fun q => some (vI q)) ?_, rfl, z, rfl, (Fm.rf).1, hI.fm (Fm.rf) hN⟩
        unfold A_point; (repeat (first | rw [if_pos (by first | assumption | omega)] | rw [if_neg (by first | assumption | omega)]))
      rcases t11_44 with hq | hq | hq
      · exact eg_tbI 44 dX9_point_11 ⟨by omega, by omega⟩ (by omega) (by omega) (by rw [hq]; rfl) rfl J
      · exact eg_tbI 44 dX9_point_11 ⟨by omega, by omega⟩ (by omega) (by omega) (by rw [hq]; rfl) rfl J
      · exact eg_tbI 44 dX9_point_11 ⟨by omega, by omega⟩ (by omega) (by omega) (by rw [hq]; rfl) rfl J
    by_cases t11_51 : b = 3
    · refine eg_tbI 51 dX9_point_11 ⟨by omega, by omega⟩ (by omega) (by omega) (by rw [t11_51]; rfl) rfl ?_
      refine eg_al_n dX9_point_51 rfl rfl ?_
      refine eg_iload_n dX9_point_52 rfl ?_
      refine eg_iconst dX9_point_53 ?_
      refine eg_Vf2 cs_X9_189 dX9_point_54 (c_pointOf hN (by omega) (by omega) (by omega) (by omega)) (by first | exact er202 | exact er203 | exact er204 | exact er205 | exact er206 | exact er207 | exact er208 | exact er209 | exact er210 | exact er211 | exact er212 | exact er213 | exact er214 | exact er215) rfl (Nat.le_of_ble_eq_true rfl) (by decide) ?_
      refine eg_bipush dX9_point_57 (by decide) ?_
      refine eg_iadd dX9_point_59 ?_
      refine eg_ireturn dX9_point_60 rfl rfl ?_
      refine ⟨congrArg (fun q => some (vI q)) ?_, rfl, z, rfl, (Fm.rf).1, hI.fm (Fm.rf) hN⟩
      unfold A_point; (repeat (first | rw [if_pos (by first | assumption | omega)] | rw [if_neg (by first | assumption | omega)]))
    by_cases t11_61 : b = 4
    · refine eg_tbI 61 dX9_point_11 ⟨by omega, by omega⟩ (by omega) (by omega) (by rw [t11_61]; rfl) rfl ?_
      refine eg_al_n dX9_point_61 rfl rfl ?_
      refine eg_Vpv0 cs_X9_302 dX9_point_62 (c_schedules hN hv hO.1.2.1) (by first | exact er202 | exact er203 | exact er204 | exact er205 | exact er206 | exact er207 | exact er208 | exact er209 | exact er210 | exact er211 | exact er212 | exact er213 | exact er214 | exact er215) rfl (Nat.le_of_ble_eq_true rfl) (by decide) ?_
      rintro y1 ⟨f1, j1, p1⟩
      have hN1 : nw y1 s.1 := nw_c (f1 203 (by omega)) hN
      have fm1 : Fm z y1 := Fm.of (fun c hc => f1 c (by omega))
      refine eg_al_n dX9_point_65 rfl rfl ?_
      refine eg_get fl_X9_33 dX9_point_66 (by first | exact er202 | exact er203 | exact er204 | exact er205 | exact er206 | exact er207 | exact er208 | exact er209 | exact er210 | exact er211 | exact er212 | exact er213 | exact er214 | exact er215) rfl ?_
      refine eg_iload_n dX9_point_69 rfl ?_
      refine eg_iald dX9_point_70 (by first | exact er202 | exact er203 | exact er204 | exact er205 | exact er206 | exact er207 | exact er208 | exact er209 | exact er210 | exact er211 | exact er212 | exact er213 | exact er214 | exact er215) (by omega) (by omega) (by decide) ?_
      refine eg_ireturn dX9_point_71 rfl rfl ?_
      refine ⟨congrArg (fun q => some (vI q)) ?_, rfl, y1, rfl, fm1.1, hI.fm fm1 hN1⟩
      rw [j1.1 a (Or.inl ⟨by omega, by omega, by omega⟩), stM_lo (by omega)]
      unfold A_point; (repeat (first | rw [if_pos (by first | assumption | omega)] | rw [if_neg (by first | assumption | omega)]))
    refine eg_tbO 72 dX9_point_11 ⟨by omega, by omega⟩ (by omega) rfl ?_
    refine eg_iconst dX9_point_72 ?_
    refine eg_ireturn dX9_point_73 rfl rfl ?_
    refine ⟨congrArg (fun q => some (vI q)) ?_, rfl, z, rfl, (Fm.rf).1, hI.fm (Fm.rf) hN⟩
    unfold A_point; (repeat (first | rw [if_pos (by first | assumption | omega)] | rw [if_neg (by first | assumption | omega)]))
  · refine eg_iconst dX9_point_8 ?_
    refine eg_ireturn dX9_point_9 rfl rfl ?_
    refine ⟨congrArg (fun q => some (vI q)) ?_, rfl, z, rfl, (Fm.rf).1, hI.fm (Fm.rf) hN⟩
    unfold A_point; (repeat (first | rw [if_pos (by first | assumption | omega)] | rw [if_neg (by first | assumption | omega)]))
theorem m_segment {k : eg_K} {z : eg_Z} {X : eg_M} {n : Nat} {s : eg_S} (hI : IM z s) (hO : OS s) {a b : Int} (r_a : iR a) (r_b : iR b) : eg_P k gX9_segment 6 0 0 [vR k 202, vI a, vI b] n (enc k z X) (eg_p k (some (vI (A_segment s.1 a b))) n X (fun z' => FM z z' ∧ IM z' s)) := by
  refine eg_P.of (by decide) (Nat.le_of_ble_eq_true rfl) ?_
  show eg_E k gX9_segment 6 0 0 n (enc k z X) [vR k 202, vI a, vI b] [] 0 _
  have hN := hI.1
  have hv := hO.1.1
  have q := hv.r.2
  have hF : ∀ c, c ≠ 203 → z c = z c := fun _ _ => rfl
  have r_a1 := r_a.1; have r_a2 := r_a.2; have r_b1 := r_b.1; have r_b2 := r_b.2
  refine eg_al_n dX9_segment_0 rfl rfl ?_
  refine eg_iload_n dX9_segment_1 rfl ?_
  refine eg_Vf1 cs_X9_192 dX9_segment_2 (c_isSegment hN hv r_a) (by first | exact er202 | exact er203 | exact er204 | exact er205 | exact er206 | exact er207 | exact er208 | exact er209 | exact er210 | exact er211 | exact er212 | exact er213 | exact er214 | exact er215) rfl (Nat.le_of_ble_eq_true rfl) (by decide) ?_
  refine eg_bi_eq 20 dX9_segment_5 rfl (fun h5 => ?_) (fun h5 => ?_)
  · refine eg_iconst dX9_segment_20 ?_
    refine eg_ireturn dX9_segment_21 rfl rfl ?_
    refine ⟨congrArg (fun q => some (vI q)) ?_, rfl, z, rfl, (Fm.rf).1, hI.fm (Fm.rf) hN⟩
    unfold A_segment; (repeat (first | rw [if_pos (by first | assumption | omega)] | rw [if_neg (by first | assumption | omega)]))
  · refine eg_iload_n dX9_segment_8 rfl ?_
    refine eg_i2l dX9_segment_9 ⟨by omega, by omega⟩ ?_
    refine eg_lk0 dX9_segment_10 ?_
    refine eg_ldc2 kw_X9_233 dX9_segment_11 ?_
    refine eg_Sf3 cs_X9_81 dX9_segment_14 (c_in ⟨by omega, by omega⟩ ⟨by omega, by omega⟩ ⟨by omega, by omega⟩) (Nat.le_of_ble_eq_true rfl) (by decide) ?_
    refine eg_bi_ne 22 dX9_segment_17 rfl (fun h17 => ?_) (fun h17 => ?_)
    · refine eg_al_n dX9_segment_22 rfl rfl ?_
      refine eg_Vpv0 cs_X9_302 dX9_segment_23 (c_schedules hN hv hO.1.2.1) (by first | exact er202 | exact er203 | exact er204 | exact er205 | exact er206 | exact er207 | exact er208 | exact er209 | exact er210 | exact er211 | exact er212 | exact er213 | exact er214 | exact er215) rfl (Nat.le_of_ble_eq_true rfl) (by decide) ?_
      rintro y1 ⟨f1, j1, p1⟩
      have hN1 : nw y1 s.1 := nw_c (f1 203 (by omega)) hN
      have fm1 : Fm z y1 := Fm.of (fun c hc => f1 c (by omega))
      refine eg_iload_n dX9_segment_26 rfl ?_
      refine eg_iconst dX9_segment_27 ?_
      refine eg_icmp_ge 40 dX9_segment_28 ⟨by omega, by omega⟩ ⟨by omega, by omega⟩ rfl (fun h28 => ?_) (fun h28 => ?_)
      · refine eg_iload_n dX9_segment_40 rfl ?_
        refine eg_iconst dX9_segment_41 ?_
        refine eg_icmp_ne 57 dX9_segment_42 ⟨by omega, by omega⟩ ⟨by omega, by omega⟩ rfl (fun h42 => ?_) (fun h42 => ?_)
        · refine eg_al_n dX9_segment_57 rfl rfl ?_
          refine eg_get fl_X9_33 dX9_segment_58 (by first | exact er202 | exact er203 | exact er204 | exact er205 | exact er206 | exact er207 | exact er208 | exact er209 | exact er210 | exact er211 | exact er212 | exact er213 | exact er214 | exact er215) rfl ?_
          refine eg_bipush dX9_segment_61 (by decide) ?_
          refine eg_iload_n dX9_segment_63 rfl ?_
          refine eg_iadd dX9_segment_64 ?_
          refine eg_iald dX9_segment_65 (by first | exact er202 | exact er203 | exact er204 | exact er205 | exact er206 | exact er207 | exact er208 | exact er209 | exact er210 | exact er211 | exact er212 | exact er213 | exact er214 | exact er215) (by omega) (by omega) (by decide) ?_
          refine eg_eqI (y := LL s.1 10 (17 + a)) (by rw [j1.1 _ (Or.inr (Or.inr (Or.inl ⟨by omega, by omega, by omega⟩))), stM_sg ⟨by omega, by omega⟩]) ?_
          refine eg_ireturn dX9_segment_66 rfl rfl ?_
          refine ⟨congrArg (fun q => some (vI q)) ?_, rfl, y1, rfl, (fm1).1, hI.fm (fm1) hN1⟩
          unfold A_segment; (repeat (first | rw [if_pos (by first | assumption | omega)] | rw [if_neg (by first | assumption | omega)]))
        · refine eg_al_n dX9_segment_45 rfl rfl ?_
          refine eg_get fl_X9_33 dX9_segment_46 (by first | exact er202 | exact er203 | exact er204 | exact er205 | exact er206 | exact er207 | exact er208 | exact er209 | exact er210 | exact er211 | exact er212 | exact er213 | exact er214 | exact er215) rfl ?_
          refine eg_bipush dX9_segment_49 (by decide) ?_
          refine eg_iload_n dX9_segment_51 rfl ?_
          refine eg_iadd dX9_segment_52 ?_
          refine eg_iald dX9_segment_53 (by first | exact er202 | exact er203 | exact er204 | exact er205 | exact er206 | exact er207 | exact er208 | exact er209 | exact er210 | exact er211 | exact er212 | exact er213 | exact er214 | exact er215) (by omega) (by omega) (by decide) ?_
          refine eg_eqI (y := LL s.1 10 (10 + a)) (by rw [j1.1 _ (Or.inr (Or.inl ⟨by omega, by omega, by omega⟩)), stM_sg ⟨by omega, by omega⟩]) ?_
          refine eg_goto 66 dX9_segment_54 rfl ?_
          refine eg_ireturn dX9_segment_66 rfl rfl ?_
          refine ⟨congrArg (fun q => some (vI q)) ?_, rfl, y1, rfl, (fm1).1, hI.fm (fm1) hN1⟩
          unfold A_segment; (repeat (first | rw [if_pos (by first | assumption | omega)] | rw [if_neg (by first | assumption | omega)]))
      · refine eg_al_n dX9_segment_31 rfl rfl ?_
        refine eg_iload_n dX9_segment_32 rfl ?_
        refine eg_iload_n dX9_segment_33 rfl ?_
        refine eg_Vf2 cs_X9_256 dX9_segment_34 (c_seg hN1 (by omega) (by omega) (by omega) (by omega)) (by first | exact er202 | exact er203 | exact er204 | exact er205 | exact er206 | exact er207 | exact er208 | exact er209 | exact er210 | exact er211 | exact er212 | exact er213 | exact er214 | exact er215) rfl (Nat.le_of_ble_eq_true rfl) (by decide) ?_
        refine eg_goto 66 dX9_segment_37 rfl ?_
        refine eg_ireturn dX9_segment_66 rfl rfl ?_
        refine ⟨congrArg (fun q => some (vI q)) ?_, rfl, y1, rfl, (fm1).1, hI.fm (fm1) hN1⟩
        unfold A_segment; (repeat (first | rw [if_pos (by first | assumption | omega)] | rw [if_neg (by first | assumption | omega)]))
    · refine eg_iconst dX9_segment_20 ?_
      refine eg_ireturn dX9_segment_21 rfl rfl ?_
      refine ⟨congrArg (fun q => some (vI q)) ?_, rfl, z, rfl, (Fm.rf).1, hI.fm (Fm.rf) hN⟩
      unfold A_segment; (repeat (first | rw [if_pos (by first | assumption | omega)] | rw [if_neg (by first | assumption | omega)]))
theorem m_shipper {k : eg_K} {z : eg_Z} {X : eg_M} {n : Nat} {s : eg_S} (hI : IM z s) (hO : OS s) {a b : Int} (r_a : iR a) (r_b : iR b) : eg_P k gX9_shipper 2 0 0 [vR k 202, vI a, vI b] n (enc k z X) (eg_p k (some (vL (A_shipper s.1 a b))) n X (fun z' => FM z z' ∧ IM z' s)) := by
  refine eg_P.of (by decide) (Nat.le_of_ble_eq_true rfl) ?_
  show eg_E k gX9_shipper 2 0 0 n (enc k z X) [vR k 202, vI a, vI b] [] 0 _
  have hN := hI.1
  have hv := hO.1.1
  have q := hv.r.2
  have hF : ∀ c, c ≠ 203 → z c = z c := fun _ _ => rfl
  have r_a1 := r_a.1; have r_a2 := r_a.2; have r_b1 := r_b.1; have r_b2 := r_b.2
  refine eg_al_n dX9_shipper_0 rfl rfl ?_
  refine eg_iload_n dX9_shipper_1 rfl ?_
  refine eg_Vf1 cs_X9_199 dX9_shipper_2 (c_isShipper hN hv r_a) (by first | exact er202 | exact er203 | exact er204 | exact er205 | exact er206 | exact er207 | exact er208 | exact er209 | exact er210 | exact er211 | exact er212 | exact er213 | exact er214 | exact er215) rfl (Nat.le_of_ble_eq_true rfl) (by decide) ?_
  refine eg_bi_eq 29 dX9_shipper_5 rfl (fun h5 => ?_) (fun h5 => ?_)
  · refine eg_ldc2 kw_X9_336 dX9_shipper_29 ?_
    refine eg_lreturn dX9_shipper_32 rfl ?_
    refine ⟨congrArg (fun q => some (vL q)) ?_, rfl, z, rfl, (Fm.rf).1, hI.fm (Fm.rf) hN⟩
    unfold A_shipper; (repeat (first | rw [if_pos (by first | assumption | omega)] | rw [if_neg (by first | assumption | omega)]))
  · refine eg_iload_n dX9_shipper_8 rfl ?_
    refine eg_i2l dX9_shipper_9 ⟨by omega, by omega⟩ ?_
    refine eg_lk0 dX9_shipper_10 ?_
    refine eg_ldc2 kw_X9_338 dX9_shipper_11 ?_
    refine eg_Sf3 cs_X9_81 dX9_shipper_14 (c_in ⟨by omega, by omega⟩ ⟨by omega, by omega⟩ ⟨by omega, by omega⟩) (Nat.le_of_ble_eq_true rfl) (by decide) ?_
    refine eg_bi_eq 29 dX9_shipper_17 rfl (fun h17 => ?_) (fun h17 => ?_)
    · refine eg_ldc2 kw_X9_336 dX9_shipper_29 ?_
      refine eg_lreturn dX9_shipper_32 rfl ?_
      refine ⟨congrArg (fun q => some (vL q)) ?_, rfl, z, rfl, (Fm.rf).1, hI.fm (Fm.rf) hN⟩
      unfold A_shipper; (repeat (first | rw [if_pos (by first | assumption | omega)] | rw [if_neg (by first | assumption | omega)]))
    · refine eg_al_n dX9_shipper_20 rfl rfl ?_
      refine eg_iload_n dX9_shipper_21 rfl ?_
      refine eg_iload_n dX9_shipper_22 rfl ?_
      refine eg_Vf2 cs_X9_237 dX9_shipper_23 (c_ship hN (by omega) (by omega) (by omega) (by omega)) (by first | exact er202 | exact er203 | exact er204 | exact er205 | exact er206 | exact er207 | exact er208 | exact er209 | exact er210 | exact er211 | exact er212 | exact er213 | exact er214 | exact er215) rfl (Nat.le_of_ble_eq_true rfl) (by decide) ?_
      refine eg_goto 32 dX9_shipper_26 rfl ?_
      refine eg_lreturn dX9_shipper_32 rfl ?_
      refine ⟨congrArg (fun q => some (vL q)) ?_, rfl, z, rfl, (Fm.rf).1, hI.fm (Fm.rf) hN⟩
      unfold A_shipper; (repeat (first | rw [if_pos (by first | assumption | omega)] | rw [if_neg (by first | assumption | omega)]))
theorem m_nomination {k : eg_K} {z : eg_Z} {X : eg_M} {n : Nat} {s : eg_S} (hI : IM z s) (hO : OS s) {a b : Int} (r_a : iR a) (r_b : iR b) : eg_P k gX9_nomination 2 0 0 [vR k 202, vI a, vI b] n (enc k z X) (eg_p k (some (vI (A_nomination s.1 a b))) n X (fun z' => FM z z' ∧ IM z' s)) := by
  refine eg_P.of (by decide) (Nat.le_of_ble_eq_true rfl) ?_
  show eg_E k gX9_nomination 2 0 0 n (enc k z X) [vR k 202, vI a, vI b] [] 0 _
  have hN := hI.1
  have hv := hO.1.1
  have q := hv.r.2
  have hF : ∀ c, c ≠ 203 → z c = z c := fun _ _ => rfl
  have r_a1 := r_a.1; have r_a2 := r_a.2; have r_b1 := r_b.1; have r_b2 := r_b.2
  refine eg_al_n dX9_nomination_0 rfl rfl ?_
  refine eg_iload_n dX9_nomination_1 rfl ?_
  refine eg_Vf1 cs_X9_213 dX9_nomination_2 (c_isNom hN hv r_a) (by first | exact er202 | exact er203 | exact er204 | exact er205 | exact er206 | exact er207 | exact er208 | exact er209 | exact er210 | exact er211 | exact er212 | exact er213 | exact er214 | exact er215) rfl (Nat.le_of_ble_eq_true rfl) (by decide) ?_
  refine eg_bi_eq 29 dX9_nomination_5 rfl (fun h5 => ?_) (fun h5 => ?_)
  · refine eg_bipush dX9_nomination_29 (by decide) ?_
    refine eg_ireturn dX9_nomination_31 rfl rfl ?_
    refine ⟨congrArg (fun q => some (vI q)) ?_, rfl, z, rfl, (Fm.rf).1, hI.fm (Fm.rf) hN⟩
    unfold A_nomination; (repeat (first | rw [if_pos (by first | assumption | omega)] | rw [if_neg (by first | assumption | omega)]))
  · refine eg_iload_n dX9_nomination_8 rfl ?_
    refine eg_i2l dX9_nomination_9 ⟨by omega, by omega⟩ ?_
    refine eg_lk0 dX9_nomination_10 ?_
    refine eg_ldc2 kw_X9_233 dX9_nomination_11 ?_
    refine eg_Sf3 cs_X9_81 dX9_nomination_14 (c_in ⟨by omega, by omega⟩ ⟨by omega, by omega⟩ ⟨by omega, by omega⟩) (Nat.le_of_ble_eq_true rfl) (by decide) ?_
    refine eg_bi_eq 29 dX9_nomination_17 rfl (fun h17 => ?_) (fun h17 => ?_)
    · refine eg_bipush dX9_nomination_29 (by decide) ?_
      refine eg_ireturn dX9_nomination_31 rfl rfl ?_
      refine ⟨congrArg (fun q => some (vI q)) ?_, rfl, z, rfl, (Fm.rf).1, hI.fm (Fm.rf) hN⟩
      unfold A_nomination; (repeat (first | rw [if_pos (by first | assumption | omega)] | rw [if_neg (by first | assumption | omega)]))
    · refine eg_al_n dX9_nomination_20 rfl rfl ?_
      refine eg_iload_n dX9_nomination_21 rfl ?_
      refine eg_iload_n dX9_nomination_22 rfl ?_
      refine eg_Vf2 cs_X9_259 dX9_nomination_23 (c_nom hN (by omega) (by omega) (by omega) (by omega)) (by first | exact er202 | exact er203 | exact er204 | exact er205 | exact er206 | exact er207 | exact er208 | exact er209 | exact er210 | exact er211 | exact er212 | exact er213 | exact er214 | exact er215) rfl (Nat.le_of_ble_eq_true rfl) (by decide) ?_
      refine eg_goto 31 dX9_nomination_26 rfl ?_
      refine eg_ireturn dX9_nomination_31 rfl rfl ?_
      refine ⟨congrArg (fun q => some (vI q)) ?_, rfl, z, rfl, (Fm.rf).1, hI.fm (Fm.rf) hN⟩
      unfold A_nomination; (repeat (first | rw [if_pos (by first | assumption | omega)] | rw [if_neg (by first | assumption | omega)]))
theorem m_plan {k : eg_K} {z : eg_Z} {X : eg_M} {n : Nat} {s : eg_S} (hI : IM z s) (hO : OS s) {a b : Int} (r_a : iR a) (r_b : iR b) : eg_P k gX9_plan 6 0 0 [vR k 202, vI a, vI b] n (enc k z X) (eg_p k (some (vI (A_plan s.1 a b))) n X (fun z' => FM z z' ∧ IM z' s)) := by
  refine eg_P.of (by decide) (Nat.le_of_ble_eq_true rfl) ?_
  show eg_E k gX9_plan 6 0 0 n (enc k z X) [vR k 202, vI a, vI b] [] 0 _
  have hN := hI.1
  have hv := hO.1.1
  have q := hv.r.2
  have hF : ∀ c, c ≠ 203 → z c = z c := fun _ _ => rfl
  have r_a1 := r_a.1; have r_a2 := r_a.2; have r_b1 := r_b.1; have r_b2 := r_b.2
  refine eg_al_n dX9_plan_0 rfl rfl ?_
  refine eg_iload_n dX9_plan_1 rfl ?_
  refine eg_Vf1 cs_X9_213 dX9_plan_2 (c_isNom hN hv r_a) (by first | exact er202 | exact er203 | exact er204 | exact er205 | exact er206 | exact er207 | exact er208 | exact er209 | exact er210 | exact er211 | exact er212 | exact er213 | exact er214 | exact er215) rfl (Nat.le_of_ble_eq_true rfl) (by decide) ?_
  refine eg_bi_ne 10 dX9_plan_5 rfl (fun h5 => ?_) (fun h5 => ?_)
  · refine eg_al_n dX9_plan_10 rfl rfl ?_
    refine eg_Vpv0 cs_X9_302 dX9_plan_11 (c_schedules hN hv hO.1.2.1) (by first | exact er202 | exact er203 | exact er204 | exact er205 | exact er206 | exact er207 | exact er208 | exact er209 | exact er210 | exact er211 | exact er212 | exact er213 | exact er214 | exact er215) rfl (Nat.le_of_ble_eq_true rfl) (by decide) ?_
    rintro y1 ⟨f1, j1, p1⟩
    have hN1 : nw y1 s.1 := nw_c (f1 203 (by omega)) hN
    have fm1 : Fm z y1 := Fm.of (fun c hc => f1 c (by omega))
    refine eg_iload_n dX9_plan_14 rfl ?_
    by_cases t15_48 : b = 0
    · refine eg_tbI 48 dX9_plan_15 ⟨by omega, by omega⟩ (by omega) (by omega) (by rw [t15_48]; rfl) rfl ?_
      refine eg_al_n dX9_plan_48 rfl rfl ?_
      refine eg_get fl_X9_43 dX9_plan_49 (by first | exact er202 | exact er203 | exact er204 | exact er205 | exact er206 | exact er207 | exact er208 | exact er209 | exact er210 | exact er211 | exact er212 | exact er213 | exact er214 | exact er215) rfl ?_
      refine eg_iload_n dX9_plan_52 rfl ?_
      refine eg_iald dX9_plan_53 (by first | exact er202 | exact er203 | exact er204 | exact er205 | exact er206 | exact er207 | exact er208 | exact er209 | exact er210 | exact er211 | exact er212 | exact er213 | exact er214 | exact er215) (by omega) (by omega) (by decide) ?_
      refine eg_eqI ((j1.2 a (by omega) (by omega)).1) ?_
      refine eg_ireturn dX9_plan_54 rfl rfl ?_
      refine ⟨congrArg (fun q => some (vI q)) ?_, rfl, y1, rfl, (fm1).1, hI.fm (fm1) hN1⟩
      unfold A_plan; (repeat (first | rw [if_pos (by first | assumption | omega)] | rw [if_neg (by first | assumption | omega)]))
    by_cases t15_55 : b = 1
    · refine eg_tbI 55 dX9_plan_15 ⟨by omega, by omega⟩ (by omega) (by omega) (by rw [t15_55]; rfl) rfl ?_
      refine eg_al_n dX9_plan_55 rfl rfl ?_
      refine eg_get fl_X9_40 dX9_plan_56 (by first | exact er202 | exact er203 | exact er204 | exact er205 | exact er206 | exact er207 | exact er208 | exact er209 | exact er210 | exact er211 | exact er212 | exact er213 | exact er214 | exact er215) rfl ?_
      refine eg_iload_n dX9_plan_59 rfl ?_
      refine eg_iald dX9_plan_60 (by first | exact er202 | exact er203 | exact er204 | exact er205 | exact er206 | exact er207 | exact er208 | exact er209 | exact er210 | exact er211 | exact er212 | exact er213 | exact er214 | exact er215) (by omega) (by omega) (by decide) ?_
      refine eg_eqI (p1 a (by omega) (by omega)) ?_
      refine eg_ireturn dX9_plan_61 rfl rfl ?_
      refine ⟨congrArg (fun q => some (vI q)) ?_, rfl, y1, rfl, (fm1).1, hI.fm (fm1) hN1⟩
      unfold A_plan; (repeat (first | rw [if_pos (by first | assumption | omega)] | rw [if_neg (by first | assumption | omega)]))
    by_cases t15_62 : b = 2
    · refine eg_tbI 62 dX9_plan_15 ⟨by omega, by omega⟩ (by omega) (by omega) (by rw [t15_62]; rfl) rfl ?_
      refine eg_al_n dX9_plan_62 rfl rfl ?_
      refine eg_iload_n dX9_plan_63 rfl ?_
      refine eg_Vf1 cs_X9_299 dX9_plan_64 (c_delivered hN1 hv (by omega) (by omega) ((j1.2 a (by omega) (by omega)).1) (okpS hv hO.1.2.1 a (by omega) (by omega))) (by first | exact er202 | exact er203 | exact er204 | exact er205 | exact er206 | exact er207 | exact er208 | exact er209 | exact er210 | exact er211 | exact er212 | exact er213 | exact er214 | exact er215) rfl (Nat.le_of_ble_eq_true rfl) (by decide) ?_
      refine eg_ireturn dX9_plan_67 rfl rfl ?_
      refine ⟨congrArg (fun q => some (vI q)) ?_, rfl, y1, rfl, (fm1).1, hI.fm (fm1) hN1⟩
      unfold A_plan; (repeat (first | rw [if_pos (by first | assumption | omega)] | rw [if_neg (by first | assumption | omega)]))
    by_cases t15_68 : b = 3
    · refine eg_tbI 68 dX9_plan_15 ⟨by omega, by omega⟩ (by omega) (by omega) (by rw [t15_68]; rfl) rfl ?_
      refine eg_al_n dX9_plan_68 rfl rfl ?_
      refine eg_get fl_X9_43 dX9_plan_69 (by first | exact er202 | exact er203 | exact er204 | exact er205 | exact er206 | exact er207 | exact er208 | exact er209 | exact er210 | exact er211 | exact er212 | exact er213 | exact er214 | exact er215) rfl ?_
      refine eg_iload_n dX9_plan_72 rfl ?_
      refine eg_iald dX9_plan_73 (by first | exact er202 | exact er203 | exact er204 | exact er205 | exact er206 | exact er207 | exact er208 | exact er209 | exact er210 | exact er211 | exact er212 | exact er213 | exact er214 | exact er215) (by omega) (by omega) (by decide) ?_
      refine eg_eqI ((j1.2 a (by omega) (by omega)).1) ?_
      refine eg_al_n dX9_plan_74 rfl rfl ?_
      refine eg_iload_n dX9_plan_75 rfl ?_
      refine eg_Vf1 cs_X9_299 dX9_plan_76 (c_delivered hN1 hv (by omega) (by omega) ((j1.2 a (by omega) (by omega)).1) (okpS hv hO.1.2.1 a (by omega) (by omega))) (by first | exact er202 | exact er203 | exact er204 | exact er205 | exact er206 | exact er207 | exact er208 | exact er209 | exact er210 | exact er211 | exact er212 | exact er213 | exact er214 | exact er215) rfl (Nat.le_of_ble_eq_true rfl) (by decide) ?_
      refine eg_isub dX9_plan_79 ?_
      refine eg_ireturn dX9_plan_80 rfl rfl ?_
      refine ⟨congrArg (fun q => some (vI q)) ?_, rfl, y1, rfl, (fm1).1, hI.fm (fm1) hN1⟩
      unfold A_plan; (repeat (first | rw [if_pos (by first | assumption | omega)] | rw [if_neg (by first | assumption | omega)]))
    by_cases t15_81 : b = 4
    · refine eg_tbI 81 dX9_plan_15 ⟨by omega, by omega⟩ (by omega) (by omega) (by rw [t15_81]; rfl) rfl ?_
      refine eg_al_n dX9_plan_81 rfl rfl ?_
      refine eg_iload_n dX9_plan_82 rfl ?_
      refine eg_iconst dX9_plan_83 ?_
      refine eg_Vf2 cs_X9_259 dX9_plan_84 (c_nom hN1 (by omega) (by omega) (by omega) (by omega)) (by first | exact er202 | exact er203 | exact er204 | exact er205 | exact er206 | exact er207 | exact er208 | exact er209 | exact er210 | exact er211 | exact er212 | exact er213 | exact er214 | exact er215) rfl (Nat.le_of_ble_eq_true rfl) (by decide) ?_
      refine eg_al_n dX9_plan_87 rfl rfl ?_
      refine eg_get fl_X9_43 dX9_plan_88 (by first | exact er202 | exact er203 | exact er204 | exact er205 | exact er206 | exact er207 | exact er208 | exact er209 | exact er210 | exact er211 | exact er212 | exact er213 | exact er214 | exact er215) rfl ?_
      refine eg_iload_n dX9_plan_91 rfl ?_
      refine eg_iald dX9_plan_92 (by first | exact er202 | exact er203 | exact er204 | exact er205 | exact er206 | exact er207 | exact er208 | exact er209 | exact er210 | exact er211 | exact er212 | exact er213 | exact er214 | exact er215) (by omega) (by omega) (by decide) ?_
      refine eg_eqI ((j1.2 a (by omega) (by omega)).1) ?_
      refine eg_isub dX9_plan_93 ?_
      refine eg_ireturn dX9_plan_94 rfl rfl ?_
      refine ⟨congrArg (fun q => some (vI q)) ?_, rfl, y1, rfl, (fm1).1, hI.fm (fm1) hN1⟩
      unfold A_plan; (repeat (first | rw [if_pos (by first | assumption | omega)] | rw [if_neg (by first | assumption | omega)]))
    refine eg_tbO 95 dX9_plan_15 ⟨by omega, by omega⟩ (by omega) rfl ?_
    refine eg_iconst dX9_plan_95 ?_
    refine eg_ireturn dX9_plan_96 rfl rfl ?_
    refine ⟨congrArg (fun q => some (vI q)) ?_, rfl, y1, rfl, (fm1).1, hI.fm (fm1) hN1⟩
    unfold A_plan; (repeat (first | rw [if_pos (by first | assumption | omega)] | rw [if_neg (by first | assumption | omega)]))
  · refine eg_iconst dX9_plan_8 ?_
    refine eg_ireturn dX9_plan_9 rfl rfl ?_
    refine ⟨congrArg (fun q => some (vI q)) ?_, rfl, z, rfl, (Fm.rf).1, hI.fm (Fm.rf) hN⟩
    unfold A_plan; (repeat (first | rw [if_pos (by first | assumption | omega)] | rw [if_neg (by first | assumption | omega)]))
theorem m_cause {k : eg_K} {z : eg_Z} {X : eg_M} {n : Nat} {s : eg_S} (hI : IM z s) (hO : OS s) {a : Int} (r_a : iR a) : eg_P k gX9_cause 6 0 0 [vR k 202, vI a] n (enc k z X) (eg_p k (some (vI (A_cause s.1 a))) n X (fun z' => FM z z' ∧ IM z' s)) := by
  refine eg_P.of (by decide) (Nat.le_of_ble_eq_true rfl) ?_
  show eg_E k gX9_cause 6 0 0 n (enc k z X) [vR k 202, vI a] [] 0 _
  have hN := hI.1
  have hv := hO.1.1
  have q := hv.r.2
  have hF : ∀ c, c ≠ 203 → z c = z c := fun _ _ => rfl
  have r_a1 := r_a.1; have r_a2 := r_a.2
  refine eg_al_n dX9_cause_0 rfl rfl ?_
  refine eg_iload_n dX9_cause_1 rfl ?_
  refine eg_Vf1 cs_X9_213 dX9_cause_2 (c_isNom hN hv r_a) (by first | exact er202 | exact er203 | exact er204 | exact er205 | exact er206 | exact er207 | exact er208 | exact er209 | exact er210 | exact er211 | exact er212 | exact er213 | exact er214 | exact er215) rfl (Nat.le_of_ble_eq_true rfl) (by decide) ?_
  refine eg_bi_ne 10 dX9_cause_5 rfl (fun h5 => ?_) (fun h5 => ?_)
  · refine eg_al_n dX9_cause_10 rfl rfl ?_
    refine eg_Vpv0 cs_X9_302 dX9_cause_11 (c_schedules hN hv hO.1.2.1) (by first | exact er202 | exact er203 | exact er204 | exact er205 | exact er206 | exact er207 | exact er208 | exact er209 | exact er210 | exact er211 | exact er212 | exact er213 | exact er214 | exact er215) rfl (Nat.le_of_ble_eq_true rfl) (by decide) ?_
    rintro y1 ⟨f1, j1, p1⟩
    have hN1 : nw y1 s.1 := nw_c (f1 203 (by omega)) hN
    have fm1 : Fm z y1 := Fm.of (fun c hc => f1 c (by omega))
    refine eg_al_n dX9_cause_14 rfl rfl ?_
    refine eg_get fl_X9_46 dX9_cause_15 (by first | exact er202 | exact er203 | exact er204 | exact er205 | exact er206 | exact er207 | exact er208 | exact er209 | exact er210 | exact er211 | exact er212 | exact er213 | exact er214 | exact er215) rfl ?_
    refine eg_iload_n dX9_cause_18 rfl ?_
    refine eg_iald dX9_cause_19 (by first | exact er202 | exact er203 | exact er204 | exact er205 | exact er206 | exact er207 | exact er208 | exact er209 | exact er210 | exact er211 | exact er212 | exact er213 | exact er214 | exact er215) (by omega) (by omega) (by decide) ?_
    refine eg_ireturn dX9_cause_20 rfl rfl ?_
    rw [(j1.2 a (by omega) (by omega)).2]
    refine ⟨congrArg (fun q => some (vI q)) ?_, rfl, y1, rfl, (fm1).1, hI.fm (fm1) hN1⟩
    unfold A_cause; (repeat (first | rw [if_pos (by first | assumption | omega)] | rw [if_neg (by first | assumption | omega)]))
  · refine eg_iconst dX9_cause_8 ?_
    refine eg_ireturn dX9_cause_9 rfl rfl ?_
    refine ⟨congrArg (fun q => some (vI q)) ?_, rfl, z, rfl, (Fm.rf).1, hI.fm (Fm.rf) hN⟩
    unfold A_cause; (repeat (first | rw [if_pos (by first | assumption | omega)] | rw [if_neg (by first | assumption | omega)]))
theorem c_isStop {k : eg_K} {z : eg_Z} {X : eg_M} {n : Nat} {v : eg_v} (hN : nw z v) {B : Int} (hv : VV B v) {m : Int} (hm : 0 ≤ m ∧ m < 24) : eg_P k gX9_isStop 2 0 0 [vR k 202, vI m] n (enc k z X) (eg_f (some (vI (bi ((m < 10 ∧ m < v 1) ∨ (10 ≤ m ∧ m < 17 ∧ m - 10 < segs v) ∨ (17 ≤ m ∧ m < 24 ∧ m - 17 < segs v))))) n (enc k z X)) := by
  refine eg_P.of (by decide) (Nat.le_of_ble_eq_true rfl) ?_
  show eg_E k gX9_isStop 2 0 0 n (enc k z X) [vR k 202, vI m] [] 0 _
  have q := hv.r.2
  refine eg_iload_n dX9_isStop_0 rfl ?_
  refine eg_bipush dX9_isStop_1 (by decide) ?_
  refine eg_icmp_ge 14 dX9_isStop_3 ⟨by omega, by omega⟩ ⟨by omega, by omega⟩ rfl (fun h3 => ?_) (fun h3 => ?_)
  · refine eg_al_n dX9_isStop_14 rfl rfl ?_
    refine eg_iload_n dX9_isStop_15 rfl ?_
    refine eg_bipush dX9_isStop_16 (by decide) ?_
    refine eg_icmp_ge 28 dX9_isStop_18 ⟨by omega, by omega⟩ ⟨by omega, by omega⟩ rfl (fun h18 => ?_) (fun h18 => ?_)
    · refine eg_iload_n dX9_isStop_28 rfl ?_
      refine eg_bipush dX9_isStop_29 (by decide) ?_
      refine eg_isub dX9_isStop_31 ?_
      refine eg_Vf1 cs_X9_192 dX9_isStop_32 (c_isSegment hN hv ⟨by omega, by omega⟩) (by first | exact er202 | exact er203 | exact er204 | exact er205 | exact er206 | exact er207 | exact er208 | exact er209 | exact er210 | exact er211 | exact er212 | exact er213 | exact er214 | exact er215) rfl (Nat.le_of_ble_eq_true rfl) (by decide) ?_
      refine eg_ireturn dX9_isStop_35 rfl (by first | rfl | exact bi_nar _ | (unfold bi; split <;> rfl)) ?_
      exact ⟨congrArg (fun q => some (vI q)) (bi_c (by omega)), rfl, rfl⟩
    · refine eg_iload_n dX9_isStop_21 rfl ?_
      refine eg_bipush dX9_isStop_22 (by decide) ?_
      refine eg_isub dX9_isStop_24 ?_
      refine eg_goto 32 dX9_isStop_25 rfl ?_
      refine eg_Vf1 cs_X9_192 dX9_isStop_32 (c_isSegment hN hv ⟨by omega, by omega⟩) (by first | exact er202 | exact er203 | exact er204 | exact er205 | exact er206 | exact er207 | exact er208 | exact er209 | exact er210 | exact er211 | exact er212 | exact er213 | exact er214 | exact er215) rfl (Nat.le_of_ble_eq_true rfl) (by decide) ?_
      refine eg_ireturn dX9_isStop_35 rfl (by first | rfl | exact bi_nar _ | (unfold bi; split <;> rfl)) ?_
      exact ⟨congrArg (fun q => some (vI q)) (bi_c (by omega)), rfl, rfl⟩
  · refine eg_al_n dX9_isStop_6 rfl rfl ?_
    refine eg_iload_n dX9_isStop_7 rfl ?_
    refine eg_Vf1 cs_X9_185 dX9_isStop_8 (c_isPoint hN hv ⟨by omega, by omega⟩) (by first | exact er202 | exact er203 | exact er204 | exact er205 | exact er206 | exact er207 | exact er208 | exact er209 | exact er210 | exact er211 | exact er212 | exact er213 | exact er214 | exact er215) rfl (Nat.le_of_ble_eq_true rfl) (by decide) ?_
    refine eg_goto 35 dX9_isStop_11 rfl ?_
    refine eg_ireturn dX9_isStop_35 rfl (by first | rfl | exact bi_nar _ | (unfold bi; split <;> rfl)) ?_
    exact ⟨congrArg (fun q => some (vI q)) (bi_c (by omega)), rfl, rfl⟩
theorem m_tight {k : eg_K} {z : eg_Z} {X : eg_M} {n : Nat} {s : eg_S} (hI : IM z s) (hO : OS s) {a : Int} (r_a : iR a) : eg_P k gX9_tight 6 0 0 [vR k 202, vI a] n (enc k z X) (eg_p k (some (vI (A_tight s.1 a))) n X (fun z' => FM z z' ∧ IM z' s)) := by
  refine eg_P.of (by decide) (Nat.le_of_ble_eq_true rfl) ?_
  show eg_E k gX9_tight 6 0 0 n (enc k z X) [vR k 202, vI a, vU, vU] [] 0 _
  have hN := hI.1
  have hv := hO.1.1
  have q := hv.r.2
  have hF : ∀ c, c ≠ 203 → z c = z c := fun _ _ => rfl
  have r_a1 := r_a.1; have r_a2 := r_a.2
  have J : 0 < s.1 0 → -1 ≤ a → ∀ y1 : eg_Z, MJ s.1 10 y1 → nw y1 s.1 → Fm z y1 → eg_E k gX9_tight 6 0 0 n (enc k y1 X) [vR k 202, vI a, vI 0, vI 0] [] 22 (eg_p k (some (vI (A_tight s.1 a))) n X (fun z' => FM z z' ∧ IM z' s)) := by
    intro ht ha y1 j1 hN1 fm1
    have LLb : ∀ i : Int, 0 ≤ i → i < 24 → 0 ≤ LL s.1 10 (stQ s.1 i) ∧ LL s.1 10 (stQ s.1 i) ≤ 19998 := fun i a b => by
      have sb : 0 ≤ stQ s.1 i ∧ stQ s.1 i < 46 := by unfold stQ; split <;> (try split) <;> omega
      have := LL_b hv hO.1.2.1 10 (stQ s.1 i).toNat (by omega)
      rw [show (((stQ s.1 i).toNat : Nat) : Int) = stQ s.1 i by omega] at this
      exact this
    have L1 : ∀ (mm : Nat) (i : Int) (f : Int), (0 ≤ i) → (i ≤ 24) → (0 ≤ f) → (f ≤ i) → (tiN (tq s.1 (LL s.1 10)) a (24 - i).toNat i f = tiN (tq s.1 (LL s.1 10)) a 24 0 0) → 24 - i < (mm : Int) → eg_E k gX9_tight 6 0 0 n (enc k y1 X) [vR k 202, vI a, vI f, vI i] [] 22 (eg_p k (some (vI (A_tight s.1 a))) n X (fun z' => FM z z' ∧ IM z' s)) := by
      intro mm
      induction mm with
      | zero => intro i f h0 h1 f0 f1_ hT hmm; exfalso; omega
      | succ mm ih =>
        intro i f h0 h1 f0 f1_ hT hmm
        refine eg_iload_n dX9_tight_22 rfl ?_
        refine eg_bipush dX9_tight_23 (by decide) ?_
        refine eg_icmp_ge 101 dX9_tight_25 ⟨by omega, by omega⟩ ⟨by omega, by omega⟩ rfl (fun h25 => ?_) (fun h25 => ?_)
        · refine eg_iload_n dX9_tight_101 rfl ?_
          refine eg_iconst dX9_tight_102 ?_
          refine eg_icmp_ne 110 dX9_tight_103 ⟨by omega, by omega⟩ ⟨by omega, by omega⟩ rfl (fun h103 => ?_) (fun h103 => ?_)
          · refine eg_bipush dX9_tight_110 (by decide) ?_
            refine eg_ireturn dX9_tight_112 rfl rfl ?_
            refine ⟨congrArg (fun q => some (vI q)) ?_, rfl, y1, rfl, fm1.1, hI.fm fm1 hN1⟩
            unfold A_tight
            rw [if_pos (by omega), ← hT, show (24 - i).toNat = 0 by omega]
            show _ = (if a = -1 then f else -2)
            first | rw [if_pos (by omega)] | rw [if_neg (by omega)]
          · refine eg_iload_n dX9_tight_106 rfl ?_
            refine eg_goto 112 dX9_tight_107 rfl ?_
            refine eg_ireturn dX9_tight_112 rfl rfl ?_
            refine ⟨congrArg (fun q => some (vI q)) ?_, rfl, y1, rfl, fm1.1, hI.fm fm1 hN1⟩
            unfold A_tight
            rw [if_pos (by omega), ← hT, show (24 - i).toNat = 0 by omega]
            show _ = (if a = -1 then f else -2)
            first | rw [if_pos (by omega)] | rw [if_neg (by omega)]
        · have hi : i < 24 := by omega
          have e9 : (24 - i).toNat = (24 - (i + 1)).toNat + 1 := by omega
          refine eg_al_n dX9_tight_28 rfl rfl ?_
          refine eg_iload_n dX9_tight_29 rfl ?_
          refine eg_Vf1 cs_X9_340 dX9_tight_30 (c_isStop hN1 hv ⟨by omega, by omega⟩) (by first | exact er202 | exact er203 | exact er204 | exact er205 | exact er206 | exact er207 | exact er208 | exact er209 | exact er210 | exact er211 | exact er212 | exact er213 | exact er214 | exact er215) rfl (Nat.le_of_ble_eq_true rfl) (by decide) ?_
          refine eg_bi_eq 95 dX9_tight_33 rfl (fun h33 => ?_) (fun h33 => ?_)
          · refine eg_iinc dX9_tight_95 rfl rfl rfl ?_
            refine eg_goto 22 dX9_tight_98 rfl ?_
            refine ih (i + 1) f (by omega) (by omega) (by omega) (by omega) ?_ (by omega)
            rw [← hT, e9, ti_n (fun hh => h33 (tq_to hh).1)]
          · have hq : isQ s.1 i := h33
            have lb := LLb i h0 (by omega)
            refine eg_al_n dX9_tight_36 rfl rfl ?_
            refine eg_get fl_X9_33 dX9_tight_37 (by first | exact er202 | exact er203 | exact er204 | exact er205 | exact er206 | exact er207 | exact er208 | exact er209 | exact er210 | exact er211 | exact er212 | exact er213 | exact er214 | exact er215) rfl ?_
            refine eg_iload_n dX9_tight_40 rfl ?_
            refine eg_iald dX9_tight_41 (by first | exact er202 | exact er203 | exact er204 | exact er205 | exact er206 | exact er207 | exact er208 | exact er209 | exact er210 | exact er211 | exact er212 | exact er213 | exact er214 | exact er215) (by omega) (by omega) (by decide) ?_
            refine eg_eqI (y := LL s.1 10 (stQ s.1 i)) (by rw [j1.1 i (by unfold isQ at hq; unfold isM; omega), stM_lo hi]) ?_
            refine eg_if_le 48 dX9_tight_42 ⟨by omega, by omega⟩ rfl (fun h42 => ?_) (fun h42 => ?_)
            · refine eg_iload_n dX9_tight_48 rfl ?_
              refine eg_iload_n dX9_tight_49 rfl ?_
              refine eg_icmp_ne 92 dX9_tight_50 ⟨by omega, by omega⟩ ⟨by omega, by omega⟩ rfl (fun h50 => ?_) (fun h50 => ?_)
              · refine eg_iinc dX9_tight_92 rfl rfl rfl ?_
                refine eg_iinc dX9_tight_95 rfl rfl rfl ?_
                refine eg_goto 22 dX9_tight_98 rfl ?_
                refine ih (i + 1) (f + 1) (by omega) (by omega) (by omega) (by omega) ?_ (by omega)
                rw [← hT, e9, ti_y (tq_of ⟨hq, by omega⟩) (by omega)]
              · refine eg_iload_n dX9_tight_53 rfl ?_
                refine eg_bipush dX9_tight_54 (by decide) ?_
                refine eg_icmp_ge 66 dX9_tight_56 ⟨by omega, by omega⟩ ⟨by omega, by omega⟩ rfl (fun h56 => ?_) (fun h56 => ?_)
                · refine eg_iload_n dX9_tight_66 rfl ?_
                  refine eg_bipush dX9_tight_67 (by decide) ?_
                  refine eg_icmp_ge 83 dX9_tight_69 ⟨by omega, by omega⟩ ⟨by omega, by omega⟩ rfl (fun h69 => ?_) (fun h69 => ?_)
                  · refine eg_sipush dX9_tight_83 (by decide) ?_
                    refine eg_iload_n dX9_tight_86 rfl ?_
                    refine eg_iadd dX9_tight_87 ?_
                    refine eg_bipush dX9_tight_88 (by decide) ?_
                    refine eg_isub dX9_tight_90 ?_
                    refine eg_ireturn dX9_tight_91 rfl rfl ?_
                    refine ⟨congrArg (fun q => some (vI q)) ?_, rfl, y1, rfl, fm1.1, hI.fm fm1 hN1⟩
                    unfold A_tight
                    rw [if_pos (by omega), ← hT, e9, ti_e (tq_of ⟨hq, by omega⟩) (by omega)]
                    unfold cdT
                    first | rw [if_pos (by omega)] | rw [if_neg (by omega), if_pos (by omega)] | rw [if_neg (by omega), if_neg (by omega)]
                  · refine eg_sipush dX9_tight_72 (by decide) ?_
                    refine eg_iload_n dX9_tight_75 rfl ?_
                    refine eg_iadd dX9_tight_76 ?_
                    refine eg_bipush dX9_tight_77 (by decide) ?_
                    refine eg_isub dX9_tight_79 ?_
                    refine eg_goto 91 dX9_tight_80 rfl ?_
                    refine eg_ireturn dX9_tight_91 rfl rfl ?_
                    refine ⟨congrArg (fun q => some (vI q)) ?_, rfl, y1, rfl, fm1.1, hI.fm fm1 hN1⟩
                    unfold A_tight
                    rw [if_pos (by omega), ← hT, e9, ti_e (tq_of ⟨hq, by omega⟩) (by omega)]
                    unfold cdT
                    first | rw [if_pos (by omega)] | rw [if_neg (by omega), if_pos (by omega)] | rw [if_neg (by omega), if_neg (by omega)]
                · refine eg_bipush dX9_tight_59 (by decide) ?_
                  refine eg_iload_n dX9_tight_61 rfl ?_
                  refine eg_iadd dX9_tight_62 ?_
                  refine eg_goto 91 dX9_tight_63 rfl ?_
                  refine eg_ireturn dX9_tight_91 rfl rfl ?_
                  refine ⟨congrArg (fun q => some (vI q)) ?_, rfl, y1, rfl, fm1.1, hI.fm fm1 hN1⟩
                  unfold A_tight
                  rw [if_pos (by omega), ← hT, e9, ti_e (tq_of ⟨hq, by omega⟩) (by omega)]
                  unfold cdT
                  first | rw [if_pos (by omega)] | rw [if_neg (by omega), if_pos (by omega)] | rw [if_neg (by omega), if_neg (by omega)]
            · refine eg_goto 95 dX9_tight_45 rfl ?_
              refine eg_iinc dX9_tight_95 rfl rfl rfl ?_
              refine eg_goto 22 dX9_tight_98 rfl ?_
              refine ih (i + 1) f (by omega) (by omega) (by omega) (by omega) ?_ (by omega)
              rw [← hT, e9, ti_n (fun hh => by have := (tq_to hh).2; omega)]
    exact L1 25 0 0 (by omega) (by omega) (by omega) (by omega) rfl (by omega)
  refine eg_al_n dX9_tight_0 rfl rfl ?_
  refine eg_Vf0 cs_X9_315 dX9_tight_1 (c_hasPipe hN hv) (by first | exact er202 | exact er203 | exact er204 | exact er205 | exact er206 | exact er207 | exact er208 | exact er209 | exact er210 | exact er211 | exact er212 | exact er213 | exact er214 | exact er215) rfl (Nat.le_of_ble_eq_true rfl) (by decide) ?_
  refine eg_bi_eq 12 dX9_tight_4 rfl (fun h4 => ?_) (fun h4 => ?_)
  · refine eg_iconst dX9_tight_12 ?_
    refine eg_ireturn dX9_tight_13 rfl rfl ?_
    refine ⟨congrArg (fun q => some (vI q)) ?_, rfl, z, rfl, (Fm.rf).1, hI.fm (Fm.rf) hN⟩
    unfold A_tight; (repeat (first | rw [if_pos (by first | assumption | omega)] | rw [if_neg (by first | assumption | omega)]))
  · refine eg_iload_n dX9_tight_7 rfl ?_
    refine eg_iconst dX9_tight_8 ?_
    refine eg_icmp_ge 14 dX9_tight_9 ⟨by omega, by omega⟩ ⟨by omega, by omega⟩ rfl (fun h9 => ?_) (fun h9 => ?_)
    · refine eg_al_n dX9_tight_14 rfl rfl ?_
      refine eg_Vpv0 cs_X9_302 dX9_tight_15 (c_schedules hN hv hO.1.2.1) (by first | exact er202 | exact er203 | exact er204 | exact er205 | exact er206 | exact er207 | exact er208 | exact er209 | exact er210 | exact er211 | exact er212 | exact er213 | exact er214 | exact er215) rfl (Nat.le_of_ble_eq_true rfl) (by decide) ?_
      rintro y1 ⟨f1, j1, p1⟩
      have hN1 : nw y1 s.1 := nw_c (f1 203 (by omega)) hN
      have fm1 : Fm z y1 := Fm.of (fun c hc => f1 c (by omega))
      refine eg_iconst dX9_tight_18 ?_
      refine eg_istore_n dX9_tight_19 rfl rfl rfl ?_
      refine eg_iconst dX9_tight_20 ?_
      refine eg_istore_n dX9_tight_21 rfl rfl rfl ?_
      exact J (by omega) (by omega) y1 j1 hN1 fm1
    · refine eg_iconst dX9_tight_12 ?_
      refine eg_ireturn dX9_tight_13 rfl rfl ?_
      refine ⟨congrArg (fun q => some (vI q)) ?_, rfl, z, rfl, (Fm.rf).1, hI.fm (Fm.rf) hN⟩
      unfold A_tight; (repeat (first | rw [if_pos (by first | assumption | omega)] | rw [if_neg (by first | assumption | omega)]))
theorem m_flow {k : eg_K} {z : eg_Z} {X : eg_M} {n : Nat} {s : eg_S} (hI : IM z s) (hO : OS s) {a b : Int} (r_a : iR a) (r_b : iR b) : eg_P k gX9_flow 6 0 0 [vR k 202, vI a, vI b] n (enc k z X) (eg_p k (some (vI (A_flow s.1 a b))) n X (fun z' => FM z z' ∧ IM z' s)) := by
  refine eg_P.of (by decide) (Nat.le_of_ble_eq_true rfl) ?_
  show eg_E k gX9_flow 6 0 0 n (enc k z X) [vR k 202, vI a, vI b, vU, vU] [] 0 _
  have hN := hI.1
  have hv := hO.1.1
  have q := hv.r.2
  have hF : ∀ c, c ≠ 203 → z c = z c := fun _ _ => rfl
  have r_a1 := r_a.1; have r_a2 := r_a.2; have r_b1 := r_b.1; have r_b2 := r_b.2
  have J : (0 ≤ a ∧ a < segs s.1) → ∀ y1 : eg_Z, MJ s.1 10 y1 → nw y1 s.1 → Fm z y1 → eg_E k gX9_flow 6 0 0 n (enc k y1 X) [vR k 202, vI a, vI b, vI 0, vI 0] [] 19 (eg_p k (some (vI (A_flow s.1 a b))) n X (fun z' => FM z z' ∧ IM z' s)) := by
    intro ha y1 j1 hN1 fm1
    obtain ⟨C, hC0, hC1⟩ : ∃ C : Int, (b = 0 → C = 10 + a) ∧ (b ≠ 0 → C = 17 + a) := by
      by_cases e : b = 0
      · exact ⟨10 + a, fun _ => rfl, fun h => absurd e h⟩
      · exact ⟨17 + a, fun h => absurd h e, fun _ => rfl⟩
    have hM : isM s.1 C := by unfold isM; by_cases e : b = 0; (have := hC0 e; omega); (have := hC1 e; omega)
    have hC2 : 10 ≤ C ∧ C < 24 := by by_cases e : b = 0; (have := hC0 e; omega); (have := hC1 e; omega)
    have hCs := stM_sg (v := s.1) hC2
    have L1 : ∀ (mm : Nat) (i : Int), (0 ≤ i) → (i ≤ s.1 3) → s.1 3 - i < (mm : Int) → eg_E k gX9_flow 6 0 0 n (enc k y1 X) [vR k 202, vI a, vI b, vI (sm (tgF s.1 C (SS s.1 10)) i.toNat), vI i] [] 19 (eg_p k (some (vI (A_flow s.1 a b))) n X (fun z' => FM z z' ∧ IM z' s)) := by
      intro mm
      induction mm with
      | zero => intro i h0 h1 hmm; exfalso; omega
      | succ mm ih =>
        intro i h0 h1 hmm
        refine eg_iload dX9_flow_19 rfl ?_
        refine eg_al_n dX9_flow_21 rfl rfl ?_
        refine eg_iconst dX9_flow_22 ?_
        refine eg_Vf1 cs_X9_179 dX9_flow_23 (many_3 hN1) (by first | exact er202 | exact er203 | exact er204 | exact er205 | exact er206 | exact er207 | exact er208 | exact er209 | exact er210 | exact er211 | exact er212 | exact er213 | exact er214 | exact er215) rfl (Nat.le_of_ble_eq_true rfl) (by decide) ?_
        refine eg_icmp_ge 71 dX9_flow_26 ⟨by omega, by omega⟩ ⟨by omega, by omega⟩ rfl (fun h26 => ?_) (fun h26 => ?_)
        · refine eg_iload_n dX9_flow_71 rfl ?_
          refine eg_ireturn dX9_flow_72 rfl rfl ?_
          refine ⟨congrArg (fun q => some (vI q)) ?_, rfl, y1, rfl, fm1.1, hI.fm fm1 hN1⟩
          unfold A_flow
          rw [if_pos (by omega), show i = s.1 3 by omega, LL_e, LL_e, show sm (tgF s.1 C (SS s.1 10)) (s.1 3).toNat = tg s.1 C (SS s.1 10) from rfl]
          by_cases eb : b = 0
          · rw [if_pos eb, hC0 eb]
            unfold l0
            rw [if_neg (by omega), if_pos (by omega), show 10 + a - 10 = a by omega, if_pos (by omega)]
            omega
          · rw [if_neg eb, hC1 eb]
            unfold l0
            rw [if_neg (by omega), if_neg (by omega), if_pos (by omega), show 17 + a - 17 = a by omega, if_pos (by omega)]
            omega
        · have hi : i < s.1 3 := by omega
          have ge := gbM_e hv h0 hi hM
          refine eg_iload_n dX9_flow_29 rfl ?_
          refine eg_al_n dX9_flow_30 rfl rfl ?_
          refine eg_iload dX9_flow_31 rfl ?_
          refine eg_iload_n dX9_flow_33 rfl ?_
          refine eg_if_eq 42 dX9_flow_34 ⟨by omega, by omega⟩ rfl (fun h34 => ?_) (fun h34 => ?_)
          · refine eg_bipush dX9_flow_42 (by decide) ?_
            refine eg_iload_n dX9_flow_44 rfl ?_
            refine eg_iadd dX9_flow_45 ?_
            refine eg_eqI (y := C) (by omega) ?_
            refine eg_Vf2 cs_X9_261 dX9_flow_46 (c_goesBy hN1 hv (by omega) (by omega) ⟨by omega, by omega⟩) (by first | exact er202 | exact er203 | exact er204 | exact er205 | exact er206 | exact er207 | exact er208 | exact er209 | exact er210 | exact er211 | exact er212 | exact er213 | exact er214 | exact er215) rfl (Nat.le_of_ble_eq_true rfl) (by decide) ?_
            refine eg_bi_eq 62 dX9_flow_49 rfl (fun h49 => ?_) (fun h49 => ?_)
            · refine eg_iconst dX9_flow_62 ?_
              refine eg_iadd dX9_flow_63 ?_
              refine eg_eqI (y := sm (tgF s.1 C (SS s.1 10)) (i + 1).toNat) (by rw [sm_s _ h0]; unfold tgF; rw [ge, hCs] at h49; first | rw [if_pos h49] | rw [if_neg h49]) ?_
              refine eg_istore_n dX9_flow_64 rfl rfl rfl ?_
              refine eg_iinc dX9_flow_65 rfl rfl rfl ?_
              refine eg_goto 19 dX9_flow_68 rfl ?_
              exact ih (i + 1) (by omega) (by omega) (by omega)
            · refine eg_al_n dX9_flow_52 rfl rfl ?_
              refine eg_get fl_X9_43 dX9_flow_53 (by first | exact er202 | exact er203 | exact er204 | exact er205 | exact er206 | exact er207 | exact er208 | exact er209 | exact er210 | exact er211 | exact er212 | exact er213 | exact er214 | exact er215) rfl ?_
              refine eg_iload dX9_flow_56 rfl ?_
              refine eg_iald dX9_flow_58 (by first | exact er202 | exact er203 | exact er204 | exact er205 | exact er206 | exact er207 | exact er208 | exact er209 | exact er210 | exact er211 | exact er212 | exact er213 | exact er214 | exact er215) (by omega) (by omega) (by decide) ?_
              refine eg_eqI ((j1.2 i h0 hi).1) ?_
              refine eg_goto 63 dX9_flow_59 rfl ?_
              refine eg_iadd dX9_flow_63 ?_
              refine eg_eqI (y := sm (tgF s.1 C (SS s.1 10)) (i + 1).toNat) (by rw [sm_s _ h0]; unfold tgF; rw [ge, hCs] at h49; first | rw [if_pos h49] | rw [if_neg h49]) ?_
              refine eg_istore_n dX9_flow_64 rfl rfl rfl ?_
              refine eg_iinc dX9_flow_65 rfl rfl rfl ?_
              refine eg_goto 19 dX9_flow_68 rfl ?_
              exact ih (i + 1) (by omega) (by omega) (by omega)
          · refine eg_bipush dX9_flow_37 (by decide) ?_
            refine eg_goto 44 dX9_flow_39 rfl ?_
            refine eg_iload_n dX9_flow_44 rfl ?_
            refine eg_iadd dX9_flow_45 ?_
            refine eg_eqI (y := C) (by omega) ?_
            refine eg_Vf2 cs_X9_261 dX9_flow_46 (c_goesBy hN1 hv (by omega) (by omega) ⟨by omega, by omega⟩) (by first | exact er202 | exact er203 | exact er204 | exact er205 | exact er206 | exact er207 | exact er208 | exact er209 | exact er210 | exact er211 | exact er212 | exact er213 | exact er214 | exact er215) rfl (Nat.le_of_ble_eq_true rfl) (by decide) ?_
            refine eg_bi_eq 62 dX9_flow_49 rfl (fun h49 => ?_) (fun h49 => ?_)
            · refine eg_iconst dX9_flow_62 ?_
              refine eg_iadd dX9_flow_63 ?_
              refine eg_eqI (y := sm (tgF s.1 C (SS s.1 10)) (i + 1).toNat) (by rw [sm_s _ h0]; unfold tgF; rw [ge, hCs] at h49; first | rw [if_pos h49] | rw [if_neg h49]) ?_
              refine eg_istore_n dX9_flow_64 rfl rfl rfl ?_
              refine eg_iinc dX9_flow_65 rfl rfl rfl ?_
              refine eg_goto 19 dX9_flow_68 rfl ?_
              exact ih (i + 1) (by omega) (by omega) (by omega)
            · refine eg_al_n dX9_flow_52 rfl rfl ?_
              refine eg_get fl_X9_43 dX9_flow_53 (by first | exact er202 | exact er203 | exact er204 | exact er205 | exact er206 | exact er207 | exact er208 | exact er209 | exact er210 | exact er211 | exact er212 | exact er213 | exact er214 | exact er215) rfl ?_
              refine eg_iload dX9_flow_56 rfl ?_
              refine eg_iald dX9_flow_58 (by first | exact er202 | exact er203 | exact er204 | exact er205 | exact er206 | exact er207 | exact er208 | exact er209 | exact er210 | exact er211 | exact er212 | exact er213 | exact er214 | exact er215) (by omega) (by omega) (by decide) ?_
              refine eg_eqI ((j1.2 i h0 hi).1) ?_
              refine eg_goto 63 dX9_flow_59 rfl ?_
              refine eg_iadd dX9_flow_63 ?_
              refine eg_eqI (y := sm (tgF s.1 C (SS s.1 10)) (i + 1).toNat) (by rw [sm_s _ h0]; unfold tgF; rw [ge, hCs] at h49; first | rw [if_pos h49] | rw [if_neg h49]) ?_
              refine eg_istore_n dX9_flow_64 rfl rfl rfl ?_
              refine eg_iinc dX9_flow_65 rfl rfl rfl ?_
              refine eg_goto 19 dX9_flow_68 rfl ?_
              exact ih (i + 1) (by omega) (by omega) (by omega)
    exact L1 17 0 (by omega) (by omega) (by omega)
  refine eg_al_n dX9_flow_0 rfl rfl ?_
  refine eg_iload_n dX9_flow_1 rfl ?_
  refine eg_Vf1 cs_X9_192 dX9_flow_2 (c_isSegment hN hv r_a) (by first | exact er202 | exact er203 | exact er204 | exact er205 | exact er206 | exact er207 | exact er208 | exact er209 | exact er210 | exact er211 | exact er212 | exact er213 | exact er214 | exact er215) rfl (Nat.le_of_ble_eq_true rfl) (by decide) ?_
  refine eg_bi_ne 10 dX9_flow_5 rfl (fun h5 => ?_) (fun h5 => ?_)
  · refine eg_al_n dX9_flow_10 rfl rfl ?_
    refine eg_Vpv0 cs_X9_302 dX9_flow_11 (c_schedules hN hv hO.1.2.1) (by first | exact er202 | exact er203 | exact er204 | exact er205 | exact er206 | exact er207 | exact er208 | exact er209 | exact er210 | exact er211 | exact er212 | exact er213 | exact er214 | exact er215) rfl (Nat.le_of_ble_eq_true rfl) (by decide) ?_
    rintro y1 ⟨f1, j1, p1⟩
    have hN1 : nw y1 s.1 := nw_c (f1 203 (by omega)) hN
    have fm1 : Fm z y1 := Fm.of (fun c hc => f1 c (by omega))
    refine eg_iconst dX9_flow_14 ?_
    refine eg_istore_n dX9_flow_15 rfl rfl rfl ?_
    refine eg_iconst dX9_flow_16 ?_
    refine eg_istore dX9_flow_17 rfl rfl rfl ?_
    exact J (by omega) y1 j1 hN1 fm1
  · refine eg_iconst dX9_flow_8 ?_
    refine eg_ireturn dX9_flow_9 rfl rfl ?_
    refine ⟨congrArg (fun q => some (vI q)) ?_, rfl, z, rfl, (Fm.rf).1, hI.fm (Fm.rf) hN⟩
    unfold A_flow; (repeat (first | rw [if_pos (by first | assumption | omega)] | rw [if_neg (by first | assumption | omega)]))
theorem m_leaves {k : eg_K} {z : eg_Z} {X : eg_M} {n : Nat} {s : eg_S} (hI : IM z s) (hO : OS s) {a b c : Int} (r_a : iR a) (r_b : iR b) (r_c : iR c) : eg_P k gX9_leaves 3 0 0 [vR k 202, vI a, vI b, vI c] n (enc k z X) (eg_p k (some (vI (A_leaves s.1 a b c))) n X (fun z' => FM z z' ∧ IM z' s)) := by
  refine eg_P.of (by decide) (Nat.le_of_ble_eq_true rfl) ?_
  show eg_E k gX9_leaves 3 0 0 n (enc k z X) [vR k 202, vI a, vI b, vI c] [] 0 _
  have hN := hI.1
  have hv := hO.1.1
  have q := hv.r.2
  have hF : ∀ c, c ≠ 203 → z c = z c := fun _ _ => rfl
  have r_a1 := r_a.1; have r_a2 := r_a.2; have r_b1 := r_b.1; have r_b2 := r_b.2; have r_c1 := r_c.1; have r_c2 := r_c.2
  refine eg_al_n dX9_leaves_0 rfl rfl ?_
  refine eg_iload_n dX9_leaves_1 rfl ?_
  refine eg_Vf1 cs_X9_253 dX9_leaves_2 (c_isHub hN hv r_a) (by first | exact er202 | exact er203 | exact er204 | exact er205 | exact er206 | exact er207 | exact er208 | exact er209 | exact er210 | exact er211 | exact er212 | exact er213 | exact er214 | exact er215) rfl (Nat.le_of_ble_eq_true rfl) (by decide) ?_
  refine eg_bi_eq 38 dX9_leaves_5 rfl (fun h5 => ?_) (fun h5 => ?_)
  · refine eg_iconst dX9_leaves_38 ?_
    refine eg_ireturn dX9_leaves_39 rfl rfl ?_
    refine ⟨congrArg (fun q => some (vI q)) ?_, rfl, z, rfl, (Fm.rf).1, hI.fm (Fm.rf) hN⟩
    unfold A_leaves; (repeat (first | rw [if_pos (by first | assumption | omega)] | rw [if_neg (by first | assumption | omega)]))
  · refine eg_al_n dX9_leaves_8 rfl rfl ?_
    refine eg_iload_n dX9_leaves_9 rfl ?_
    refine eg_Vf1 cs_X9_253 dX9_leaves_10 (c_isHub hN hv r_b) (by first | exact er202 | exact er203 | exact er204 | exact er205 | exact er206 | exact er207 | exact er208 | exact er209 | exact er210 | exact er211 | exact er212 | exact er213 | exact er214 | exact er215) rfl (Nat.le_of_ble_eq_true rfl) (by decide) ?_
    refine eg_bi_eq 38 dX9_leaves_13 rfl (fun h13 => ?_) (fun h13 => ?_)
    · refine eg_iconst dX9_leaves_38 ?_
      refine eg_ireturn dX9_leaves_39 rfl rfl ?_
      refine ⟨congrArg (fun q => some (vI q)) ?_, rfl, z, rfl, (Fm.rf).1, hI.fm (Fm.rf) hN⟩
      unfold A_leaves; (repeat (first | rw [if_pos (by first | assumption | omega)] | rw [if_neg (by first | assumption | omega)]))
    · refine eg_iload_n dX9_leaves_16 rfl ?_
      refine eg_i2l dX9_leaves_17 ⟨by omega, by omega⟩ ?_
      refine eg_lk0 dX9_leaves_18 ?_
      refine eg_ldc2 kw_X9_343 dX9_leaves_19 ?_
      refine eg_Sf3 cs_X9_81 dX9_leaves_22 (c_in ⟨by omega, by omega⟩ ⟨by omega, by omega⟩ ⟨by omega, by omega⟩) (Nat.le_of_ble_eq_true rfl) (by decide) ?_
      refine eg_bi_eq 38 dX9_leaves_25 rfl (fun h25 => ?_) (fun h25 => ?_)
      · refine eg_iconst dX9_leaves_38 ?_
        refine eg_ireturn dX9_leaves_39 rfl rfl ?_
        refine ⟨congrArg (fun q => some (vI q)) ?_, rfl, z, rfl, (Fm.rf).1, hI.fm (Fm.rf) hN⟩
        unfold A_leaves; (repeat (first | rw [if_pos (by first | assumption | omega)] | rw [if_neg (by first | assumption | omega)]))
      · refine eg_al_n dX9_leaves_28 rfl rfl ?_
        refine eg_iload_n dX9_leaves_29 rfl ?_
        refine eg_iload_n dX9_leaves_30 rfl ?_
        refine eg_iload_n dX9_leaves_31 rfl ?_
        refine eg_Vf3 cs_X9_290 dX9_leaves_32 (c_leftOver hN hv (by omega) (by omega) (by omega)) (by first | exact er202 | exact er203 | exact er204 | exact er205 | exact er206 | exact er207 | exact er208 | exact er209 | exact er210 | exact er211 | exact er212 | exact er213 | exact er214 | exact er215) rfl (Nat.le_of_ble_eq_true rfl) (by decide) ?_
        refine eg_goto 39 dX9_leaves_35 rfl ?_
        refine eg_ireturn dX9_leaves_39 rfl rfl ?_
        refine ⟨congrArg (fun q => some (vI q)) ?_, rfl, z, rfl, (Fm.rf).1, hI.fm (Fm.rf) hN⟩
        unfold A_leaves; (repeat (first | rw [if_pos (by first | assumption | omega)] | rw [if_neg (by first | assumption | omega)]))
theorem c_neededFor {k : eg_K} {z : eg_Z} {X : eg_M} {n : Nat} {v : eg_v} (hN : nw z v) {B : Int} (hv : VV B v) {h o m : Int} (hh : 0 ≤ h ∧ h < v 0) (ho : 0 ≤ o ∧ o < v 0) (hm : 0 ≤ m ∧ m ≤ 99999) : eg_P k gX9_neededFor 3 0 0 [vR k 202, vI h, vI o, vI m] n (enc k z X) (eg_f (some (vI (sNeed v h o m))) n (enc k z X)) := by
  refine eg_P.of (by decide) (Nat.le_of_ble_eq_true rfl) ?_
  show eg_E k gX9_neededFor 3 0 0 n (enc k z X) [vR k 202, vI h, vI o, vI m, vU, vU, vU] [] 0 _
  have sb := sLeft_b hv hh ho (n := 99999) (by omega)
  have L1 : ∀ (mm : Nat) (lo : Int) (hi : Int) (w : Value), (0 ≤ lo) → (lo ≤ hi) → (hi ≤ 99999) → (∀ x : Int, 0 ≤ x → x < lo → sLeft v h o x < m) → (m ≤ sLeft v h o hi) → hi - lo < (mm : Int) → eg_E k gX9_neededFor 3 0 0 n (enc k z X) [vR k 202, vI h, vI o, vI m, vI lo, vI hi, w] [] 24 (eg_f (some (vI (sNeed v h o m))) n (enc k z X)) := by
    intro mm
    induction mm with
    | zero => intro lo hi w h0 h1 h2 hL hT hmm; exfalso; omega
    | succ mm ih =>
      intro lo hi w h0 h1 h2 hL hT hmm
      refine eg_iload dX9_neededFor_24 rfl ?_
      refine eg_iload dX9_neededFor_26 rfl ?_
      refine eg_icmp_ge 68 dX9_neededFor_28 ⟨by omega, by omega⟩ ⟨by omega, by omega⟩ rfl (fun h28 => ?_) (fun h28 => ?_)
      · refine eg_iload dX9_neededFor_68 rfl ?_
        refine eg_ireturn dX9_neededFor_70 rfl rfl ?_
        refine ⟨congrArg (fun q => some (vI q)) ?_, rfl, rfl⟩
        exact (sNeed_e (Or.inr ⟨h0, by omega, by rw [show lo = hi by omega]; exact hT, hL⟩)).symm
      · refine eg_iload dX9_neededFor_31 rfl ?_
        refine eg_iload dX9_neededFor_33 rfl ?_
        refine eg_iadd dX9_neededFor_35 ?_
        refine eg_iconst dX9_neededFor_36 ?_
        refine eg_idiv dX9_neededFor_37 ⟨by omega, by omega⟩ ⟨by omega, by omega⟩ (by omega) (by omega) ?_
        refine eg_istore dX9_neededFor_38 rfl rfl rfl ?_
        refine eg_al_n dX9_neededFor_40 rfl rfl ?_
        refine eg_iload_n dX9_neededFor_41 rfl ?_
        refine eg_iload_n dX9_neededFor_42 rfl ?_
        refine eg_iload dX9_neededFor_43 rfl ?_
        refine eg_Vf3 cs_X9_290 dX9_neededFor_45 (c_leftOver hN hv hh ho ⟨by omega, by omega⟩) (by first | exact er202 | exact er203 | exact er204 | exact er205 | exact er206 | exact er207 | exact er208 | exact er209 | exact er210 | exact er211 | exact er212 | exact er213 | exact er214 | exact er215) rfl (Nat.le_of_ble_eq_true rfl) (by decide) ?_
        have sb9 := sLeft_b hv hh ho (n := (lo + hi) / 2) (by omega)
        refine eg_iload_n dX9_neededFor_48 rfl ?_
        refine eg_icmp_lt 59 dX9_neededFor_49 ⟨by omega, by omega⟩ ⟨by omega, by omega⟩ rfl (fun h49 => ?_) (fun h49 => ?_)
        · refine eg_iload dX9_neededFor_59 rfl ?_
          refine eg_iconst dX9_neededFor_61 ?_
          refine eg_iadd dX9_neededFor_62 ?_
          refine eg_istore dX9_neededFor_63 rfl rfl rfl ?_
          refine eg_goto 24 dX9_neededFor_65 rfl ?_
          exact ih ((lo + hi) / 2 + 1) hi _ (by omega) (by omega) (by omega) (fun x x0 x1 => by have := sLeft_m hv hh ho (x := x) (y := (lo + hi) / 2) (by omega); omega) hT (by omega)
        · refine eg_iload dX9_neededFor_52 rfl ?_
          refine eg_istore dX9_neededFor_54 rfl rfl rfl ?_
          refine eg_goto 65 dX9_neededFor_56 rfl ?_
          refine eg_goto 24 dX9_neededFor_65 rfl ?_
          exact ih lo ((lo + hi) / 2) _ h0 (by omega) (by omega) hL (by omega) (by omega)
  refine eg_al_n dX9_neededFor_0 rfl rfl ?_
  refine eg_iload_n dX9_neededFor_1 rfl ?_
  refine eg_iload_n dX9_neededFor_2 rfl ?_
  refine eg_ldcw kw_X9_345 dX9_neededFor_3 ?_
  refine eg_Vf3 cs_X9_290 dX9_neededFor_6 (c_leftOver (x := 99999) hN hv hh ho ⟨by omega, by omega⟩) (by first | exact er202 | exact er203 | exact er204 | exact er205 | exact er206 | exact er207 | exact er208 | exact er209 | exact er210 | exact er211 | exact er212 | exact er213 | exact er214 | exact er215) rfl (Nat.le_of_ble_eq_true rfl) (by decide) ?_
  refine eg_iload_n dX9_neededFor_9 rfl ?_
  refine eg_icmp_ge 16 dX9_neededFor_10 ⟨by omega, by omega⟩ ⟨by omega, by omega⟩ rfl (fun h10 => ?_) (fun h10 => ?_)
  · refine eg_iconst dX9_neededFor_16 ?_
    refine eg_istore dX9_neededFor_17 rfl rfl rfl ?_
    refine eg_ldcw kw_X9_345 dX9_neededFor_19 ?_
    refine eg_istore dX9_neededFor_22 rfl rfl rfl ?_
    exact L1 100000 0 99999 _ (by omega) (by omega) (by omega) (fun x x0 x1 => absurd x1 (by omega)) (by omega) (by omega)
  · refine eg_bipush dX9_neededFor_13 (by decide) ?_
    refine eg_ireturn dX9_neededFor_15 rfl rfl ?_
    refine ⟨congrArg (fun q => some (vI q)) ?_, rfl, rfl⟩
    exact (sNeed_e (Or.inl ⟨rfl, fun x x0 x1 => by have := sLeft_m hv hh ho (x := x) (y := 99999) (by omega); omega⟩)).symm
theorem m_needs {k : eg_K} {z : eg_Z} {X : eg_M} {n : Nat} {s : eg_S} (hI : IM z s) (hO : OS s) {a b c : Int} (r_a : iR a) (r_b : iR b) (r_c : iR c) : eg_P k gX9_needs 4 0 0 [vR k 202, vI a, vI b, vI c] n (enc k z X) (eg_p k (some (vI (A_needs s.1 a b c))) n X (fun z' => FM z z' ∧ IM z' s)) := by
  refine eg_P.of (by decide) (Nat.le_of_ble_eq_true rfl) ?_
  show eg_E k gX9_needs 4 0 0 n (enc k z X) [vR k 202, vI a, vI b, vI c] [] 0 _
  have hN := hI.1
  have hv := hO.1.1
  have q := hv.r.2
  have hF : ∀ c, c ≠ 203 → z c = z c := fun _ _ => rfl
  have r_a1 := r_a.1; have r_a2 := r_a.2; have r_b1 := r_b.1; have r_b2 := r_b.2; have r_c1 := r_c.1; have r_c2 := r_c.2
  refine eg_al_n dX9_needs_0 rfl rfl ?_
  refine eg_iload_n dX9_needs_1 rfl ?_
  refine eg_Vf1 cs_X9_253 dX9_needs_2 (c_isHub hN hv r_a) (by first | exact er202 | exact er203 | exact er204 | exact er205 | exact er206 | exact er207 | exact er208 | exact er209 | exact er210 | exact er211 | exact er212 | exact er213 | exact er214 | exact er215) rfl (Nat.le_of_ble_eq_true rfl) (by decide) ?_
  refine eg_bi_eq 38 dX9_needs_5 rfl (fun h5 => ?_) (fun h5 => ?_)
  · refine eg_iconst dX9_needs_38 ?_
    refine eg_ireturn dX9_needs_39 rfl rfl ?_
    refine ⟨congrArg (fun q => some (vI q)) ?_, rfl, z, rfl, (Fm.rf).1, hI.fm (Fm.rf) hN⟩
    unfold A_needs; (repeat (first | rw [if_pos (by first | assumption | omega)] | rw [if_neg (by first | assumption | omega)]))
  · refine eg_al_n dX9_needs_8 rfl rfl ?_
    refine eg_iload_n dX9_needs_9 rfl ?_
    refine eg_Vf1 cs_X9_253 dX9_needs_10 (c_isHub hN hv r_b) (by first | exact er202 | exact er203 | exact er204 | exact er205 | exact er206 | exact er207 | exact er208 | exact er209 | exact er210 | exact er211 | exact er212 | exact er213 | exact er214 | exact er215) rfl (Nat.le_of_ble_eq_true rfl) (by decide) ?_
    refine eg_bi_eq 38 dX9_needs_13 rfl (fun h13 => ?_) (fun h13 => ?_)
    · refine eg_iconst dX9_needs_38 ?_
      refine eg_ireturn dX9_needs_39 rfl rfl ?_
      refine ⟨congrArg (fun q => some (vI q)) ?_, rfl, z, rfl, (Fm.rf).1, hI.fm (Fm.rf) hN⟩
      unfold A_needs; (repeat (first | rw [if_pos (by first | assumption | omega)] | rw [if_neg (by first | assumption | omega)]))
    · refine eg_iload_n dX9_needs_16 rfl ?_
      refine eg_i2l dX9_needs_17 ⟨by omega, by omega⟩ ?_
      refine eg_lk0 dX9_needs_18 ?_
      refine eg_ldc2 kw_X9_343 dX9_needs_19 ?_
      refine eg_Sf3 cs_X9_81 dX9_needs_22 (c_in ⟨by omega, by omega⟩ ⟨by omega, by omega⟩ ⟨by omega, by omega⟩) (Nat.le_of_ble_eq_true rfl) (by decide) ?_
      refine eg_bi_eq 38 dX9_needs_25 rfl (fun h25 => ?_) (fun h25 => ?_)
      · refine eg_iconst dX9_needs_38 ?_
        refine eg_ireturn dX9_needs_39 rfl rfl ?_
        refine ⟨congrArg (fun q => some (vI q)) ?_, rfl, z, rfl, (Fm.rf).1, hI.fm (Fm.rf) hN⟩
        unfold A_needs; (repeat (first | rw [if_pos (by first | assumption | omega)] | rw [if_neg (by first | assumption | omega)]))
      · refine eg_al_n dX9_needs_28 rfl rfl ?_
        refine eg_iload_n dX9_needs_29 rfl ?_
        refine eg_iload_n dX9_needs_30 rfl ?_
        refine eg_iload_n dX9_needs_31 rfl ?_
        refine eg_Vf3 cs_X9_346 dX9_needs_32 (c_neededFor hN hv (by omega) (by omega) (by omega)) (by first | exact er202 | exact er203 | exact er204 | exact er205 | exact er206 | exact er207 | exact er208 | exact er209 | exact er210 | exact er211 | exact er212 | exact er213 | exact er214 | exact er215) rfl (Nat.le_of_ble_eq_true rfl) (by decide) ?_
        refine eg_goto 39 dX9_needs_35 rfl ?_
        refine eg_ireturn dX9_needs_39 rfl rfl ?_
        refine ⟨congrArg (fun q => some (vI q)) ?_, rfl, z, rfl, (Fm.rf).1, hI.fm (Fm.rf) hN⟩
        unfold A_needs; (repeat (first | rw [if_pos (by first | assumption | omega)] | rw [if_neg (by first | assumption | omega)]))
theorem m_nearest {k : eg_K} {z : eg_Z} {X : eg_M} {n : Nat} {s : eg_S} (hI : IM z s) (hO : OS s) {a b c : Int} (r_a : iR a) (r_b : iR b) (r_c : iR c) : eg_P k gX9_nearest 4 0 0 [vR k 202, vI a, vI b, vI c] n (enc k z X) (eg_p k (some (vI (A_nearest s.1 a b c))) n X (fun z' => FM z z' ∧ IM z' s)) := by
  refine eg_P.of (by decide) (Nat.le_of_ble_eq_true rfl) ?_
  show eg_E k gX9_nearest 4 0 0 n (enc k z X) [vR k 202, vI a, vI b, vI c, vU, vU, vU, vU] [] 0 _
  have hN := hI.1
  have hv := hO.1.1
  have q := hv.r.2
  have hF : ∀ c, c ≠ 203 → z c = z c := fun _ _ => rfl
  have r_a1 := r_a.1; have r_a2 := r_a.2; have r_b1 := r_b.1; have r_b2 := r_b.2; have r_c1 := r_c.1; have r_c2 := r_c.2
  have J : (0 ≤ a ∧ a < s.1 1 ∧ gP s.1 a 1 = 0) → (0 ≤ b ∧ b ≤ 9999) → (0 ≤ c ∧ c ≤ 1) → eg_E k gX9_nearest 4 0 0 n (enc k z X) [vR k 202, vI a, vI b, vI c, vI (-2), vI (-2), vI 0, vU] [] 44 (eg_p k (some (vI (A_nearest s.1 a b c))) n X (fun z' => FM z z' ∧ IM z' s)) := by
    intro ha hb hc
    have o2 := hv.P (p := a) (by omega) (by omega); unfold okP at o2
    have L1 : ∀ (mm : Nat) (i : Int) (w : Value), (0 ≤ i) → (i ≤ s.1 1) → s.1 1 - i < (mm : Int) → eg_E k gX9_nearest 4 0 0 n (enc k z X) [vR k 202, vI a, vI b, vI c, vI (nrF s.1 (gP s.1 a 0) b i.toNat).1, vI (nrF s.1 (gP s.1 a 0) b i.toNat).2, vI i, w] [] 44 (eg_p k (some (vI (A_nearest s.1 a b c))) n X (fun z' => FM z z' ∧ IM z' s)) := by
      intro mm
      induction mm with
      | zero => intro i w h0 h1 hmm; exfalso; omega
      | succ mm ih =>
        intro i w h0 h1 hmm
        have nb := nrF_b (v := s.1) (h := gP s.1 a 0) (m := b) i.toNat
        refine eg_iload dX9_nearest_44 rfl ?_
        refine eg_al_n dX9_nearest_46 rfl rfl ?_
        refine eg_iconst dX9_nearest_47 ?_
        refine eg_Vf1 cs_X9_179 dX9_nearest_48 (many_1 hN) (by first | exact er202 | exact er203 | exact er204 | exact er205 | exact er206 | exact er207 | exact er208 | exact er209 | exact er210 | exact er211 | exact er212 | exact er213 | exact er214 | exact er215) rfl (Nat.le_of_ble_eq_true rfl) (by decide) ?_
        refine eg_icmp_ge 125 dX9_nearest_51 ⟨by omega, by omega⟩ ⟨by omega, by omega⟩ rfl (fun h51 => ?_) (fun h51 => ?_)
        · refine eg_iload_n dX9_nearest_125 rfl ?_
          refine eg_if_ne 134 dX9_nearest_126 ⟨by omega, by omega⟩ rfl (fun h126 => ?_) (fun h126 => ?_)
          · refine eg_iload dX9_nearest_134 rfl ?_
            refine eg_ireturn dX9_nearest_136 rfl rfl ?_
            refine ⟨congrArg (fun q => some (vI q)) ?_, rfl, z, rfl, (Fm.rf).1, hI.fm (Fm.rf) hN⟩
            unfold A_nearest; rw [if_pos ⟨by omega, by omega, by omega⟩, show (s.1 1).toNat = i.toNat by omega]; first | rw [if_pos (by omega)] | rw [if_neg (by omega)]
          · refine eg_iload dX9_nearest_129 rfl ?_
            refine eg_goto 136 dX9_nearest_131 rfl ?_
            refine eg_ireturn dX9_nearest_136 rfl rfl ?_
            refine ⟨congrArg (fun q => some (vI q)) ?_, rfl, z, rfl, (Fm.rf).1, hI.fm (Fm.rf) hN⟩
            unfold A_nearest; rw [if_pos ⟨by omega, by omega, by omega⟩, show (s.1 1).toNat = i.toNat by omega]; first | rw [if_pos (by omega)] | rw [if_neg (by omega)]
        · have o1 := hv.P (p := i) (by omega) (by omega); unfold okP at o1
          refine eg_al_n dX9_nearest_54 rfl rfl ?_
          refine eg_iload dX9_nearest_55 rfl ?_
          refine eg_iconst dX9_nearest_57 ?_
          refine eg_Vf2 cs_X9_189 dX9_nearest_58 (c_pointOf hN (by omega) (by omega) (by omega) (by omega)) (by first | exact er202 | exact er203 | exact er204 | exact er205 | exact er206 | exact er207 | exact er208 | exact er209 | exact er210 | exact er211 | exact er212 | exact er213 | exact er214 | exact er215) rfl (Nat.le_of_ble_eq_true rfl) (by decide) ?_
          refine eg_if_ne 67 dX9_nearest_61 ⟨by omega, by omega⟩ rfl (fun h61 => ?_) (fun h61 => ?_)
          · refine eg_al_n dX9_nearest_67 rfl rfl ?_
            refine eg_al_n dX9_nearest_68 rfl rfl ?_
            refine eg_iload dX9_nearest_69 rfl ?_
            refine eg_iconst dX9_nearest_71 ?_
            refine eg_Vf2 cs_X9_189 dX9_nearest_72 (c_pointOf hN (by omega) (by omega) (by omega) (by omega)) (by first | exact er202 | exact er203 | exact er204 | exact er205 | exact er206 | exact er207 | exact er208 | exact er209 | exact er210 | exact er211 | exact er212 | exact er213 | exact er214 | exact er215) rfl (Nat.le_of_ble_eq_true rfl) (by decide) ?_
            refine eg_al_n dX9_nearest_75 rfl rfl ?_
            refine eg_iload_n dX9_nearest_76 rfl ?_
            refine eg_iconst dX9_nearest_77 ?_
            refine eg_Vf2 cs_X9_189 dX9_nearest_78 (c_pointOf hN (by omega) (by omega) (by omega) (by omega)) (by first | exact er202 | exact er203 | exact er204 | exact er205 | exact er206 | exact er207 | exact er208 | exact er209 | exact er210 | exact er211 | exact er212 | exact er213 | exact er214 | exact er215) rfl (Nat.le_of_ble_eq_true rfl) (by decide) ?_
            refine eg_iload_n dX9_nearest_81 rfl ?_
            refine eg_Vf3 cs_X9_346 dX9_nearest_82 (c_neededFor hN hv ⟨o1.1.1, o1.1.2⟩ ⟨o2.1.1, o2.1.2⟩ ⟨by omega, by omega⟩) (by first | exact er202 | exact er203 | exact er204 | exact er205 | exact er206 | exact er207 | exact er208 | exact er209 | exact er210 | exact er211 | exact er212 | exact er213 | exact er214 | exact er215) rfl (Nat.le_of_ble_eq_true rfl) (by decide) ?_
            have nb9 := sNeed_b s.1 (gP s.1 i 0) (gP s.1 a 0) b
            refine eg_istore dX9_nearest_85 rfl rfl rfl ?_
            refine eg_iload dX9_nearest_87 rfl ?_
            refine eg_bipush dX9_nearest_89 (by decide) ?_
            refine eg_icmp_eq 119 dX9_nearest_91 ⟨by omega, by omega⟩ ⟨by omega, by omega⟩ rfl (fun h91 => ?_) (fun h91 => ?_)
            · refine eg_iinc dX9_nearest_119 rfl rfl rfl ?_
              refine eg_goto 44 dX9_nearest_122 rfl ?_
              have t := fun w => ih (i + 1) w (by omega) (by omega) (by omega)
              rw [nrF_s h0] at t
              first
                | (rw [if_pos ⟨by omega, by omega, by omega⟩] at t; exact t _)
                | (rw [if_neg (by omega)] at t; exact t _)
            · refine eg_iload dX9_nearest_94 rfl ?_
              refine eg_bipush dX9_nearest_96 (by decide) ?_
              refine eg_icmp_eq 111 dX9_nearest_98 ⟨by omega, by omega⟩ ⟨by omega, by omega⟩ rfl (fun h98 => ?_) (fun h98 => ?_)
              · refine eg_iload dX9_nearest_111 rfl ?_
                refine eg_istore dX9_nearest_113 rfl rfl rfl ?_
                refine eg_iload dX9_nearest_115 rfl ?_
                refine eg_istore dX9_nearest_117 rfl rfl rfl ?_
                refine eg_iinc dX9_nearest_119 rfl rfl rfl ?_
                refine eg_goto 44 dX9_nearest_122 rfl ?_
                have t := fun w => ih (i + 1) w (by omega) (by omega) (by omega)
                rw [nrF_s h0] at t
                first
                  | (rw [if_pos ⟨by omega, by omega, by omega⟩] at t; exact t _)
                  | (rw [if_neg (by omega)] at t; exact t _)
              · refine eg_iload dX9_nearest_101 rfl ?_
                refine eg_iload dX9_nearest_103 rfl ?_
                refine eg_icmp_lt 111 dX9_nearest_105 ⟨by omega, by omega⟩ ⟨by omega, by omega⟩ rfl (fun h105 => ?_) (fun h105 => ?_)
                · refine eg_iload dX9_nearest_111 rfl ?_
                  refine eg_istore dX9_nearest_113 rfl rfl rfl ?_
                  refine eg_iload dX9_nearest_115 rfl ?_
                  refine eg_istore dX9_nearest_117 rfl rfl rfl ?_
                  refine eg_iinc dX9_nearest_119 rfl rfl rfl ?_
                  refine eg_goto 44 dX9_nearest_122 rfl ?_
                  have t := fun w => ih (i + 1) w (by omega) (by omega) (by omega)
                  rw [nrF_s h0] at t
                  first
                    | (rw [if_pos ⟨by omega, by omega, by omega⟩] at t; exact t _)
                    | (rw [if_neg (by omega)] at t; exact t _)
                · refine eg_goto 119 dX9_nearest_108 rfl ?_
                  refine eg_iinc dX9_nearest_119 rfl rfl rfl ?_
                  refine eg_goto 44 dX9_nearest_122 rfl ?_
                  have t := fun w => ih (i + 1) w (by omega) (by omega) (by omega)
                  rw [nrF_s h0] at t
                  first
                    | (rw [if_pos ⟨by omega, by omega, by omega⟩] at t; exact t _)
                    | (rw [if_neg (by omega)] at t; exact t _)
          · refine eg_goto 119 dX9_nearest_64 rfl ?_
            refine eg_iinc dX9_nearest_119 rfl rfl rfl ?_
            refine eg_goto 44 dX9_nearest_122 rfl ?_
            have t := fun w => ih (i + 1) w (by omega) (by omega) (by omega)
            rw [nrF_s h0] at t
            first
              | (rw [if_pos ⟨by omega, by omega, by omega⟩] at t; exact t _)
              | (rw [if_neg (by omega)] at t; exact t _)
    exact L1 11 0 vU (by omega) (by omega) (by omega)
  refine eg_al_n dX9_nearest_0 rfl rfl ?_
  refine eg_iload_n dX9_nearest_1 rfl ?_
  refine eg_iconst dX9_nearest_2 ?_
  refine eg_Vf2 cs_X9_195 dX9_nearest_3 (c_isPointOf hN hv r_a ⟨by omega, by omega⟩) (by first | exact er202 | exact er203 | exact er204 | exact er205 | exact er206 | exact er207 | exact er208 | exact er209 | exact er210 | exact er211 | exact er212 | exact er213 | exact er214 | exact er215) rfl (Nat.le_of_ble_eq_true rfl) (by decide) ?_
  refine eg_bi_eq 31 dX9_nearest_6 rfl (fun h6 => ?_) (fun h6 => ?_)
  · refine eg_iconst dX9_nearest_31 ?_
    refine eg_ireturn dX9_nearest_32 rfl rfl ?_
    refine ⟨congrArg (fun q => some (vI q)) ?_, rfl, z, rfl, (Fm.rf).1, hI.fm (Fm.rf) hN⟩
    unfold A_nearest; rw [if_neg]; omega
  · refine eg_iload_n dX9_nearest_9 rfl ?_
    refine eg_i2l dX9_nearest_10 ⟨by omega, by omega⟩ ?_
    refine eg_lk0 dX9_nearest_11 ?_
    refine eg_ldc2 kw_X9_167 dX9_nearest_12 ?_
    refine eg_Sf3 cs_X9_81 dX9_nearest_15 (c_in ⟨by omega, by omega⟩ ⟨by omega, by omega⟩ ⟨by omega, by omega⟩) (Nat.le_of_ble_eq_true rfl) (by decide) ?_
    refine eg_bi_eq 31 dX9_nearest_18 rfl (fun h18 => ?_) (fun h18 => ?_)
    · refine eg_iconst dX9_nearest_31 ?_
      refine eg_ireturn dX9_nearest_32 rfl rfl ?_
      refine ⟨congrArg (fun q => some (vI q)) ?_, rfl, z, rfl, (Fm.rf).1, hI.fm (Fm.rf) hN⟩
      unfold A_nearest; rw [if_neg]; omega
    · refine eg_iload_n dX9_nearest_21 rfl ?_
      refine eg_i2l dX9_nearest_22 ⟨by omega, by omega⟩ ?_
      refine eg_lk0 dX9_nearest_23 ?_
      refine eg_lk1 dX9_nearest_24 ?_
      refine eg_Sf3 cs_X9_81 dX9_nearest_25 (c_in ⟨by omega, by omega⟩ ⟨by omega, by omega⟩ ⟨by omega, by omega⟩) (Nat.le_of_ble_eq_true rfl) (by decide) ?_
      refine eg_bi_ne 33 dX9_nearest_28 rfl (fun h28 => ?_) (fun h28 => ?_)
      · refine eg_bipush dX9_nearest_33 (by decide) ?_
        refine eg_istore dX9_nearest_35 rfl rfl rfl ?_
        refine eg_bipush dX9_nearest_37 (by decide) ?_
        refine eg_istore dX9_nearest_39 rfl rfl rfl ?_
        refine eg_iconst dX9_nearest_41 ?_
        refine eg_istore dX9_nearest_42 rfl rfl rfl ?_
        exact J (by omega) (by omega) (by omega)
      · refine eg_iconst dX9_nearest_31 ?_
        refine eg_ireturn dX9_nearest_32 rfl rfl ?_
        refine ⟨congrArg (fun q => some (vI q)) ?_, rfl, z, rfl, (Fm.rf).1, hI.fm (Fm.rf) hN⟩
        unfold A_nearest; rw [if_neg]; omega
