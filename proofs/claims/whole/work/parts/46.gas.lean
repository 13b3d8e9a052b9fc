theorem LLi {v : eg_v} {y : eg_Z} (h : SJ v 10 y) {c : Int} (h0 : 0 ≤ c) (h1 : c < 46) : y 29 c.toNat = LL v 10 c := by
  rw [h.2.1 c.toNat (by omega), show ((c.toNat : Nat) : Int) = c by omega]
theorem stQ_b {v : eg_v} {p : Int} (h0 : 0 ≤ p) (h1 : p < 10) : 0 ≤ stQ v p ∧ stQ v p < 46 := by unfold stQ; split <;> (try split) <;> omega
def A_point (v : eg_v) (p w : Int) : Int := if 0 ≤ p ∧ p < v 1 then (if w = 0 ∨ w = 1 ∨ w = 2 then gP v p w else if w = 3 then gP v p 3 + 100 else if w = 4 then LL v 10 (stQ v p) else -1) else -1
def A_segment (v : eg_v) (i w : Int) : Int := if 0 ≤ i ∧ i < segs v then (if w = 0 ∨ w = 1 then gS v i w else if w = 2 then LL v 10 (10 + i) else if w = 3 then LL v 10 (17 + i) else -1) else -1
def A_shipper (v : eg_v) (a w : Int) : Int := if (0 ≤ a ∧ a < v 2) ∧ (0 ≤ w ∧ w ≤ 6) then gH v a w else -2000000000
def A_nomination (v : eg_v) (q w : Int) : Int := if (0 ≤ q ∧ q < v 3) ∧ (0 ≤ w ∧ w ≤ 3) then gN v q w else -2
def A_plan (v : eg_v) (q w : Int) : Int := if 0 ≤ q ∧ q < v 3 then (if w = 0 then SS v 10 q else if w = 1 then SS v 1 q else if w = 2 then sDel v q (SS v 10 q) else if w = 3 then SS v 10 q - sDel v q (SS v 10 q) else if w = 4 then gN v q 3 - SS v 10 q else -1) else -1
def A_cause (v : eg_v) (q : Int) : Int := if 0 ≤ q ∧ q < v 3 then CC v 10 q else -1
def A_tight (v : eg_v) (k : Int) : Int := if -1 ≤ k ∧ 0 < v 0 then tiN (tq v (LL v 10)) k 24 0 0 else -1
def A_flow (v : eg_v) (i d : Int) : Int := if 0 ≤ i ∧ i < segs v then gS v i 0 - (if d = 0 then LL v 10 (10 + i) else LL v 10 (17 + i)) else -1
def A_leaves (v : eg_v) (h o n : Int) : Int := if ((0 ≤ h ∧ h < v 0) ∧ (0 ≤ o ∧ o < v 0)) ∧ (0 ≤ n ∧ n ≤ 99999) then sLeft v h o n else -1
noncomputable def A_needs (v : eg_v) (h o n : Int) : Int := if ((0 ≤ h ∧ h < v 0) ∧ (0 ≤ o ∧ o < v 0)) ∧ (0 ≤ n ∧ n ≤ 99999) then sNeed v h o n else -1
def A_more (v : eg_v) (a b c d : Int) : Int := if alB v a b c d = true then (if 16 ≤ v 3 then -2 else SS (addV v a b c d) 10 (v 3)) else -1
def A_gain (v : eg_v) (q : Int) : Int := if 0 ≤ q ∧ q < v 3 then sm (SS (remV v q) 10) (v 3 - 1).toNat - (sm (SS v 10) (v 3).toNat - SS v 10 q) + 100000 else -1
def wdV (v : eg_v) (t k c : Int) : eg_v := va_up v (if t = 0 then 26 + 4 * k + 2 else 12 + 2 * k + 0).toNat c
def A_widen (v : eg_v) (t k c : Int) : Int := if ((t = 0 ∧ 0 ≤ k ∧ k < v 1) ∨ (t = 1 ∧ 0 ≤ k ∧ k < segs v)) ∧ (0 ≤ c ∧ c ≤ 9999) then sm (SS (wdV v t k c) 10) (v 3).toNat - sm (SS v 10) (v 3).toNat + 100000 else -1
def A_log (v : eg_v) (i a : Int) : Int := if (0 ≤ a ∧ a < v 2) ∧ (0 ≤ i ∧ i < 8 ∧ i < v 4) then v (172 + 6 * i + a).toNat else -2000000000
def A_fair (v : eg_v) (q : Int) : Int := if 0 ≤ q ∧ q < v 3 then fairS v q else -1
def A_cash (v : eg_v) (a w : Int) : Int := if (0 ≤ a ∧ a < v 2) ∧ (0 ≤ w ∧ w ≤ 1) then (if w = 0 then sOver v a else sDue v a) else -2000000000
def A_part (v : eg_v) (a : Int) : Int := if 0 < v 0 ∧ (a = -1 ∨ (0 ≤ a ∧ a < v 2)) then shR v (SS v 10) a else -1
def A_total (v : eg_v) (w : Int) : Int := if 0 < v 0 ∧ (0 ≤ w ∧ w ≤ 4) then (if w = 4 then sm (bkF v) (v 2).toNat else v (7 + w).toNat) else -1
def A_price (v : eg_v) (w : Int) : Int := if 0 < v 0 ∧ (0 ≤ w ∧ w ≤ 1) then (if w = 0 then v 5 else v 6) else -1
def A_count (s : eg_S) (w : Int) : Int := if w = 0 then s.1 0 else if w = 1 then s.1 1 else if w = 2 then s.1 2 else if w = 3 then s.1 3 else if w = 4 then s.1 4 else if w = 5 then (s.2.1 : Int) else if w = 6 then (s.2.2.2.2.2.1 : Int) else if w = 7 then kpB s.2.2.2.1 else -1
theorem p_point {k : eg_K} {z : eg_Z} {X : eg_M} {n : Nat} {s : eg_S} (hI : IC z s) {a b : Int} (r_a : iR a) (r_b : iR b) : eg_P k gX8_point 5 0 0 [vR k 0, vI a, vI b] n (enc k z X) (eg_p k (some (vI (A_point s.1 a b))) n X (fun z' => FC z z' ∧ IC z' s)) := by
  refine eg_P.of (by decide) (Nat.le_of_ble_eq_true rfl) ?_
  show eg_E k gX8_point 5 0 0 n (enc k z X) [vR k 0, vI a, vI b] [] 0 _
  obtain ⟨hV1, hHi, ⟨hkb, hsh⟩, hT, hTl, hTb⟩ := id hI
  have hb := isB_1
  have hp := hV1.1
  have hv := hV1.2.2.1
  have q := hv.r.2
  obtain ⟨⟨z0, z1, z2, z3⟩, ⟨c1, c3, c5, c7⟩, -⟩ := id hp
  have r_a1 := r_a.1; have r_a2 := r_a.2
  have r_b1 := r_b.1; have r_b2 := r_b.2
  refine eg_al_n dX8_point_0 rfl rfl ?_
  refine eg_get fl_X8_12 dX8_point_1 (by first | exact er0 | exact ep0 hb | exact ep1 hb | exact ep3 hb | exact ep5 hb | exact ep7 hb | exact er25 | exact er34 | exact er181 | exact er182 | exact er196 | exact er199 | exact er156 | exact ep0 isB_13 | exact ep1 isB_13 | exact ep3 isB_13 | exact ep5 isB_13 | exact ep7 isB_13 | exact er26 | exact er27 | exact er28 | exact ep9 hb | exact ep10 hb | exact ep0 (isB_shelf _ (by omega))) rfl ?_
  refine eg_get fl_X8_95 dX8_point_4 (by first | exact er0 | exact ep0 hb | exact ep1 hb | exact ep3 hb | exact ep5 hb | exact ep7 hb | exact er25 | exact er34 | exact er181 | exact er182 | exact er196 | exact er199 | exact er156 | exact ep0 isB_13 | exact ep1 isB_13 | exact ep3 isB_13 | exact ep5 isB_13 | exact ep7 isB_13 | exact er26 | exact er27 | exact er28 | exact ep9 hb | exact ep10 hb | exact ep0 (isB_shelf _ (by omega))) rfl ?_
  refine eg_iload_n dX8_point_7 rfl ?_
  refine eg_Vf1 cs_X8_121 dX8_point_8 (pt_has hb hp hv r_a) (by first | exact er0 | exact ep0 hb | exact ep1 hb | exact ep3 hb | exact ep5 hb | exact ep7 hb | exact er25 | exact er34 | exact er181 | exact er182 | exact er196 | exact er199 | exact er156 | exact ep0 isB_13 | exact ep1 isB_13 | exact ep3 isB_13 | exact ep5 isB_13 | exact ep7 isB_13 | exact er26 | exact er27 | exact er28 | exact ep9 hb | exact ep10 hb | exact ep0 (isB_shelf _ (by omega))) rfl (Nat.le_of_ble_eq_true rfl) (by decide) ?_
  refine eg_bi_ne 16 dX8_point_11 rfl (fun h11 => ?_) (fun h11 => ?_)
  · refine eg_iload_n dX8_point_16 rfl ?_
    by_cases t17_52 : b = 0 ∨ b = 1 ∨ b = 2
    · have J : eg_E k gX8_point 5 0 0 n (enc k z X) [vR k 0, vI a, vI b] [] 52 (eg_p k (some (vI (A_point s.1 a b))) n X (fun z' => FC z z' ∧ IC z' s)) := by
        refine eg_al_n dX8_point_52 rfl rfl ?_
        refine eg_get fl_X8_12 dX8_point_53 (by first | exact er0 | exact ep0 hb | exact ep1 hb | exact ep3 hb | exact ep5 hb | exact ep7 hb | exact er25 | exact er34 | exact er181 | exact er182 | exact er196 | exact er199 | exact er156 | exact ep0 isB_13 | exact ep1 isB_13 | exact ep3 isB_13 | exact ep5 isB_13 | exact ep7 isB_13 | exact er26 | exact er27 | exact er28 | exact ep9 hb | exact ep10 hb | exact ep0 (isB_shelf _ (by omega))) rfl ?_
        refine eg_get fl_X8_95 dX8_point_56 (by first | exact er0 | exact ep0 hb | exact ep1 hb | exact ep3 hb | exact ep5 hb | exact ep7 hb | exact er25 | exact er34 | exact er181 | exact er182 | exact er196 | exact er199 | exact er156 | exact ep0 isB_13 | exact ep1 isB_13 | exact ep3 isB_13 | exact ep5 isB_13 | exact ep7 isB_13 | exact er26 | exact er27 | exact er28 | exact ep9 hb | exact ep10 hb | exact ep0 (isB_shelf _ (by omega))) rfl ?_
        refine eg_iload_n dX8_point_59 rfl ?_
        refine eg_iload_n dX8_point_60 rfl ?_
        refine eg_Vf2 cs_X8_125 dX8_point_61 (pt_at hb hp hv (by omega) (by omega) (by omega) (by omega)) (by first | exact er0 | exact ep0 hb | exact ep1 hb | exact ep3 hb | exact ep5 hb | exact ep7 hb | exact er25 | exact er34 | exact er181 | exact er182 | exact er196 | exact er199 | exact er156 | exact ep0 isB_13 | exact ep1 isB_13 | exact ep3 isB_13 | exact ep5 isB_13 | exact ep7 isB_13 | exact er26 | exact er27 | exact er28 | exact ep9 hb | exact ep10 hb | exact ep0 (isB_shelf _ (by omega))) rfl (Nat.le_of_ble_eq_true rfl) (by decide) ?_
        refine eg_ireturn dX8_point_64 rfl rfl ?_
        refine ⟨congrArg (fun q => some (vI q)) ?_, rfl, z, rfl, (Fr.rf).fc, (Fr.rf).ic hI⟩
        unfold A_point; (repeat (first | rw [if_pos (by first | assumption | omega)] | rw [if_neg (by first | assumption | omega)]))
      rcases t17_52 with hq | hq | hq
      · exact eg_tbI 52 dX8_point_17 ⟨by omega, by omega⟩ (by omega) (by omega) (by rw [hq]; rfl) rfl J
      · exact eg_tbI 52 dX8_point_17 ⟨by omega, by omega⟩ (by omega) (by omega) (by rw [hq]; rfl) rfl J
      · exact eg_tbI 52 dX8_point_17 ⟨by omega, by omega⟩ (by omega) (by omega) (by rw [hq]; rfl) rfl J
    by_cases t17_65 : b = 3
    · refine eg_tbI 65 dX8_point_17 ⟨by omega, by omega⟩ (by omega) (by omega) (by rw [t17_65]; rfl) rfl ?_
      refine eg_al_n dX8_point_65 rfl rfl ?_
      refine eg_get fl_X8_12 dX8_point_66 (by first | exact er0 | exact ep0 hb | exact ep1 hb | exact ep3 hb | exact ep5 hb | exact ep7 hb | exact er25 | exact er34 | exact er181 | exact er182 | exact er196 | exact er199 | exact er156 | exact ep0 isB_13 | exact ep1 isB_13 | exact ep3 isB_13 | exact ep5 isB_13 | exact ep7 isB_13 | exact er26 | exact er27 | exact er28 | exact ep9 hb | exact ep10 hb | exact ep0 (isB_shelf _ (by omega))) rfl ?_
      refine eg_get fl_X8_95 dX8_point_69 (by first | exact er0 | exact ep0 hb | exact ep1 hb | exact ep3 hb | exact ep5 hb | exact ep7 hb | exact er25 | exact er34 | exact er181 | exact er182 | exact er196 | exact er199 | exact er156 | exact ep0 isB_13 | exact ep1 isB_13 | exact ep3 isB_13 | exact ep5 isB_13 | exact ep7 isB_13 | exact er26 | exact er27 | exact er28 | exact ep9 hb | exact ep10 hb | exact ep0 (isB_shelf _ (by omega))) rfl ?_
      refine eg_iload_n dX8_point_72 rfl ?_
      refine eg_iconst dX8_point_73 ?_
      refine eg_Vf2 cs_X8_125 dX8_point_74 (pt_at hb hp hv (by omega) (by omega) (by omega) (by omega)) (by first | exact er0 | exact ep0 hb | exact ep1 hb | exact ep3 hb | exact ep5 hb | exact ep7 hb | exact er25 | exact er34 | exact er181 | exact er182 | exact er196 | exact er199 | exact er156 | exact ep0 isB_13 | exact ep1 isB_13 | exact ep3 isB_13 | exact ep5 isB_13 | exact ep7 isB_13 | exact er26 | exact er27 | exact er28 | exact ep9 hb | exact ep10 hb | exact ep0 (isB_shelf _ (by omega))) rfl (Nat.le_of_ble_eq_true rfl) (by decide) ?_
      refine eg_bipush dX8_point_77 (by decide) ?_
      refine eg_iadd dX8_point_79 ?_
      refine eg_ireturn dX8_point_80 rfl rfl ?_
      refine ⟨congrArg (fun q => some (vI q)) ?_, rfl, z, rfl, (Fr.rf).fc, (Fr.rf).ic hI⟩
      unfold A_point; (repeat (first | rw [if_pos (by first | assumption | omega)] | rw [if_neg (by first | assumption | omega)]))
    by_cases t17_81 : b = 4
    · refine eg_tbI 81 dX8_point_17 ⟨by omega, by omega⟩ (by omega) (by omega) (by rw [t17_81]; rfl) rfl ?_
      refine eg_al_n dX8_point_81 rfl rfl ?_
      refine eg_get fl_X8_22 dX8_point_82 (by first | exact er0 | exact ep0 hb | exact ep1 hb | exact ep3 hb | exact ep5 hb | exact ep7 hb | exact er25 | exact er34 | exact er181 | exact er182 | exact er196 | exact er199 | exact er156 | exact ep0 isB_13 | exact ep1 isB_13 | exact ep3 isB_13 | exact ep5 isB_13 | exact ep7 isB_13 | exact er26 | exact er27 | exact er28 | exact ep9 hb | exact ep10 hb | exact ep0 (isB_shelf _ (by omega))) rfl ?_
      refine eg_al_n dX8_point_85 rfl rfl ?_
      refine eg_get fl_X8_12 dX8_point_86 (by first | exact er0 | exact ep0 hb | exact ep1 hb | exact ep3 hb | exact ep5 hb | exact ep7 hb | exact er25 | exact er34 | exact er181 | exact er182 | exact er196 | exact er199 | exact er156 | exact ep0 isB_13 | exact ep1 isB_13 | exact ep3 isB_13 | exact ep5 isB_13 | exact ep7 isB_13 | exact er26 | exact er27 | exact er28 | exact ep9 hb | exact ep10 hb | exact ep0 (isB_shelf _ (by omega))) rfl ?_
      refine eg_Vpv1 cs_X8_198 dX8_point_89 (c_X4_make hb hp hv hV1.2.2.2.1) (by first | exact er0 | exact ep0 hb | exact ep1 hb | exact ep3 hb | exact ep5 hb | exact ep7 hb | exact er25 | exact er34 | exact er181 | exact er182 | exact er196 | exact er199 | exact er156 | exact ep0 isB_13 | exact ep1 isB_13 | exact ep3 isB_13 | exact ep5 isB_13 | exact ep7 isB_13 | exact er26 | exact er27 | exact er28 | exact ep9 hb | exact ep10 hb | exact ep0 (isB_shelf _ (by omega))) rfl (Nat.le_of_ble_eq_true rfl) (by decide) ?_
      rintro y1 ⟨m1, s1, f1⟩
      have f9 : Fr z y1 := Fr.s m1
      have hp1 := m1.hP hb hp
      refine eg_al_n dX8_point_92 rfl rfl ?_
      refine eg_get fl_X8_22 dX8_point_93 (by first | exact er0 | exact ep0 hb | exact ep1 hb | exact ep3 hb | exact ep5 hb | exact ep7 hb | exact er25 | exact er34 | exact er181 | exact er182 | exact er196 | exact er199 | exact er156 | exact ep0 isB_13 | exact ep1 isB_13 | exact ep3 isB_13 | exact ep5 isB_13 | exact ep7 isB_13 | exact er26 | exact er27 | exact er28 | exact ep9 hb | exact ep10 hb | exact ep0 (isB_shelf _ (by omega))) rfl ?_
      refine eg_al_n dX8_point_96 rfl rfl ?_
      refine eg_get fl_X8_12 dX8_point_97 (by first | exact er0 | exact ep0 hb | exact ep1 hb | exact ep3 hb | exact ep5 hb | exact ep7 hb | exact er25 | exact er34 | exact er181 | exact er182 | exact er196 | exact er199 | exact er156 | exact ep0 isB_13 | exact ep1 isB_13 | exact ep3 isB_13 | exact ep5 isB_13 | exact ep7 isB_13 | exact er26 | exact er27 | exact er28 | exact ep9 hb | exact ep10 hb | exact ep0 (isB_shelf _ (by omega))) rfl ?_
      refine eg_iload_n dX8_point_100 rfl ?_
      refine eg_Vf2 cs_X8_201 dX8_point_101 (c_X4_leftAtPoint hb hp1 hv (by omega) (by omega)) (by first | exact er0 | exact ep0 hb | exact ep1 hb | exact ep3 hb | exact ep5 hb | exact ep7 hb | exact er25 | exact er34 | exact er181 | exact er182 | exact er196 | exact er199 | exact er156 | exact ep0 isB_13 | exact ep1 isB_13 | exact ep3 isB_13 | exact ep5 isB_13 | exact ep7 isB_13 | exact er26 | exact er27 | exact er28 | exact ep9 hb | exact ep10 hb | exact ep0 (isB_shelf _ (by omega))) rfl (Nat.le_of_ble_eq_true rfl) (by decide) ?_
      refine eg_ireturn dX8_point_104 rfl rfl ?_
      have sq := stQ_b (v := s.1) (p := a) (by omega) (by omega)
      refine ⟨congrArg (fun q => some (vI q)) ?_, rfl, y1, rfl, (f9).fc, (f9).ic hI⟩
      unfold A_point; rw [LLi s1 sq.1 sq.2]; (repeat (first | rw [if_pos (by first | assumption | omega)] | rw [if_neg (by first | assumption | omega)]))
    refine eg_tbO 105 dX8_point_17 ⟨by omega, by omega⟩ (by omega) rfl ?_
    refine eg_iconst dX8_point_105 ?_
    refine eg_ireturn dX8_point_106 rfl rfl ?_
    refine ⟨congrArg (fun q => some (vI q)) ?_, rfl, z, rfl, (Fr.rf).fc, (Fr.rf).ic hI⟩
    unfold A_point; (repeat (first | rw [if_pos (by first | assumption | omega)] | rw [if_neg (by first | assumption | omega)]))
  · refine eg_iconst dX8_point_14 ?_
    refine eg_ireturn dX8_point_15 rfl rfl ?_
    refine ⟨congrArg (fun q => some (vI q)) ?_, rfl, z, rfl, (Fr.rf).fc, (Fr.rf).ic hI⟩
    unfold A_point; (repeat (first | rw [if_pos (by first | assumption | omega)] | rw [if_neg (by first | assumption | omega)]))
theorem p_segment {k : eg_K} {z : eg_Z} {X : eg_M} {n : Nat} {s : eg_S} (hI : IC z s) {a b : Int} (r_a : iR a) (r_b : iR b) : eg_P k gX8_segment 5 0 0 [vR k 0, vI a, vI b] n (enc k z X) (eg_p k (some (vI (A_segment s.1 a b))) n X (fun z' => FC z z' ∧ IC z' s)) := by
  refine eg_P.of (by decide) (Nat.le_of_ble_eq_true rfl) ?_
  show eg_E k gX8_segment 5 0 0 n (enc k z X) [vR k 0, vI a, vI b] [] 0 _
  obtain ⟨hV1, hHi, ⟨hkb, hsh⟩, hT, hTl, hTb⟩ := id hI
  have hb := isB_1
  have hp := hV1.1
  have hv := hV1.2.2.1
  have q := hv.r.2
  obtain ⟨⟨z0, z1, z2, z3⟩, ⟨c1, c3, c5, c7⟩, -⟩ := id hp
  have r_a1 := r_a.1; have r_a2 := r_a.2
  have r_b1 := r_b.1; have r_b2 := r_b.2
  refine eg_al_n dX8_segment_0 rfl rfl ?_
  refine eg_get fl_X8_12 dX8_segment_1 (by first | exact er0 | exact ep0 hb | exact ep1 hb | exact ep3 hb | exact ep5 hb | exact ep7 hb | exact er25 | exact er34 | exact er181 | exact er182 | exact er196 | exact er199 | exact er156 | exact ep0 isB_13 | exact ep1 isB_13 | exact ep3 isB_13 | exact ep5 isB_13 | exact ep7 isB_13 | exact er26 | exact er27 | exact er28 | exact ep9 hb | exact ep10 hb | exact ep0 (isB_shelf _ (by omega))) rfl ?_
  refine eg_get fl_X8_205 dX8_segment_4 (by first | exact er0 | exact ep0 hb | exact ep1 hb | exact ep3 hb | exact ep5 hb | exact ep7 hb | exact er25 | exact er34 | exact er181 | exact er182 | exact er196 | exact er199 | exact er156 | exact ep0 isB_13 | exact ep1 isB_13 | exact ep3 isB_13 | exact ep5 isB_13 | exact ep7 isB_13 | exact er26 | exact er27 | exact er28 | exact ep9 hb | exact ep10 hb | exact ep0 (isB_shelf _ (by omega))) rfl ?_
  refine eg_iload_n dX8_segment_7 rfl ?_
  refine eg_Vf1 cs_X8_121 dX8_segment_8 (sg_has hb hp hv r_a) (by first | exact er0 | exact ep0 hb | exact ep1 hb | exact ep3 hb | exact ep5 hb | exact ep7 hb | exact er25 | exact er34 | exact er181 | exact er182 | exact er196 | exact er199 | exact er156 | exact ep0 isB_13 | exact ep1 isB_13 | exact ep3 isB_13 | exact ep5 isB_13 | exact ep7 isB_13 | exact er26 | exact er27 | exact er28 | exact ep9 hb | exact ep10 hb | exact ep0 (isB_shelf _ (by omega))) rfl (Nat.le_of_ble_eq_true rfl) (by decide) ?_
  refine eg_bi_ne 16 dX8_segment_11 rfl (fun h11 => ?_) (fun h11 => ?_)
  · refine eg_iload_n dX8_segment_16 rfl ?_
    by_cases t17_48 : b = 0 ∨ b = 1
    · have J : eg_E k gX8_segment 5 0 0 n (enc k z X) [vR k 0, vI a, vI b] [] 48 (eg_p k (some (vI (A_segment s.1 a b))) n X (fun z' => FC z z' ∧ IC z' s)) := by
        refine eg_al_n dX8_segment_48 rfl rfl ?_
        refine eg_get fl_X8_12 dX8_segment_49 (by first | exact er0 | exact ep0 hb | exact ep1 hb | exact ep3 hb | exact ep5 hb | exact ep7 hb | exact er25 | exact er34 | exact er181 | exact er182 | exact er196 | exact er199 | exact er156 | exact ep0 isB_13 | exact ep1 isB_13 | exact ep3 isB_13 | exact ep5 isB_13 | exact ep7 isB_13 | exact er26 | exact er27 | exact er28 | exact ep9 hb | exact ep10 hb | exact ep0 (isB_shelf _ (by omega))) rfl ?_
        refine eg_get fl_X8_205 dX8_segment_52 (by first | exact er0 | exact ep0 hb | exact ep1 hb | exact ep3 hb | exact ep5 hb | exact ep7 hb | exact er25 | exact er34 | exact er181 | exact er182 | exact er196 | exact er199 | exact er156 | exact ep0 isB_13 | exact ep1 isB_13 | exact ep3 isB_13 | exact ep5 isB_13 | exact ep7 isB_13 | exact er26 | exact er27 | exact er28 | exact ep9 hb | exact ep10 hb | exact ep0 (isB_shelf _ (by omega))) rfl ?_
        refine eg_iload_n dX8_segment_55 rfl ?_
        refine eg_iload_n dX8_segment_56 rfl ?_
        refine eg_Vf2 cs_X8_125 dX8_segment_57 (sg_at hb hp hv (by omega) (by omega) (by omega) (by omega)) (by first | exact er0 | exact ep0 hb | exact ep1 hb | exact ep3 hb | exact ep5 hb | exact ep7 hb | exact er25 | exact er34 | exact er181 | exact er182 | exact er196 | exact er199 | exact er156 | exact ep0 isB_13 | exact ep1 isB_13 | exact ep3 isB_13 | exact ep5 isB_13 | exact ep7 isB_13 | exact er26 | exact er27 | exact er28 | exact ep9 hb | exact ep10 hb | exact ep0 (isB_shelf _ (by omega))) rfl (Nat.le_of_ble_eq_true rfl) (by decide) ?_
        refine eg_ireturn dX8_segment_60 rfl rfl ?_
        refine ⟨congrArg (fun q => some (vI q)) ?_, rfl, z, rfl, (Fr.rf).fc, (Fr.rf).ic hI⟩
        unfold A_segment; (repeat (first | rw [if_pos (by first | assumption | omega)] | rw [if_neg (by first | assumption | omega)]))
      rcases t17_48 with hq | hq
      · exact eg_tbI 48 dX8_segment_17 ⟨by omega, by omega⟩ (by omega) (by omega) (by rw [hq]; rfl) rfl J
      · exact eg_tbI 48 dX8_segment_17 ⟨by omega, by omega⟩ (by omega) (by omega) (by rw [hq]; rfl) rfl J
    by_cases t17_61 : b = 2
    · refine eg_tbI 61 dX8_segment_17 ⟨by omega, by omega⟩ (by omega) (by omega) (by rw [t17_61]; rfl) rfl ?_
      refine eg_al_n dX8_segment_61 rfl rfl ?_
      refine eg_get fl_X8_22 dX8_segment_62 (by first | exact er0 | exact ep0 hb | exact ep1 hb | exact ep3 hb | exact ep5 hb | exact ep7 hb | exact er25 | exact er34 | exact er181 | exact er182 | exact er196 | exact er199 | exact er156 | exact ep0 isB_13 | exact ep1 isB_13 | exact ep3 isB_13 | exact ep5 isB_13 | exact ep7 isB_13 | exact er26 | exact er27 | exact er28 | exact ep9 hb | exact ep10 hb | exact ep0 (isB_shelf _ (by omega))) rfl ?_
      refine eg_al_n dX8_segment_65 rfl rfl ?_
      refine eg_get fl_X8_12 dX8_segment_66 (by first | exact er0 | exact ep0 hb | exact ep1 hb | exact ep3 hb | exact ep5 hb | exact ep7 hb | exact er25 | exact er34 | exact er181 | exact er182 | exact er196 | exact er199 | exact er156 | exact ep0 isB_13 | exact ep1 isB_13 | exact ep3 isB_13 | exact ep5 isB_13 | exact ep7 isB_13 | exact er26 | exact er27 | exact er28 | exact ep9 hb | exact ep10 hb | exact ep0 (isB_shelf _ (by omega))) rfl ?_
      refine eg_Vpv1 cs_X8_198 dX8_segment_69 (c_X4_make hb hp hv hV1.2.2.2.1) (by first | exact er0 | exact ep0 hb | exact ep1 hb | exact ep3 hb | exact ep5 hb | exact ep7 hb | exact er25 | exact er34 | exact er181 | exact er182 | exact er196 | exact er199 | exact er156 | exact ep0 isB_13 | exact ep1 isB_13 | exact ep3 isB_13 | exact ep5 isB_13 | exact ep7 isB_13 | exact er26 | exact er27 | exact er28 | exact ep9 hb | exact ep10 hb | exact ep0 (isB_shelf _ (by omega))) rfl (Nat.le_of_ble_eq_true rfl) (by decide) ?_
      rintro y1 ⟨m1, s1, f1⟩
      have f9 : Fr z y1 := Fr.s m1
      have hp1 := m1.hP hb hp
      refine eg_al_n dX8_segment_72 rfl rfl ?_
      refine eg_get fl_X8_22 dX8_segment_73 (by first | exact er0 | exact ep0 hb | exact ep1 hb | exact ep3 hb | exact ep5 hb | exact ep7 hb | exact er25 | exact er34 | exact er181 | exact er182 | exact er196 | exact er199 | exact er156 | exact ep0 isB_13 | exact ep1 isB_13 | exact ep3 isB_13 | exact ep5 isB_13 | exact ep7 isB_13 | exact er26 | exact er27 | exact er28 | exact ep9 hb | exact ep10 hb | exact ep0 (isB_shelf _ (by omega))) rfl ?_
      refine eg_iload_n dX8_segment_76 rfl ?_
      refine eg_Vf1 cs_X8_208 dX8_segment_77 (c_X4_leftUp (by omega) (by omega)) (by first | exact er0 | exact ep0 hb | exact ep1 hb | exact ep3 hb | exact ep5 hb | exact ep7 hb | exact er25 | exact er34 | exact er181 | exact er182 | exact er196 | exact er199 | exact er156 | exact ep0 isB_13 | exact ep1 isB_13 | exact ep3 isB_13 | exact ep5 isB_13 | exact ep7 isB_13 | exact er26 | exact er27 | exact er28 | exact ep9 hb | exact ep10 hb | exact ep0 (isB_shelf _ (by omega))) rfl (Nat.le_of_ble_eq_true rfl) (by decide) ?_
      refine eg_ireturn dX8_segment_80 rfl rfl ?_
      refine ⟨congrArg (fun q => some (vI q)) ?_, rfl, y1, rfl, (f9).fc, (f9).ic hI⟩
      unfold A_segment; rw [LLi s1 (by omega) (by omega)]; (repeat (first | rw [if_pos (by first | assumption | omega)] | rw [if_neg (by first | assumption | omega)]))
    by_cases t17_81 : b = 3
    · refine eg_tbI 81 dX8_segment_17 ⟨by omega, by omega⟩ (by omega) (by omega) (by rw [t17_81]; rfl) rfl ?_
      refine eg_al_n dX8_segment_81 rfl rfl ?_
      refine eg_get fl_X8_22 dX8_segment_82 (by first | exact er0 | exact ep0 hb | exact ep1 hb | exact ep3 hb | exact ep5 hb | exact ep7 hb | exact er25 | exact er34 | exact er181 | exact er182 | exact er196 | exact er199 | exact er156 | exact ep0 isB_13 | exact ep1 isB_13 | exact ep3 isB_13 | exact ep5 isB_13 | exact ep7 isB_13 | exact er26 | exact er27 | exact er28 | exact ep9 hb | exact ep10 hb | exact ep0 (isB_shelf _ (by omega))) rfl ?_
      refine eg_al_n dX8_segment_85 rfl rfl ?_
      refine eg_get fl_X8_12 dX8_segment_86 (by first | exact er0 | exact ep0 hb | exact ep1 hb | exact ep3 hb | exact ep5 hb | exact ep7 hb | exact er25 | exact er34 | exact er181 | exact er182 | exact er196 | exact er199 | exact er156 | exact ep0 isB_13 | exact ep1 isB_13 | exact ep3 isB_13 | exact ep5 isB_13 | exact ep7 isB_13 | exact er26 | exact er27 | exact er28 | exact ep9 hb | exact ep10 hb | exact ep0 (isB_shelf _ (by omega))) rfl ?_
      refine eg_Vpv1 cs_X8_198 dX8_segment_89 (c_X4_make hb hp hv hV1.2.2.2.1) (by first | exact er0 | exact ep0 hb | exact ep1 hb | exact ep3 hb | exact ep5 hb | exact ep7 hb | exact er25 | exact er34 | exact er181 | exact er182 | exact er196 | exact er199 | exact er156 | exact ep0 isB_13 | exact ep1 isB_13 | exact ep3 isB_13 | exact ep5 isB_13 | exact ep7 isB_13 | exact er26 | exact er27 | exact er28 | exact ep9 hb | exact ep10 hb | exact ep0 (isB_shelf _ (by omega))) rfl (Nat.le_of_ble_eq_true rfl) (by decide) ?_
      rintro y1 ⟨m1, s1, f1⟩
      have f9 : Fr z y1 := Fr.s m1
      have hp1 := m1.hP hb hp
      refine eg_al_n dX8_segment_92 rfl rfl ?_
      refine eg_get fl_X8_22 dX8_segment_93 (by first | exact er0 | exact ep0 hb | exact ep1 hb | exact ep3 hb | exact ep5 hb | exact ep7 hb | exact er25 | exact er34 | exact er181 | exact er182 | exact er196 | exact er199 | exact er156 | exact ep0 isB_13 | exact ep1 isB_13 | exact ep3 isB_13 | exact ep5 isB_13 | exact ep7 isB_13 | exact er26 | exact er27 | exact er28 | exact ep9 hb | exact ep10 hb | exact ep0 (isB_shelf _ (by omega))) rfl ?_
      refine eg_iload_n dX8_segment_96 rfl ?_
      refine eg_Vf1 cs_X8_211 dX8_segment_97 (c_X4_leftDown (by omega) (by omega)) (by first | exact er0 | exact ep0 hb | exact ep1 hb | exact ep3 hb | exact ep5 hb | exact ep7 hb | exact er25 | exact er34 | exact er181 | exact er182 | exact er196 | exact er199 | exact er156 | exact ep0 isB_13 | exact ep1 isB_13 | exact ep3 isB_13 | exact ep5 isB_13 | exact ep7 isB_13 | exact er26 | exact er27 | exact er28 | exact ep9 hb | exact ep10 hb | exact ep0 (isB_shelf _ (by omega))) rfl (Nat.le_of_ble_eq_true rfl) (by decide) ?_
      refine eg_ireturn dX8_segment_100 rfl rfl ?_
      refine ⟨congrArg (fun q => some (vI q)) ?_, rfl, y1, rfl, (f9).fc, (f9).ic hI⟩
      unfold A_segment; rw [LLi s1 (by omega) (by omega)]; (repeat (first | rw [if_pos (by first | assumption | omega)] | rw [if_neg (by first | assumption | omega)]))
    refine eg_tbO 101 dX8_segment_17 ⟨by omega, by omega⟩ (by omega) rfl ?_
    refine eg_iconst dX8_segment_101 ?_
    refine eg_ireturn dX8_segment_102 rfl rfl ?_
    refine ⟨congrArg (fun q => some (vI q)) ?_, rfl, z, rfl, (Fr.rf).fc, (Fr.rf).ic hI⟩
    unfold A_segment; (repeat (first | rw [if_pos (by first | assumption | omega)] | rw [if_neg (by first | assumption | omega)]))
  · refine eg_iconst dX8_segment_14 ?_
    refine eg_ireturn dX8_segment_15 rfl rfl ?_
    refine ⟨congrArg (fun q => some (vI q)) ?_, rfl, z, rfl, (Fr.rf).fc, (Fr.rf).ic hI⟩
    unfold A_segment; (repeat (first | rw [if_pos (by first | assumption | omega)] | rw [if_neg (by first | assumption | omega)]))
theorem p_shipper {k : eg_K} {z : eg_Z} {X : eg_M} {n : Nat} {s : eg_S} (hI : IC z s) {a b : Int} (r_a : iR a) (r_b : iR b) : eg_P k gX8_shipper 1 0 0 [vR k 0, vI a, vI b] n (enc k z X) (eg_p k (some (vL (A_shipper s.1 a b))) n X (fun z' => FC z z' ∧ IC z' s)) := by
  refine eg_P.of (by decide) (Nat.le_of_ble_eq_true rfl) ?_
  show eg_E k gX8_shipper 1 0 0 n (enc k z X) [vR k 0, vI a, vI b] [] 0 _
  obtain ⟨hV1, hHi, ⟨hkb, hsh⟩, hT, hTl, hTb⟩ := id hI
  have hb := isB_1
  have hp := hV1.1
  have hv := hV1.2.2.1
  have q := hv.r.2
  obtain ⟨⟨z0, z1, z2, z3⟩, ⟨c1, c3, c5, c7⟩, -⟩ := id hp
  have r_a1 := r_a.1; have r_a2 := r_a.2
  have r_b1 := r_b.1; have r_b2 := r_b.2
  refine eg_al_n dX8_shipper_0 rfl rfl ?_
  refine eg_get fl_X8_12 dX8_shipper_1 (by first | exact er0 | exact ep0 hb | exact ep1 hb | exact ep3 hb | exact ep5 hb | exact ep7 hb | exact er25 | exact er34 | exact er181 | exact er182 | exact er196 | exact er199 | exact er156 | exact ep0 isB_13 | exact ep1 isB_13 | exact ep3 isB_13 | exact ep5 isB_13 | exact ep7 isB_13 | exact er26 | exact er27 | exact er28 | exact ep9 hb | exact ep10 hb | exact ep0 (isB_shelf _ (by omega))) rfl ?_
  refine eg_get fl_X8_146 dX8_shipper_4 (by first | exact er0 | exact ep0 hb | exact ep1 hb | exact ep3 hb | exact ep5 hb | exact ep7 hb | exact er25 | exact er34 | exact er181 | exact er182 | exact er196 | exact er199 | exact er156 | exact ep0 isB_13 | exact ep1 isB_13 | exact ep3 isB_13 | exact ep5 isB_13 | exact ep7 isB_13 | exact er26 | exact er27 | exact er28 | exact ep9 hb | exact ep10 hb | exact ep0 (isB_shelf _ (by omega))) rfl ?_
  refine eg_iload_n dX8_shipper_7 rfl ?_
  refine eg_Vf1 cs_X8_121 dX8_shipper_8 (sh_has hb hp hv r_a) (by first | exact er0 | exact ep0 hb | exact ep1 hb | exact ep3 hb | exact ep5 hb | exact ep7 hb | exact er25 | exact er34 | exact er181 | exact er182 | exact er196 | exact er199 | exact er156 | exact ep0 isB_13 | exact ep1 isB_13 | exact ep3 isB_13 | exact ep5 isB_13 | exact ep7 isB_13 | exact er26 | exact er27 | exact er28 | exact ep9 hb | exact ep10 hb | exact ep0 (isB_shelf _ (by omega))) rfl (Nat.le_of_ble_eq_true rfl) (by decide) ?_
  refine eg_bi_eq 24 dX8_shipper_11 rfl (fun h11 => ?_) (fun h11 => ?_)
  · refine eg_ldc2 kw_X8_214 dX8_shipper_24 ?_
    refine eg_lreturn dX8_shipper_27 rfl ?_
    refine ⟨congrArg (fun q => some (vL q)) ?_, rfl, z, rfl, (Fr.rf).fc, (Fr.rf).ic hI⟩
    unfold A_shipper; (repeat (first | rw [if_pos (by first | assumption | omega)] | rw [if_neg (by first | assumption | omega)]))
  · refine eg_iload_n dX8_shipper_14 rfl ?_
    refine eg_iconst dX8_shipper_15 ?_
    refine eg_bipush dX8_shipper_16 (by decide) ?_
    refine eg_Sf3 cs_X8_79 dX8_shipper_18 (c_X8_within ⟨by omega, by omega⟩ ⟨by omega, by omega⟩ ⟨by omega, by omega⟩) (Nat.le_of_ble_eq_true rfl) (by decide) ?_
    refine eg_bi_ne 28 dX8_shipper_21 rfl (fun h21 => ?_) (fun h21 => ?_)
    · refine eg_iload_n dX8_shipper_28 rfl ?_
      refine eg_bipush dX8_shipper_29 (by decide) ?_
      refine eg_icmp_ne 44 dX8_shipper_31 ⟨by omega, by omega⟩ ⟨by omega, by omega⟩ rfl (fun h31 => ?_) (fun h31 => ?_)
      · refine eg_al_n dX8_shipper_44 rfl rfl ?_
        refine eg_get fl_X8_12 dX8_shipper_45 (by first | exact er0 | exact ep0 hb | exact ep1 hb | exact ep3 hb | exact ep5 hb | exact ep7 hb | exact er25 | exact er34 | exact er181 | exact er182 | exact er196 | exact er199 | exact er156 | exact ep0 isB_13 | exact ep1 isB_13 | exact ep3 isB_13 | exact ep5 isB_13 | exact ep7 isB_13 | exact er26 | exact er27 | exact er28 | exact ep9 hb | exact ep10 hb | exact ep0 (isB_shelf _ (by omega))) rfl ?_
        refine eg_get fl_X8_146 dX8_shipper_48 (by first | exact er0 | exact ep0 hb | exact ep1 hb | exact ep3 hb | exact ep5 hb | exact ep7 hb | exact er25 | exact er34 | exact er181 | exact er182 | exact er196 | exact er199 | exact er156 | exact ep0 isB_13 | exact ep1 isB_13 | exact ep3 isB_13 | exact ep5 isB_13 | exact ep7 isB_13 | exact er26 | exact er27 | exact er28 | exact ep9 hb | exact ep10 hb | exact ep0 (isB_shelf _ (by omega))) rfl ?_
        refine eg_iload_n dX8_shipper_51 rfl ?_
        refine eg_iload_n dX8_shipper_52 rfl ?_
        refine eg_Vf2 cs_X8_125 dX8_shipper_53 (sh_at hb hp hv (by omega) (by omega) (by omega) (by omega)) (by first | exact er0 | exact ep0 hb | exact ep1 hb | exact ep3 hb | exact ep5 hb | exact ep7 hb | exact er25 | exact er34 | exact er181 | exact er182 | exact er196 | exact er199 | exact er156 | exact ep0 isB_13 | exact ep1 isB_13 | exact ep3 isB_13 | exact ep5 isB_13 | exact ep7 isB_13 | exact er26 | exact er27 | exact er28 | exact ep9 hb | exact ep10 hb | exact ep0 (isB_shelf _ (by omega))) rfl (Nat.le_of_ble_eq_true rfl) (by decide) ?_
        have o1 := hv.H (s := a) (by omega) (by omega); unfold okH at o1
        have gb : -2147483648 ≤ gH s.1 a b ∧ gH s.1 a b ≤ 2147483647 := by
          rcases (show b = 0 ∨ b = 1 ∨ b = 2 ∨ b = 3 ∨ b = 4 ∨ b = 5 by omega) with rfl | rfl | rfl | rfl | rfl | rfl <;> omega
        refine eg_i2l dX8_shipper_56 ⟨by omega, by omega⟩ ?_
        refine eg_lreturn dX8_shipper_57 rfl ?_
        refine ⟨congrArg (fun q => some (vL q)) ?_, rfl, z, rfl, (Fr.rf).fc, (Fr.rf).ic hI⟩
        unfold A_shipper; (repeat (first | rw [if_pos (by first | assumption | omega)] | rw [if_neg (by first | assumption | omega)]))
      · refine eg_al_n dX8_shipper_34 rfl rfl ?_
        refine eg_get fl_X8_12 dX8_shipper_35 (by first | exact er0 | exact ep0 hb | exact ep1 hb | exact ep3 hb | exact ep5 hb | exact ep7 hb | exact er25 | exact er34 | exact er181 | exact er182 | exact er196 | exact er199 | exact er156 | exact ep0 isB_13 | exact ep1 isB_13 | exact ep3 isB_13 | exact ep5 isB_13 | exact ep7 isB_13 | exact er26 | exact er27 | exact er28 | exact ep9 hb | exact ep10 hb | exact ep0 (isB_shelf _ (by omega))) rfl ?_
        refine eg_get fl_X8_216 dX8_shipper_38 (by first | exact er0 | exact ep0 hb | exact ep1 hb | exact ep3 hb | exact ep5 hb | exact ep7 hb | exact er25 | exact er34 | exact er181 | exact er182 | exact er196 | exact er199 | exact er156 | exact ep0 isB_13 | exact ep1 isB_13 | exact ep3 isB_13 | exact ep5 isB_13 | exact ep7 isB_13 | exact er26 | exact er27 | exact er28 | exact ep9 hb | exact ep10 hb | exact ep0 (isB_shelf _ (by omega))) rfl ?_
        refine eg_iload_n dX8_shipper_41 rfl ?_
        refine eg_lald dX8_shipper_42 (by first | exact er0 | exact ep0 hb | exact ep1 hb | exact ep3 hb | exact ep5 hb | exact ep7 hb | exact er25 | exact er34 | exact er181 | exact er182 | exact er196 | exact er199 | exact er156 | exact ep0 isB_13 | exact ep1 isB_13 | exact ep3 isB_13 | exact ep5 isB_13 | exact ep7 isB_13 | exact er26 | exact er27 | exact er28 | exact ep9 hb | exact ep10 hb | exact ep0 (isB_shelf _ (by omega))) (by omega) (by omega) (by decide) ?_
        refine eg_lreturn dX8_shipper_43 rfl ?_
        rw [hp.2.2.2.2.2.1 a (by omega) (by omega)]
        refine ⟨congrArg (fun q => some (vL q)) ?_, rfl, z, rfl, (Fr.rf).fc, (Fr.rf).ic hI⟩
        unfold A_shipper; rw [if_pos (by omega), show b = 6 by omega]
    · refine eg_ldc2 kw_X8_214 dX8_shipper_24 ?_
      refine eg_lreturn dX8_shipper_27 rfl ?_
      refine ⟨congrArg (fun q => some (vL q)) ?_, rfl, z, rfl, (Fr.rf).fc, (Fr.rf).ic hI⟩
      unfold A_shipper; (repeat (first | rw [if_pos (by first | assumption | omega)] | rw [if_neg (by first | assumption | omega)]))
theorem p_nomination {k : eg_K} {z : eg_Z} {X : eg_M} {n : Nat} {s : eg_S} (hI : IC z s) {a b : Int} (r_a : iR a) (r_b : iR b) : eg_P k gX8_nomination 1 0 0 [vR k 0, vI a, vI b] n (enc k z X) (eg_p k (some (vI (A_nomination s.1 a b))) n X (fun z' => FC z z' ∧ IC z' s)) := by
  refine eg_P.of (by decide) (Nat.le_of_ble_eq_true rfl) ?_
  show eg_E k gX8_nomination 1 0 0 n (enc k z X) [vR k 0, vI a, vI b] [] 0 _
  obtain ⟨hV1, hHi, ⟨hkb, hsh⟩, hT, hTl, hTb⟩ := id hI
  have hb := isB_1
  have hp := hV1.1
  have hv := hV1.2.2.1
  have q := hv.r.2
  obtain ⟨⟨z0, z1, z2, z3⟩, ⟨c1, c3, c5, c7⟩, -⟩ := id hp
  have r_a1 := r_a.1; have r_a2 := r_a.2
  have r_b1 := r_b.1; have r_b2 := r_b.2
  refine eg_al_n dX8_nomination_0 rfl rfl ?_
  refine eg_get fl_X8_12 dX8_nomination_1 (by first | exact er0 | exact ep0 hb | exact ep1 hb | exact ep3 hb | exact ep5 hb | exact ep7 hb | exact er25 | exact er34 | exact er181 | exact er182 | exact er196 | exact er199 | exact er156 | exact ep0 isB_13 | exact ep1 isB_13 | exact ep3 isB_13 | exact ep5 isB_13 | exact ep7 isB_13 | exact er26 | exact er27 | exact er28 | exact ep9 hb | exact ep10 hb | exact ep0 (isB_shelf _ (by omega))) rfl ?_
  refine eg_get fl_X8_108 dX8_nomination_4 (by first | exact er0 | exact ep0 hb | exact ep1 hb | exact ep3 hb | exact ep5 hb | exact ep7 hb | exact er25 | exact er34 | exact er181 | exact er182 | exact er196 | exact er199 | exact er156 | exact ep0 isB_13 | exact ep1 isB_13 | exact ep3 isB_13 | exact ep5 isB_13 | exact ep7 isB_13 | exact er26 | exact er27 | exact er28 | exact ep9 hb | exact ep10 hb | exact ep0 (isB_shelf _ (by omega))) rfl ?_
  refine eg_iload_n dX8_nomination_7 rfl ?_
  refine eg_Vf1 cs_X8_121 dX8_nomination_8 (nm_has hb hp hv r_a) (by first | exact er0 | exact ep0 hb | exact ep1 hb | exact ep3 hb | exact ep5 hb | exact ep7 hb | exact er25 | exact er34 | exact er181 | exact er182 | exact er196 | exact er199 | exact er156 | exact ep0 isB_13 | exact ep1 isB_13 | exact ep3 isB_13 | exact ep5 isB_13 | exact ep7 isB_13 | exact er26 | exact er27 | exact er28 | exact ep9 hb | exact ep10 hb | exact ep0 (isB_shelf _ (by omega))) rfl (Nat.le_of_ble_eq_true rfl) (by decide) ?_
  refine eg_bi_eq 23 dX8_nomination_11 rfl (fun h11 => ?_) (fun h11 => ?_)
  · refine eg_bipush dX8_nomination_23 (by decide) ?_
    refine eg_ireturn dX8_nomination_25 rfl rfl ?_
    refine ⟨congrArg (fun q => some (vI q)) ?_, rfl, z, rfl, (Fr.rf).fc, (Fr.rf).ic hI⟩
    unfold A_nomination; (repeat (first | rw [if_pos (by first | assumption | omega)] | rw [if_neg (by first | assumption | omega)]))
  · refine eg_iload_n dX8_nomination_14 rfl ?_
    refine eg_iconst dX8_nomination_15 ?_
    refine eg_iconst dX8_nomination_16 ?_
    refine eg_Sf3 cs_X8_79 dX8_nomination_17 (c_X8_within ⟨by omega, by omega⟩ ⟨by omega, by omega⟩ ⟨by omega, by omega⟩) (Nat.le_of_ble_eq_true rfl) (by decide) ?_
    refine eg_bi_ne 26 dX8_nomination_20 rfl (fun h20 => ?_) (fun h20 => ?_)
    · refine eg_al_n dX8_nomination_26 rfl rfl ?_
      refine eg_get fl_X8_12 dX8_nomination_27 (by first | exact er0 | exact ep0 hb | exact ep1 hb | exact ep3 hb | exact ep5 hb | exact ep7 hb | exact er25 | exact er34 | exact er181 | exact er182 | exact er196 | exact er199 | exact er156 | exact ep0 isB_13 | exact ep1 isB_13 | exact ep3 isB_13 | exact ep5 isB_13 | exact ep7 isB_13 | exact er26 | exact er27 | exact er28 | exact ep9 hb | exact ep10 hb | exact ep0 (isB_shelf _ (by omega))) rfl ?_
      refine eg_get fl_X8_108 dX8_nomination_30 (by first | exact er0 | exact ep0 hb | exact ep1 hb | exact ep3 hb | exact ep5 hb | exact ep7 hb | exact er25 | exact er34 | exact er181 | exact er182 | exact er196 | exact er199 | exact er156 | exact ep0 isB_13 | exact ep1 isB_13 | exact ep3 isB_13 | exact ep5 isB_13 | exact ep7 isB_13 | exact er26 | exact er27 | exact er28 | exact ep9 hb | exact ep10 hb | exact ep0 (isB_shelf _ (by omega))) rfl ?_
      refine eg_iload_n dX8_nomination_33 rfl ?_
      refine eg_iload_n dX8_nomination_34 rfl ?_
      refine eg_Vf2 cs_X8_125 dX8_nomination_35 (nm_at hb hp hv (by omega) (by omega) (by omega) (by omega)) (by first | exact er0 | exact ep0 hb | exact ep1 hb | exact ep3 hb | exact ep5 hb | exact ep7 hb | exact er25 | exact er34 | exact er181 | exact er182 | exact er196 | exact er199 | exact er156 | exact ep0 isB_13 | exact ep1 isB_13 | exact ep3 isB_13 | exact ep5 isB_13 | exact ep7 isB_13 | exact er26 | exact er27 | exact er28 | exact ep9 hb | exact ep10 hb | exact ep0 (isB_shelf _ (by omega))) rfl (Nat.le_of_ble_eq_true rfl) (by decide) ?_
      refine eg_ireturn dX8_nomination_38 rfl rfl ?_
      refine ⟨congrArg (fun q => some (vI q)) ?_, rfl, z, rfl, (Fr.rf).fc, (Fr.rf).ic hI⟩
      unfold A_nomination; (repeat (first | rw [if_pos (by first | assumption | omega)] | rw [if_neg (by first | assumption | omega)]))
    · refine eg_bipush dX8_nomination_23 (by decide) ?_
      refine eg_ireturn dX8_nomination_25 rfl rfl ?_
      refine ⟨congrArg (fun q => some (vI q)) ?_, rfl, z, rfl, (Fr.rf).fc, (Fr.rf).ic hI⟩
      unfold A_nomination; (repeat (first | rw [if_pos (by first | assumption | omega)] | rw [if_neg (by first | assumption | omega)]))
theorem p_plan {k : eg_K} {z : eg_Z} {X : eg_M} {n : Nat} {s : eg_S} (hI : IC z s) {a b : Int} (r_a : iR a) (r_b : iR b) : eg_P k gX8_plan 5 0 0 [vR k 0, vI a, vI b] n (enc k z X) (eg_p k (some (vI (A_plan s.1 a b))) n X (fun z' => FC z z' ∧ IC z' s)) := by
  refine eg_P.of (by decide) (Nat.le_of_ble_eq_true rfl) ?_
  show eg_E k gX8_plan 5 0 0 n (enc k z X) [vR k 0, vI a, vI b, vU, vU] [] 0 _
  obtain ⟨hV1, hHi, ⟨hkb, hsh⟩, hT, hTl, hTb⟩ := id hI
  have hb := isB_1
  have hp := hV1.1
  have hv := hV1.2.2.1
  have q := hv.r.2
  obtain ⟨⟨z0, z1, z2, z3⟩, ⟨c1, c3, c5, c7⟩, -⟩ := id hp
  have r_a1 := r_a.1; have r_a2 := r_a.2
  have r_b1 := r_b.1; have r_b2 := r_b.2
  refine eg_al_n dX8_plan_0 rfl rfl ?_
  refine eg_get fl_X8_12 dX8_plan_1 (by first | exact er0 | exact ep0 hb | exact ep1 hb | exact ep3 hb | exact ep5 hb | exact ep7 hb | exact er25 | exact er34 | exact er181 | exact er182 | exact er196 | exact er199 | exact er156 | exact ep0 isB_13 | exact ep1 isB_13 | exact ep3 isB_13 | exact ep5 isB_13 | exact ep7 isB_13 | exact er26 | exact er27 | exact er28 | exact ep9 hb | exact ep10 hb | exact ep0 (isB_shelf _ (by omega))) rfl ?_
  refine eg_get fl_X8_108 dX8_plan_4 (by first | exact er0 | exact ep0 hb | exact ep1 hb | exact ep3 hb | exact ep5 hb | exact ep7 hb | exact er25 | exact er34 | exact er181 | exact er182 | exact er196 | exact er199 | exact er156 | exact ep0 isB_13 | exact ep1 isB_13 | exact ep3 isB_13 | exact ep5 isB_13 | exact ep7 isB_13 | exact er26 | exact er27 | exact er28 | exact ep9 hb | exact ep10 hb | exact ep0 (isB_shelf _ (by omega))) rfl ?_
  refine eg_iload_n dX8_plan_7 rfl ?_
  refine eg_Vf1 cs_X8_121 dX8_plan_8 (nm_has hb hp hv r_a) (by first | exact er0 | exact ep0 hb | exact ep1 hb | exact ep3 hb | exact ep5 hb | exact ep7 hb | exact er25 | exact er34 | exact er181 | exact er182 | exact er196 | exact er199 | exact er156 | exact ep0 isB_13 | exact ep1 isB_13 | exact ep3 isB_13 | exact ep5 isB_13 | exact ep7 isB_13 | exact er26 | exact er27 | exact er28 | exact ep9 hb | exact ep10 hb | exact ep0 (isB_shelf _ (by omega))) rfl (Nat.le_of_ble_eq_true rfl) (by decide) ?_
  refine eg_bi_ne 16 dX8_plan_11 rfl (fun h11 => ?_) (fun h11 => ?_)
  · refine eg_al_n dX8_plan_16 rfl rfl ?_
    refine eg_get fl_X8_22 dX8_plan_17 (by first | exact er0 | exact ep0 hb | exact ep1 hb | exact ep3 hb | exact ep5 hb | exact ep7 hb | exact er25 | exact er34 | exact er181 | exact er182 | exact er196 | exact er199 | exact er156 | exact ep0 isB_13 | exact ep1 isB_13 | exact ep3 isB_13 | exact ep5 isB_13 | exact ep7 isB_13 | exact er26 | exact er27 | exact er28 | exact ep9 hb | exact ep10 hb | exact ep0 (isB_shelf _ (by omega))) rfl ?_
    refine eg_al_n dX8_plan_20 rfl rfl ?_
    refine eg_get fl_X8_12 dX8_plan_21 (by first | exact er0 | exact ep0 hb | exact ep1 hb | exact ep3 hb | exact ep5 hb | exact ep7 hb | exact er25 | exact er34 | exact er181 | exact er182 | exact er196 | exact er199 | exact er156 | exact ep0 isB_13 | exact ep1 isB_13 | exact ep3 isB_13 | exact ep5 isB_13 | exact ep7 isB_13 | exact er26 | exact er27 | exact er28 | exact ep9 hb | exact ep10 hb | exact ep0 (isB_shelf _ (by omega))) rfl ?_
    refine eg_Vpv1 cs_X8_198 dX8_plan_24 (c_X4_make hb hp hv hV1.2.2.2.1) (by first | exact er0 | exact ep0 hb | exact ep1 hb | exact ep3 hb | exact ep5 hb | exact ep7 hb | exact er25 | exact er34 | exact er181 | exact er182 | exact er196 | exact er199 | exact er156 | exact ep0 isB_13 | exact ep1 isB_13 | exact ep3 isB_13 | exact ep5 isB_13 | exact ep7 isB_13 | exact er26 | exact er27 | exact er28 | exact ep9 hb | exact ep10 hb | exact ep0 (isB_shelf _ (by omega))) rfl (Nat.le_of_ble_eq_true rfl) (by decide) ?_
    rintro y1 ⟨m1, s1, f1⟩
    have f9 : Fr z y1 := Fr.s m1
    have hp1 := m1.hP hb hp
    refine eg_al_n dX8_plan_27 rfl rfl ?_
    refine eg_get fl_X8_22 dX8_plan_28 (by first | exact er0 | exact ep0 hb | exact ep1 hb | exact ep3 hb | exact ep5 hb | exact ep7 hb | exact er25 | exact er34 | exact er181 | exact er182 | exact er196 | exact er199 | exact er156 | exact ep0 isB_13 | exact ep1 isB_13 | exact ep3 isB_13 | exact ep5 isB_13 | exact ep7 isB_13 | exact er26 | exact er27 | exact er28 | exact ep9 hb | exact ep10 hb | exact ep0 (isB_shelf _ (by omega))) rfl ?_
    refine eg_iload_n dX8_plan_31 rfl ?_
    refine eg_Vf1 cs_X8_220 dX8_plan_32 (c_X4_of (by omega) (by omega)) (by first | exact er0 | exact ep0 hb | exact ep1 hb | exact ep3 hb | exact ep5 hb | exact ep7 hb | exact er25 | exact er34 | exact er181 | exact er182 | exact er196 | exact er199 | exact er156 | exact ep0 isB_13 | exact ep1 isB_13 | exact ep3 isB_13 | exact ep5 isB_13 | exact ep7 isB_13 | exact er26 | exact er27 | exact er28 | exact ep9 hb | exact ep10 hb | exact ep0 (isB_shelf _ (by omega))) rfl (Nat.le_of_ble_eq_true rfl) (by decide) ?_
    have sb := SS10 hv hV1.2.2.2.1 (q := a) (by omega) (by omega)
    rw [(s1.2.2.1 a (by omega) (by omega)).1]
    refine eg_istore_n dX8_plan_35 rfl rfl rfl ?_
    refine eg_al_n dX8_plan_36 rfl rfl ?_
    refine eg_get fl_X8_12 dX8_plan_37 (by first | exact er0 | exact ep0 hb | exact ep1 hb | exact ep3 hb | exact ep5 hb | exact ep7 hb | exact er25 | exact er34 | exact er181 | exact er182 | exact er196 | exact er199 | exact er156 | exact ep0 isB_13 | exact ep1 isB_13 | exact ep3 isB_13 | exact ep5 isB_13 | exact ep7 isB_13 | exact er26 | exact er27 | exact er28 | exact ep9 hb | exact ep10 hb | exact ep0 (isB_shelf _ (by omega))) rfl ?_
    refine eg_iload_n dX8_plan_40 rfl ?_
    refine eg_iload_n dX8_plan_41 rfl ?_
    refine eg_Vf2 cs_X8_223 dX8_plan_42 (c_X2_delivered hb hp1 hv (by omega) (by omega) (by omega)) (by first | exact er0 | exact ep0 hb | exact ep1 hb | exact ep3 hb | exact ep5 hb | exact ep7 hb | exact er25 | exact er34 | exact er181 | exact er182 | exact er196 | exact er199 | exact er156 | exact ep0 isB_13 | exact ep1 isB_13 | exact ep3 isB_13 | exact ep5 isB_13 | exact ep7 isB_13 | exact er26 | exact er27 | exact er28 | exact ep9 hb | exact ep10 hb | exact ep0 (isB_shelf _ (by omega))) rfl (Nat.le_of_ble_eq_true rfl) (by decide) ?_
    refine eg_istore dX8_plan_45 rfl rfl rfl ?_
    refine eg_iload_n dX8_plan_47 rfl ?_
    by_cases t48_84 : b = 0
    · refine eg_tbI 84 dX8_plan_48 ⟨by omega, by omega⟩ (by omega) (by omega) (by rw [t48_84]; rfl) rfl ?_
      refine eg_iload_n dX8_plan_84 rfl ?_
      refine eg_ireturn dX8_plan_85 rfl rfl ?_
      refine ⟨congrArg (fun q => some (vI q)) ?_, rfl, y1, rfl, (f9).fc, (f9).ic hI⟩
      unfold A_plan; (repeat (first | rw [if_pos (by first | assumption | omega)] | rw [if_neg (by first | assumption | omega)]))
    by_cases t48_86 : b = 1
    · refine eg_tbI 86 dX8_plan_48 ⟨by omega, by omega⟩ (by omega) (by omega) (by rw [t48_86]; rfl) rfl ?_
      refine eg_al_n dX8_plan_86 rfl rfl ?_
      refine eg_get fl_X8_22 dX8_plan_87 (by first | exact er0 | exact ep0 hb | exact ep1 hb | exact ep3 hb | exact ep5 hb | exact ep7 hb | exact er25 | exact er34 | exact er181 | exact er182 | exact er196 | exact er199 | exact er156 | exact ep0 isB_13 | exact ep1 isB_13 | exact ep3 isB_13 | exact ep5 isB_13 | exact ep7 isB_13 | exact er26 | exact er27 | exact er28 | exact ep9 hb | exact ep10 hb | exact ep0 (isB_shelf _ (by omega))) rfl ?_
      refine eg_get fl_X8_226 dX8_plan_90 (by first | exact er0 | exact ep0 hb | exact ep1 hb | exact ep3 hb | exact ep5 hb | exact ep7 hb | exact er25 | exact er34 | exact er181 | exact er182 | exact er196 | exact er199 | exact er156 | exact ep0 isB_13 | exact ep1 isB_13 | exact ep3 isB_13 | exact ep5 isB_13 | exact ep7 isB_13 | exact er26 | exact er27 | exact er28 | exact ep9 hb | exact ep10 hb | exact ep0 (isB_shelf _ (by omega))) rfl ?_
      refine eg_iload_n dX8_plan_93 rfl ?_
      refine eg_iald dX8_plan_94 (by first | exact er0 | exact ep0 hb | exact ep1 hb | exact ep3 hb | exact ep5 hb | exact ep7 hb | exact er25 | exact er34 | exact er181 | exact er182 | exact er196 | exact er199 | exact er156 | exact ep0 isB_13 | exact ep1 isB_13 | exact ep3 isB_13 | exact ep5 isB_13 | exact ep7 isB_13 | exact er26 | exact er27 | exact er28 | exact ep9 hb | exact ep10 hb | exact ep0 (isB_shelf _ (by omega))) (by omega) (by omega) (by decide) ?_
      refine eg_ireturn dX8_plan_95 rfl rfl ?_
      rw [f1 a (by omega) (by omega)]
      refine ⟨congrArg (fun q => some (vI q)) ?_, rfl, y1, rfl, (f9).fc, (f9).ic hI⟩
      unfold A_plan; (repeat (first | rw [if_pos (by first | assumption | omega)] | rw [if_neg (by first | assumption | omega)]))
    by_cases t48_96 : b = 2
    · refine eg_tbI 96 dX8_plan_48 ⟨by omega, by omega⟩ (by omega) (by omega) (by rw [t48_96]; rfl) rfl ?_
      refine eg_iload dX8_plan_96 rfl ?_
      refine eg_ireturn dX8_plan_98 rfl rfl ?_
      refine ⟨congrArg (fun q => some (vI q)) ?_, rfl, y1, rfl, (f9).fc, (f9).ic hI⟩
      unfold A_plan; (repeat (first | rw [if_pos (by first | assumption | omega)] | rw [if_neg (by first | assumption | omega)]))
    by_cases t48_99 : b = 3
    · refine eg_tbI 99 dX8_plan_48 ⟨by omega, by omega⟩ (by omega) (by omega) (by rw [t48_99]; rfl) rfl ?_
      refine eg_iload_n dX8_plan_99 rfl ?_
      refine eg_iload dX8_plan_100 rfl ?_
      refine eg_isub dX8_plan_102 ?_
      refine eg_ireturn dX8_plan_103 rfl rfl ?_
      refine ⟨congrArg (fun q => some (vI q)) ?_, rfl, y1, rfl, (f9).fc, (f9).ic hI⟩
      unfold A_plan; (repeat (first | rw [if_pos (by first | assumption | omega)] | rw [if_neg (by first | assumption | omega)]))
    by_cases t48_104 : b = 4
    · refine eg_tbI 104 dX8_plan_48 ⟨by omega, by omega⟩ (by omega) (by omega) (by rw [t48_104]; rfl) rfl ?_
      refine eg_al_n dX8_plan_104 rfl rfl ?_
      refine eg_get fl_X8_12 dX8_plan_105 (by first | exact er0 | exact ep0 hb | exact ep1 hb | exact ep3 hb | exact ep5 hb | exact ep7 hb | exact er25 | exact er34 | exact er181 | exact er182 | exact er196 | exact er199 | exact er156 | exact ep0 isB_13 | exact ep1 isB_13 | exact ep3 isB_13 | exact ep5 isB_13 | exact ep7 isB_13 | exact er26 | exact er27 | exact er28 | exact ep9 hb | exact ep10 hb | exact ep0 (isB_shelf _ (by omega))) rfl ?_
      refine eg_get fl_X8_108 dX8_plan_108 (by first | exact er0 | exact ep0 hb | exact ep1 hb | exact ep3 hb | exact ep5 hb | exact ep7 hb | exact er25 | exact er34 | exact er181 | exact er182 | exact er196 | exact er199 | exact er156 | exact ep0 isB_13 | exact ep1 isB_13 | exact ep3 isB_13 | exact ep5 isB_13 | exact ep7 isB_13 | exact er26 | exact er27 | exact er28 | exact ep9 hb | exact ep10 hb | exact ep0 (isB_shelf _ (by omega))) rfl ?_
      refine eg_iload_n dX8_plan_111 rfl ?_
      refine eg_iconst dX8_plan_112 ?_
      refine eg_Vf2 cs_X8_125 dX8_plan_113 (nm_at hb hp1 hv (by omega) (by omega) (by omega) (by omega)) (by first | exact er0 | exact ep0 hb | exact ep1 hb | exact ep3 hb | exact ep5 hb | exact ep7 hb | exact er25 | exact er34 | exact er181 | exact er182 | exact er196 | exact er199 | exact er156 | exact ep0 isB_13 | exact ep1 isB_13 | exact ep3 isB_13 | exact ep5 isB_13 | exact ep7 isB_13 | exact er26 | exact er27 | exact er28 | exact ep9 hb | exact ep10 hb | exact ep0 (isB_shelf _ (by omega))) rfl (Nat.le_of_ble_eq_true rfl) (by decide) ?_
      refine eg_iload_n dX8_plan_116 rfl ?_
      refine eg_isub dX8_plan_117 ?_
      refine eg_ireturn dX8_plan_118 rfl rfl ?_
      refine ⟨congrArg (fun q => some (vI q)) ?_, rfl, y1, rfl, (f9).fc, (f9).ic hI⟩
      unfold A_plan; (repeat (first | rw [if_pos (by first | assumption | omega)] | rw [if_neg (by first | assumption | omega)]))
    refine eg_tbO 119 dX8_plan_48 ⟨by omega, by omega⟩ (by omega) rfl ?_
    refine eg_iconst dX8_plan_119 ?_
    refine eg_ireturn dX8_plan_120 rfl rfl ?_
    refine ⟨congrArg (fun q => some (vI q)) ?_, rfl, y1, rfl, (f9).fc, (f9).ic hI⟩
    unfold A_plan; (repeat (first | rw [if_pos (by first | assumption | omega)] | rw [if_neg (by first | assumption | omega)]))
  · refine eg_iconst dX8_plan_14 ?_
    refine eg_ireturn dX8_plan_15 rfl rfl ?_
    refine ⟨congrArg (fun q => some (vI q)) ?_, rfl, z, rfl, (Fr.rf).fc, (Fr.rf).ic hI⟩
    unfold A_plan; (repeat (first | rw [if_pos (by first | assumption | omega)] | rw [if_neg (by first | assumption | omega)]))
theorem p_cause {k : eg_K} {z : eg_Z} {X : eg_M} {n : Nat} {s : eg_S} (hI : IC z s) {a : Int} (r_a : iR a) : eg_P k gX8_cause 5 0 0 [vR k 0, vI a] n (enc k z X) (eg_p k (some (vI (A_cause s.1 a))) n X (fun z' => FC z z' ∧ IC z' s)) := by
  refine eg_P.of (by decide) (Nat.le_of_ble_eq_true rfl) ?_
  show eg_E k gX8_cause 5 0 0 n (enc k z X) [vR k 0, vI a] [] 0 _
  obtain ⟨hV1, hHi, ⟨hkb, hsh⟩, hT, hTl, hTb⟩ := id hI
  have hb := isB_1
  have hp := hV1.1
  have hv := hV1.2.2.1
  have q := hv.r.2
  obtain ⟨⟨z0, z1, z2, z3⟩, ⟨c1, c3, c5, c7⟩, -⟩ := id hp
  have r_a1 := r_a.1; have r_a2 := r_a.2
  refine eg_al_n dX8_cause_0 rfl rfl ?_
  refine eg_get fl_X8_12 dX8_cause_1 (by first | exact er0 | exact ep0 hb | exact ep1 hb | exact ep3 hb | exact ep5 hb | exact ep7 hb | exact er25 | exact er34 | exact er181 | exact er182 | exact er196 | exact er199 | exact er156 | exact ep0 isB_13 | exact ep1 isB_13 | exact ep3 isB_13 | exact ep5 isB_13 | exact ep7 isB_13 | exact er26 | exact er27 | exact er28 | exact ep9 hb | exact ep10 hb | exact ep0 (isB_shelf _ (by omega))) rfl ?_
  refine eg_get fl_X8_108 dX8_cause_4 (by first | exact er0 | exact ep0 hb | exact ep1 hb | exact ep3 hb | exact ep5 hb | exact ep7 hb | exact er25 | exact er34 | exact er181 | exact er182 | exact er196 | exact er199 | exact er156 | exact ep0 isB_13 | exact ep1 isB_13 | exact ep3 isB_13 | exact ep5 isB_13 | exact ep7 isB_13 | exact er26 | exact er27 | exact er28 | exact ep9 hb | exact ep10 hb | exact ep0 (isB_shelf _ (by omega))) rfl ?_
  refine eg_iload_n dX8_cause_7 rfl ?_
  refine eg_Vf1 cs_X8_121 dX8_cause_8 (nm_has hb hp hv r_a) (by first | exact er0 | exact ep0 hb | exact ep1 hb | exact ep3 hb | exact ep5 hb | exact ep7 hb | exact er25 | exact er34 | exact er181 | exact er182 | exact er196 | exact er199 | exact er156 | exact ep0 isB_13 | exact ep1 isB_13 | exact ep3 isB_13 | exact ep5 isB_13 | exact ep7 isB_13 | exact er26 | exact er27 | exact er28 | exact ep9 hb | exact ep10 hb | exact ep0 (isB_shelf _ (by omega))) rfl (Nat.le_of_ble_eq_true rfl) (by decide) ?_
  refine eg_bi_ne 16 dX8_cause_11 rfl (fun h11 => ?_) (fun h11 => ?_)
  · refine eg_al_n dX8_cause_16 rfl rfl ?_
    refine eg_get fl_X8_22 dX8_cause_17 (by first | exact er0 | exact ep0 hb | exact ep1 hb | exact ep3 hb | exact ep5 hb | exact ep7 hb | exact er25 | exact er34 | exact er181 | exact er182 | exact er196 | exact er199 | exact er156 | exact ep0 isB_13 | exact ep1 isB_13 | exact ep3 isB_13 | exact ep5 isB_13 | exact ep7 isB_13 | exact er26 | exact er27 | exact er28 | exact ep9 hb | exact ep10 hb | exact ep0 (isB_shelf _ (by omega))) rfl ?_
    refine eg_al_n dX8_cause_20 rfl rfl ?_
    refine eg_get fl_X8_12 dX8_cause_21 (by first | exact er0 | exact ep0 hb | exact ep1 hb | exact ep3 hb | exact ep5 hb | exact ep7 hb | exact er25 | exact er34 | exact er181 | exact er182 | exact er196 | exact er199 | exact er156 | exact ep0 isB_13 | exact ep1 isB_13 | exact ep3 isB_13 | exact ep5 isB_13 | exact ep7 isB_13 | exact er26 | exact er27 | exact er28 | exact ep9 hb | exact ep10 hb | exact ep0 (isB_shelf _ (by omega))) rfl ?_
    refine eg_Vpv1 cs_X8_198 dX8_cause_24 (c_X4_make hb hp hv hV1.2.2.2.1) (by first | exact er0 | exact ep0 hb | exact ep1 hb | exact ep3 hb | exact ep5 hb | exact ep7 hb | exact er25 | exact er34 | exact er181 | exact er182 | exact er196 | exact er199 | exact er156 | exact ep0 isB_13 | exact ep1 isB_13 | exact ep3 isB_13 | exact ep5 isB_13 | exact ep7 isB_13 | exact er26 | exact er27 | exact er28 | exact ep9 hb | exact ep10 hb | exact ep0 (isB_shelf _ (by omega))) rfl (Nat.le_of_ble_eq_true rfl) (by decide) ?_
    rintro y1 ⟨m1, s1, f1⟩
    have f9 : Fr z y1 := Fr.s m1
    have hp1 := m1.hP hb hp
    refine eg_al_n dX8_cause_27 rfl rfl ?_
    refine eg_get fl_X8_22 dX8_cause_28 (by first | exact er0 | exact ep0 hb | exact ep1 hb | exact ep3 hb | exact ep5 hb | exact ep7 hb | exact er25 | exact er34 | exact er181 | exact er182 | exact er196 | exact er199 | exact er156 | exact ep0 isB_13 | exact ep1 isB_13 | exact ep3 isB_13 | exact ep5 isB_13 | exact ep7 isB_13 | exact er26 | exact er27 | exact er28 | exact ep9 hb | exact ep10 hb | exact ep0 (isB_shelf _ (by omega))) rfl ?_
    refine eg_get fl_X8_230 dX8_cause_31 (by first | exact er0 | exact ep0 hb | exact ep1 hb | exact ep3 hb | exact ep5 hb | exact ep7 hb | exact er25 | exact er34 | exact er181 | exact er182 | exact er196 | exact er199 | exact er156 | exact ep0 isB_13 | exact ep1 isB_13 | exact ep3 isB_13 | exact ep5 isB_13 | exact ep7 isB_13 | exact er26 | exact er27 | exact er28 | exact ep9 hb | exact ep10 hb | exact ep0 (isB_shelf _ (by omega))) rfl ?_
    refine eg_iload_n dX8_cause_34 rfl ?_
    refine eg_iald dX8_cause_35 (by first | exact er0 | exact ep0 hb | exact ep1 hb | exact ep3 hb | exact ep5 hb | exact ep7 hb | exact er25 | exact er34 | exact er181 | exact er182 | exact er196 | exact er199 | exact er156 | exact ep0 isB_13 | exact ep1 isB_13 | exact ep3 isB_13 | exact ep5 isB_13 | exact ep7 isB_13 | exact er26 | exact er27 | exact er28 | exact ep9 hb | exact ep10 hb | exact ep0 (isB_shelf _ (by omega))) (by omega) (by omega) (by decide) ?_
    refine eg_ireturn dX8_cause_36 rfl rfl ?_
    rw [(s1.2.2.1 a (by omega) (by omega)).2]
    refine ⟨congrArg (fun q => some (vI q)) ?_, rfl, y1, rfl, (f9).fc, (f9).ic hI⟩
    unfold A_cause; (repeat (first | rw [if_pos (by first | assumption | omega)] | rw [if_neg (by first | assumption | omega)]))
  · refine eg_iconst dX8_cause_14 ?_
    refine eg_ireturn dX8_cause_15 rfl rfl ?_
    refine ⟨congrArg (fun q => some (vI q)) ?_, rfl, z, rfl, (Fr.rf).fc, (Fr.rf).ic hI⟩
    unfold A_cause; (repeat (first | rw [if_pos (by first | assumption | omega)] | rw [if_neg (by first | assumption | omega)]))
theorem p_tight {k : eg_K} {z : eg_Z} {X : eg_M} {n : Nat} {s : eg_S} (hI : IC z s) {a : Int} (r_a : iR a) : eg_P k gX8_tight 5 0 0 [vR k 0, vI a] n (enc k z X) (eg_p k (some (vI (A_tight s.1 a))) n X (fun z' => FC z z' ∧ IC z' s)) := by
  refine eg_P.of (by decide) (Nat.le_of_ble_eq_true rfl) ?_
  show eg_E k gX8_tight 5 0 0 n (enc k z X) [vR k 0, vI a] [] 0 _
  obtain ⟨hV1, hHi, ⟨hkb, hsh⟩, hT, hTl, hTb⟩ := id hI
  have hb := isB_1
  have hp := hV1.1
  have hv := hV1.2.2.1
  have q := hv.r.2
  obtain ⟨⟨z0, z1, z2, z3⟩, ⟨c1, c3, c5, c7⟩, -⟩ := id hp
  have r_a1 := r_a.1; have r_a2 := r_a.2
  refine eg_iload_n dX8_tight_0 rfl ?_
  refine eg_iconst dX8_tight_1 ?_
  refine eg_icmp_lt 15 dX8_tight_2 ⟨by omega, by omega⟩ ⟨by omega, by omega⟩ rfl (fun h2 => ?_) (fun h2 => ?_)
  · refine eg_iconst dX8_tight_15 ?_
    refine eg_ireturn dX8_tight_16 rfl rfl ?_
    refine ⟨congrArg (fun q => some (vI q)) ?_, rfl, z, rfl, (Fr.rf).fc, (Fr.rf).ic hI⟩
    unfold A_tight; (repeat (first | rw [if_pos (by first | assumption | omega)] | rw [if_neg (by first | assumption | omega)]))
  · refine eg_al_n dX8_tight_5 rfl rfl ?_
    refine eg_get fl_X8_12 dX8_tight_6 (by first | exact er0 | exact ep0 hb | exact ep1 hb | exact ep3 hb | exact ep5 hb | exact ep7 hb | exact er25 | exact er34 | exact er181 | exact er182 | exact er196 | exact er199 | exact er156 | exact ep0 isB_13 | exact ep1 isB_13 | exact ep3 isB_13 | exact ep5 isB_13 | exact ep7 isB_13 | exact er26 | exact er27 | exact er28 | exact ep9 hb | exact ep10 hb | exact ep0 (isB_shelf _ (by omega))) rfl ?_
    refine eg_Vf0 cs_X8_170 dX8_tight_9 (c_X2_isThere hb hp hv) (by first | exact er0 | exact ep0 hb | exact ep1 hb | exact ep3 hb | exact ep5 hb | exact ep7 hb | exact er25 | exact er34 | exact er181 | exact er182 | exact er196 | exact er199 | exact er156 | exact ep0 isB_13 | exact ep1 isB_13 | exact ep3 isB_13 | exact ep5 isB_13 | exact ep7 isB_13 | exact er26 | exact er27 | exact er28 | exact ep9 hb | exact ep10 hb | exact ep0 (isB_shelf _ (by omega))) rfl (Nat.le_of_ble_eq_true rfl) (by decide) ?_
    refine eg_bi_ne 17 dX8_tight_12 rfl (fun h12 => ?_) (fun h12 => ?_)
    · refine eg_al_n dX8_tight_17 rfl rfl ?_
      refine eg_get fl_X8_22 dX8_tight_18 (by first | exact er0 | exact ep0 hb | exact ep1 hb | exact ep3 hb | exact ep5 hb | exact ep7 hb | exact er25 | exact er34 | exact er181 | exact er182 | exact er196 | exact er199 | exact er156 | exact ep0 isB_13 | exact ep1 isB_13 | exact ep3 isB_13 | exact ep5 isB_13 | exact ep7 isB_13 | exact er26 | exact er27 | exact er28 | exact ep9 hb | exact ep10 hb | exact ep0 (isB_shelf _ (by omega))) rfl ?_
      refine eg_al_n dX8_tight_21 rfl rfl ?_
      refine eg_get fl_X8_12 dX8_tight_22 (by first | exact er0 | exact ep0 hb | exact ep1 hb | exact ep3 hb | exact ep5 hb | exact ep7 hb | exact er25 | exact er34 | exact er181 | exact er182 | exact er196 | exact er199 | exact er156 | exact ep0 isB_13 | exact ep1 isB_13 | exact ep3 isB_13 | exact ep5 isB_13 | exact ep7 isB_13 | exact er26 | exact er27 | exact er28 | exact ep9 hb | exact ep10 hb | exact ep0 (isB_shelf _ (by omega))) rfl ?_
      refine eg_Vpv1 cs_X8_198 dX8_tight_25 (c_X4_make hb hp hv hV1.2.2.2.1) (by first | exact er0 | exact ep0 hb | exact ep1 hb | exact ep3 hb | exact ep5 hb | exact ep7 hb | exact er25 | exact er34 | exact er181 | exact er182 | exact er196 | exact er199 | exact er156 | exact ep0 isB_13 | exact ep1 isB_13 | exact ep3 isB_13 | exact ep5 isB_13 | exact ep7 isB_13 | exact er26 | exact er27 | exact er28 | exact ep9 hb | exact ep10 hb | exact ep0 (isB_shelf _ (by omega))) rfl (Nat.le_of_ble_eq_true rfl) (by decide) ?_
      rintro y1 ⟨m1, s1, f1⟩
      have f9 : Fr z y1 := Fr.s m1
      have hp1 := m1.hP hb hp
      refine eg_al_n dX8_tight_28 rfl rfl ?_
      refine eg_get fl_X8_22 dX8_tight_29 (by first | exact er0 | exact ep0 hb | exact ep1 hb | exact ep3 hb | exact ep5 hb | exact ep7 hb | exact er25 | exact er34 | exact er181 | exact er182 | exact er196 | exact er199 | exact er156 | exact ep0 isB_13 | exact ep1 isB_13 | exact ep3 isB_13 | exact ep5 isB_13 | exact ep7 isB_13 | exact er26 | exact er27 | exact er28 | exact ep9 hb | exact ep10 hb | exact ep0 (isB_shelf _ (by omega))) rfl ?_
      refine eg_al_n dX8_tight_32 rfl rfl ?_
      refine eg_get fl_X8_12 dX8_tight_33 (by first | exact er0 | exact ep0 hb | exact ep1 hb | exact ep3 hb | exact ep5 hb | exact ep7 hb | exact er25 | exact er34 | exact er181 | exact er182 | exact er196 | exact er199 | exact er156 | exact ep0 isB_13 | exact ep1 isB_13 | exact ep3 isB_13 | exact ep5 isB_13 | exact ep7 isB_13 | exact er26 | exact er27 | exact er28 | exact ep9 hb | exact ep10 hb | exact ep0 (isB_shelf _ (by omega))) rfl ?_
      refine eg_iload_n dX8_tight_36 rfl ?_
      refine eg_Vf2 cs_X8_233 dX8_tight_37 (c_X4_tightStop (l := LL s.1 10) hb hp1 hv r_a s1.2.1 (fun c g0 g1 => by have := LL_b hv hV1.2.2.2.1 10 c.toNat (by omega); rw [show ((c.toNat : Nat) : Int) = c by omega] at this; exact this)) (by first | exact er0 | exact ep0 hb | exact ep1 hb | exact ep3 hb | exact ep5 hb | exact ep7 hb | exact er25 | exact er34 | exact er181 | exact er182 | exact er196 | exact er199 | exact er156 | exact ep0 isB_13 | exact ep1 isB_13 | exact ep3 isB_13 | exact ep5 isB_13 | exact ep7 isB_13 | exact er26 | exact er27 | exact er28 | exact ep9 hb | exact ep10 hb | exact ep0 (isB_shelf _ (by omega))) rfl (Nat.le_of_ble_eq_true rfl) (by decide) ?_
      refine eg_ireturn dX8_tight_40 rfl rfl ?_
      refine ⟨congrArg (fun q => some (vI q)) ?_, rfl, y1, rfl, (f9).fc, (f9).ic hI⟩
      unfold A_tight; (repeat (first | rw [if_pos (by first | assumption | omega)] | rw [if_neg (by first | assumption | omega)]))
    · refine eg_iconst dX8_tight_15 ?_
      refine eg_ireturn dX8_tight_16 rfl rfl ?_
      refine ⟨congrArg (fun q => some (vI q)) ?_, rfl, z, rfl, (Fr.rf).fc, (Fr.rf).ic hI⟩
      unfold A_tight; (repeat (first | rw [if_pos (by first | assumption | omega)] | rw [if_neg (by first | assumption | omega)]))
theorem p_flow {k : eg_K} {z : eg_Z} {X : eg_M} {n : Nat} {s : eg_S} (hI : IC z s) {a b : Int} (r_a : iR a) (r_b : iR b) : eg_P k gX8_flow 5 0 0 [vR k 0, vI a, vI b] n (enc k z X) (eg_p k (some (vI (A_flow s.1 a b))) n X (fun z' => FC z z' ∧ IC z' s)) := by
  refine eg_P.of (by decide) (Nat.le_of_ble_eq_true rfl) ?_
  show eg_E k gX8_flow 5 0 0 n (enc k z X) [vR k 0, vI a, vI b, vU] [] 0 _
  obtain ⟨hV1, hHi, ⟨hkb, hsh⟩, hT, hTl, hTb⟩ := id hI
  have hb := isB_1
  have hp := hV1.1
  have hv := hV1.2.2.1
  have q := hv.r.2
  obtain ⟨⟨z0, z1, z2, z3⟩, ⟨c1, c3, c5, c7⟩, -⟩ := id hp
  have r_a1 := r_a.1; have r_a2 := r_a.2
  have r_b1 := r_b.1; have r_b2 := r_b.2
  refine eg_al_n dX8_flow_0 rfl rfl ?_
  refine eg_get fl_X8_12 dX8_flow_1 (by first | exact er0 | exact ep0 hb | exact ep1 hb | exact ep3 hb | exact ep5 hb | exact ep7 hb | exact er25 | exact er34 | exact er181 | exact er182 | exact er196 | exact er199 | exact er156 | exact ep0 isB_13 | exact ep1 isB_13 | exact ep3 isB_13 | exact ep5 isB_13 | exact ep7 isB_13 | exact er26 | exact er27 | exact er28 | exact ep9 hb | exact ep10 hb | exact ep0 (isB_shelf _ (by omega))) rfl ?_
  refine eg_get fl_X8_205 dX8_flow_4 (by first | exact er0 | exact ep0 hb | exact ep1 hb | exact ep3 hb | exact ep5 hb | exact ep7 hb | exact er25 | exact er34 | exact er181 | exact er182 | exact er196 | exact er199 | exact er156 | exact ep0 isB_13 | exact ep1 isB_13 | exact ep3 isB_13 | exact ep5 isB_13 | exact ep7 isB_13 | exact er26 | exact er27 | exact er28 | exact ep9 hb | exact ep10 hb | exact ep0 (isB_shelf _ (by omega))) rfl ?_
  refine eg_iload_n dX8_flow_7 rfl ?_
  refine eg_Vf1 cs_X8_121 dX8_flow_8 (sg_has hb hp hv r_a) (by first | exact er0 | exact ep0 hb | exact ep1 hb | exact ep3 hb | exact ep5 hb | exact ep7 hb | exact er25 | exact er34 | exact er181 | exact er182 | exact er196 | exact er199 | exact er156 | exact ep0 isB_13 | exact ep1 isB_13 | exact ep3 isB_13 | exact ep5 isB_13 | exact ep7 isB_13 | exact er26 | exact er27 | exact er28 | exact ep9 hb | exact ep10 hb | exact ep0 (isB_shelf _ (by omega))) rfl (Nat.le_of_ble_eq_true rfl) (by decide) ?_
  refine eg_bi_ne 16 dX8_flow_11 rfl (fun h11 => ?_) (fun h11 => ?_)
  · refine eg_al_n dX8_flow_16 rfl rfl ?_
    refine eg_get fl_X8_22 dX8_flow_17 (by first | exact er0 | exact ep0 hb | exact ep1 hb | exact ep3 hb | exact ep5 hb | exact ep7 hb | exact er25 | exact er34 | exact er181 | exact er182 | exact er196 | exact er199 | exact er156 | exact ep0 isB_13 | exact ep1 isB_13 | exact ep3 isB_13 | exact ep5 isB_13 | exact ep7 isB_13 | exact er26 | exact er27 | exact er28 | exact ep9 hb | exact ep10 hb | exact ep0 (isB_shelf _ (by omega))) rfl ?_
    refine eg_al_n dX8_flow_20 rfl rfl ?_
    refine eg_get fl_X8_12 dX8_flow_21 (by first | exact er0 | exact ep0 hb | exact ep1 hb | exact ep3 hb | exact ep5 hb | exact ep7 hb | exact er25 | exact er34 | exact er181 | exact er182 | exact er196 | exact er199 | exact er156 | exact ep0 isB_13 | exact ep1 isB_13 | exact ep3 isB_13 | exact ep5 isB_13 | exact ep7 isB_13 | exact er26 | exact er27 | exact er28 | exact ep9 hb | exact ep10 hb | exact ep0 (isB_shelf _ (by omega))) rfl ?_
    refine eg_Vpv1 cs_X8_198 dX8_flow_24 (c_X4_make hb hp hv hV1.2.2.2.1) (by first | exact er0 | exact ep0 hb | exact ep1 hb | exact ep3 hb | exact ep5 hb | exact ep7 hb | exact er25 | exact er34 | exact er181 | exact er182 | exact er196 | exact er199 | exact er156 | exact ep0 isB_13 | exact ep1 isB_13 | exact ep3 isB_13 | exact ep5 isB_13 | exact ep7 isB_13 | exact er26 | exact er27 | exact er28 | exact ep9 hb | exact ep10 hb | exact ep0 (isB_shelf _ (by omega))) rfl (Nat.le_of_ble_eq_true rfl) (by decide) ?_
    rintro y1 ⟨m1, s1, f1⟩
    have f9 : Fr z y1 := Fr.s m1
    have hp1 := m1.hP hb hp
    refine eg_iload_n dX8_flow_27 rfl ?_
    refine eg_if_eq 42 dX8_flow_28 ⟨by omega, by omega⟩ rfl (fun h28 => ?_) (fun h28 => ?_)
    · refine eg_al_n dX8_flow_42 rfl rfl ?_
      refine eg_get fl_X8_22 dX8_flow_43 (by first | exact er0 | exact ep0 hb | exact ep1 hb | exact ep3 hb | exact ep5 hb | exact ep7 hb | exact er25 | exact er34 | exact er181 | exact er182 | exact er196 | exact er199 | exact er156 | exact ep0 isB_13 | exact ep1 isB_13 | exact ep3 isB_13 | exact ep5 isB_13 | exact ep7 isB_13 | exact er26 | exact er27 | exact er28 | exact ep9 hb | exact ep10 hb | exact ep0 (isB_shelf _ (by omega))) rfl ?_
      refine eg_iload_n dX8_flow_46 rfl ?_
      refine eg_Vf1 cs_X8_208 dX8_flow_47 (c_X4_leftUp (by omega) (by omega)) (by first | exact er0 | exact ep0 hb | exact ep1 hb | exact ep3 hb | exact ep5 hb | exact ep7 hb | exact er25 | exact er34 | exact er181 | exact er182 | exact er196 | exact er199 | exact er156 | exact ep0 isB_13 | exact ep1 isB_13 | exact ep3 isB_13 | exact ep5 isB_13 | exact ep7 isB_13 | exact er26 | exact er27 | exact er28 | exact ep9 hb | exact ep10 hb | exact ep0 (isB_shelf _ (by omega))) rfl (Nat.le_of_ble_eq_true rfl) (by decide) ?_
      refine eg_istore_n dX8_flow_50 rfl rfl rfl ?_
      refine eg_al_n dX8_flow_51 rfl rfl ?_
      refine eg_get fl_X8_12 dX8_flow_52 (by first | exact er0 | exact ep0 hb | exact ep1 hb | exact ep3 hb | exact ep5 hb | exact ep7 hb | exact er25 | exact er34 | exact er181 | exact er182 | exact er196 | exact er199 | exact er156 | exact ep0 isB_13 | exact ep1 isB_13 | exact ep3 isB_13 | exact ep5 isB_13 | exact ep7 isB_13 | exact er26 | exact er27 | exact er28 | exact ep9 hb | exact ep10 hb | exact ep0 (isB_shelf _ (by omega))) rfl ?_
      refine eg_get fl_X8_205 dX8_flow_55 (by first | exact er0 | exact ep0 hb | exact ep1 hb | exact ep3 hb | exact ep5 hb | exact ep7 hb | exact er25 | exact er34 | exact er181 | exact er182 | exact er196 | exact er199 | exact er156 | exact ep0 isB_13 | exact ep1 isB_13 | exact ep3 isB_13 | exact ep5 isB_13 | exact ep7 isB_13 | exact er26 | exact er27 | exact er28 | exact ep9 hb | exact ep10 hb | exact ep0 (isB_shelf _ (by omega))) rfl ?_
      refine eg_iload_n dX8_flow_58 rfl ?_
      refine eg_iconst dX8_flow_59 ?_
      refine eg_Vf2 cs_X8_125 dX8_flow_60 (sg_at hb hp1 hv (by omega) (by omega) (by omega) (by omega)) (by first | exact er0 | exact ep0 hb | exact ep1 hb | exact ep3 hb | exact ep5 hb | exact ep7 hb | exact er25 | exact er34 | exact er181 | exact er182 | exact er196 | exact er199 | exact er156 | exact ep0 isB_13 | exact ep1 isB_13 | exact ep3 isB_13 | exact ep5 isB_13 | exact ep7 isB_13 | exact er26 | exact er27 | exact er28 | exact ep9 hb | exact ep10 hb | exact ep0 (isB_shelf _ (by omega))) rfl (Nat.le_of_ble_eq_true rfl) (by decide) ?_
      refine eg_iload_n dX8_flow_63 rfl ?_
      refine eg_isub dX8_flow_64 ?_
      refine eg_ireturn dX8_flow_65 rfl rfl ?_
      refine ⟨congrArg (fun q => some (vI q)) ?_, rfl, y1, rfl, (f9).fc, (f9).ic hI⟩
      unfold A_flow; rw [LLi s1 (by omega) (by omega)]; (repeat (first | rw [if_pos (by first | assumption | omega)] | rw [if_neg (by first | assumption | omega)]))
    · refine eg_al_n dX8_flow_31 rfl rfl ?_
      refine eg_get fl_X8_22 dX8_flow_32 (by first | exact er0 | exact ep0 hb | exact ep1 hb | exact ep3 hb | exact ep5 hb | exact ep7 hb | exact er25 | exact er34 | exact er181 | exact er182 | exact er196 | exact er199 | exact er156 | exact ep0 isB_13 | exact ep1 isB_13 | exact ep3 isB_13 | exact ep5 isB_13 | exact ep7 isB_13 | exact er26 | exact er27 | exact er28 | exact ep9 hb | exact ep10 hb | exact ep0 (isB_shelf _ (by omega))) rfl ?_
      refine eg_iload_n dX8_flow_35 rfl ?_
      refine eg_Vf1 cs_X8_211 dX8_flow_36 (c_X4_leftDown (by omega) (by omega)) (by first | exact er0 | exact ep0 hb | exact ep1 hb | exact ep3 hb | exact ep5 hb | exact ep7 hb | exact er25 | exact er34 | exact er181 | exact er182 | exact er196 | exact er199 | exact er156 | exact ep0 isB_13 | exact ep1 isB_13 | exact ep3 isB_13 | exact ep5 isB_13 | exact ep7 isB_13 | exact er26 | exact er27 | exact er28 | exact ep9 hb | exact ep10 hb | exact ep0 (isB_shelf _ (by omega))) rfl (Nat.le_of_ble_eq_true rfl) (by decide) ?_
      refine eg_goto 50 dX8_flow_39 rfl ?_
      refine eg_istore_n dX8_flow_50 rfl rfl rfl ?_
      refine eg_al_n dX8_flow_51 rfl rfl ?_
      refine eg_get fl_X8_12 dX8_flow_52 (by first | exact er0 | exact ep0 hb | exact ep1 hb | exact ep3 hb | exact ep5 hb | exact ep7 hb | exact er25 | exact er34 | exact er181 | exact er182 | exact er196 | exact er199 | exact er156 | exact ep0 isB_13 | exact ep1 isB_13 | exact ep3 isB_13 | exact ep5 isB_13 | exact ep7 isB_13 | exact er26 | exact er27 | exact er28 | exact ep9 hb | exact ep10 hb | exact ep0 (isB_shelf _ (by omega))) rfl ?_
      refine eg_get fl_X8_205 dX8_flow_55 (by first | exact er0 | exact ep0 hb | exact ep1 hb | exact ep3 hb | exact ep5 hb | exact ep7 hb | exact er25 | exact er34 | exact er181 | exact er182 | exact er196 | exact er199 | exact er156 | exact ep0 isB_13 | exact ep1 isB_13 | exact ep3 isB_13 | exact ep5 isB_13 | exact ep7 isB_13 | exact er26 | exact er27 | exact er28 | exact ep9 hb | exact ep10 hb | exact ep0 (isB_shelf _ (by omega))) rfl ?_
      refine eg_iload_n dX8_flow_58 rfl ?_
      refine eg_iconst dX8_flow_59 ?_
      refine eg_Vf2 cs_X8_125 dX8_flow_60 (sg_at hb hp1 hv (by omega) (by omega) (by omega) (by omega)) (by first | exact er0 | exact ep0 hb | exact ep1 hb | exact ep3 hb | exact ep5 hb | exact ep7 hb | exact er25 | exact er34 | exact er181 | exact er182 | exact er196 | exact er199 | exact er156 | exact ep0 isB_13 | exact ep1 isB_13 | exact ep3 isB_13 | exact ep5 isB_13 | exact ep7 isB_13 | exact er26 | exact er27 | exact er28 | exact ep9 hb | exact ep10 hb | exact ep0 (isB_shelf _ (by omega))) rfl (Nat.le_of_ble_eq_true rfl) (by decide) ?_
      refine eg_iload_n dX8_flow_63 rfl ?_
      refine eg_isub dX8_flow_64 ?_
      refine eg_ireturn dX8_flow_65 rfl rfl ?_
      refine ⟨congrArg (fun q => some (vI q)) ?_, rfl, y1, rfl, (f9).fc, (f9).ic hI⟩
      unfold A_flow; rw [LLi s1 (by omega) (by omega)]; (repeat (first | rw [if_pos (by first | assumption | omega)] | rw [if_neg (by first | assumption | omega)]))
  · refine eg_iconst dX8_flow_14 ?_
    refine eg_ireturn dX8_flow_15 rfl rfl ?_
    refine ⟨congrArg (fun q => some (vI q)) ?_, rfl, z, rfl, (Fr.rf).fc, (Fr.rf).ic hI⟩
    unfold A_flow; (repeat (first | rw [if_pos (by first | assumption | omega)] | rw [if_neg (by first | assumption | omega)]))
theorem p_leaves {k : eg_K} {z : eg_Z} {X : eg_M} {n : Nat} {s : eg_S} (hI : IC z s) {a b c : Int} (r_a : iR a) (r_b : iR b) (r_c : iR c) : eg_P k gX8_leaves 2 0 0 [vR k 0, vI a, vI b, vI c] n (enc k z X) (eg_p k (some (vI (A_leaves s.1 a b c))) n X (fun z' => FC z z' ∧ IC z' s)) := by
  refine eg_P.of (by decide) (Nat.le_of_ble_eq_true rfl) ?_
  show eg_E k gX8_leaves 2 0 0 n (enc k z X) [vR k 0, vI a, vI b, vI c] [] 0 _
  obtain ⟨hV1, hHi, ⟨hkb, hsh⟩, hT, hTl, hTb⟩ := id hI
  have hb := isB_1
  have hp := hV1.1
  have hv := hV1.2.2.1
  have q := hv.r.2
  obtain ⟨⟨z0, z1, z2, z3⟩, ⟨c1, c3, c5, c7⟩, -⟩ := id hp
  have r_a1 := r_a.1; have r_a2 := r_a.2
  have r_b1 := r_b.1; have r_b2 := r_b.2
  have r_c1 := r_c.1; have r_c2 := r_c.2
  refine eg_al_n dX8_leaves_0 rfl rfl ?_
  refine eg_iload_n dX8_leaves_1 rfl ?_
  refine eg_iload_n dX8_leaves_2 rfl ?_
  refine eg_Vf2 cs_X8_236 dX8_leaves_3 (c_X8_isWay hp hv r_a r_b) (by first | exact er0 | exact ep0 hb | exact ep1 hb | exact ep3 hb | exact ep5 hb | exact ep7 hb | exact er25 | exact er34 | exact er181 | exact er182 | exact er196 | exact er199 | exact er156 | exact ep0 isB_13 | exact ep1 isB_13 | exact ep3 isB_13 | exact ep5 isB_13 | exact ep7 isB_13 | exact er26 | exact er27 | exact er28 | exact ep9 hb | exact ep10 hb | exact ep0 (isB_shelf _ (by omega))) rfl (Nat.le_of_ble_eq_true rfl) (by decide) ?_
  refine eg_bi_eq 19 dX8_leaves_6 rfl (fun h6 => ?_) (fun h6 => ?_)
  · refine eg_iconst dX8_leaves_19 ?_
    refine eg_ireturn dX8_leaves_20 rfl rfl ?_
    refine ⟨congrArg (fun q => some (vI q)) ?_, rfl, z, rfl, (Fr.rf).fc, (Fr.rf).ic hI⟩
    unfold A_leaves; (repeat (first | rw [if_pos (by first | assumption | omega)] | rw [if_neg (by first | assumption | omega)]))
  · refine eg_iload_n dX8_leaves_9 rfl ?_
    refine eg_iconst dX8_leaves_10 ?_
    refine eg_ldc kw_X8_239 dX8_leaves_11 ?_
    refine eg_Sf3 cs_X8_79 dX8_leaves_13 (c_X8_within ⟨by omega, by omega⟩ ⟨by omega, by omega⟩ ⟨by omega, by omega⟩) (Nat.le_of_ble_eq_true rfl) (by decide) ?_
    refine eg_bi_ne 21 dX8_leaves_16 rfl (fun h16 => ?_) (fun h16 => ?_)
    · refine eg_al_n dX8_leaves_21 rfl rfl ?_
      refine eg_get fl_X8_12 dX8_leaves_22 (by first | exact er0 | exact ep0 hb | exact ep1 hb | exact ep3 hb | exact ep5 hb | exact ep7 hb | exact er25 | exact er34 | exact er181 | exact er182 | exact er196 | exact er199 | exact er156 | exact ep0 isB_13 | exact ep1 isB_13 | exact ep3 isB_13 | exact ep5 isB_13 | exact ep7 isB_13 | exact er26 | exact er27 | exact er28 | exact ep9 hb | exact ep10 hb | exact ep0 (isB_shelf _ (by omega))) rfl ?_
      refine eg_iload_n dX8_leaves_25 rfl ?_
      refine eg_iload_n dX8_leaves_26 rfl ?_
      refine eg_iload_n dX8_leaves_27 rfl ?_
      refine eg_Vf3 cs_X8_240 dX8_leaves_28 (c_X2_leftOver hb hp hv (by omega) (by omega) (by omega)) (by first | exact er0 | exact ep0 hb | exact ep1 hb | exact ep3 hb | exact ep5 hb | exact ep7 hb | exact er25 | exact er34 | exact er181 | exact er182 | exact er196 | exact er199 | exact er156 | exact ep0 isB_13 | exact ep1 isB_13 | exact ep3 isB_13 | exact ep5 isB_13 | exact ep7 isB_13 | exact er26 | exact er27 | exact er28 | exact ep9 hb | exact ep10 hb | exact ep0 (isB_shelf _ (by omega))) rfl (Nat.le_of_ble_eq_true rfl) (by decide) ?_
      refine eg_ireturn dX8_leaves_31 rfl rfl ?_
      refine ⟨congrArg (fun q => some (vI q)) ?_, rfl, z, rfl, (Fr.rf).fc, (Fr.rf).ic hI⟩
      unfold A_leaves; (repeat (first | rw [if_pos (by first | assumption | omega)] | rw [if_neg (by first | assumption | omega)]))
    · refine eg_iconst dX8_leaves_19 ?_
      refine eg_ireturn dX8_leaves_20 rfl rfl ?_
      refine ⟨congrArg (fun q => some (vI q)) ?_, rfl, z, rfl, (Fr.rf).fc, (Fr.rf).ic hI⟩
      unfold A_leaves; (repeat (first | rw [if_pos (by first | assumption | omega)] | rw [if_neg (by first | assumption | omega)]))
theorem p_needs {k : eg_K} {z : eg_Z} {X : eg_M} {n : Nat} {s : eg_S} (hI : IC z s) {a b c : Int} (r_a : iR a) (r_b : iR b) (r_c : iR c) : eg_P k gX8_needs 3 0 0 [vR k 0, vI a, vI b, vI c] n (enc k z X) (eg_p k (some (vI (A_needs s.1 a b c))) n X (fun z' => FC z z' ∧ IC z' s)) := by
  refine eg_P.of (by decide) (Nat.le_of_ble_eq_true rfl) ?_
  show eg_E k gX8_needs 3 0 0 n (enc k z X) [vR k 0, vI a, vI b, vI c] [] 0 _
  obtain ⟨hV1, hHi, ⟨hkb, hsh⟩, hT, hTl, hTb⟩ := id hI
  have hb := isB_1
  have hp := hV1.1
  have hv := hV1.2.2.1
  have q := hv.r.2
  obtain ⟨⟨z0, z1, z2, z3⟩, ⟨c1, c3, c5, c7⟩, -⟩ := id hp
  have r_a1 := r_a.1; have r_a2 := r_a.2
  have r_b1 := r_b.1; have r_b2 := r_b.2
  have r_c1 := r_c.1; have r_c2 := r_c.2
  refine eg_al_n dX8_needs_0 rfl rfl ?_
  refine eg_iload_n dX8_needs_1 rfl ?_
  refine eg_iload_n dX8_needs_2 rfl ?_
  refine eg_Vf2 cs_X8_236 dX8_needs_3 (c_X8_isWay hp hv r_a r_b) (by first | exact er0 | exact ep0 hb | exact ep1 hb | exact ep3 hb | exact ep5 hb | exact ep7 hb | exact er25 | exact er34 | exact er181 | exact er182 | exact er196 | exact er199 | exact er156 | exact ep0 isB_13 | exact ep1 isB_13 | exact ep3 isB_13 | exact ep5 isB_13 | exact ep7 isB_13 | exact er26 | exact er27 | exact er28 | exact ep9 hb | exact ep10 hb | exact ep0 (isB_shelf _ (by omega))) rfl (Nat.le_of_ble_eq_true rfl) (by decide) ?_
  refine eg_bi_eq 19 dX8_needs_6 rfl (fun h6 => ?_) (fun h6 => ?_)
  · refine eg_iconst dX8_needs_19 ?_
    refine eg_ireturn dX8_needs_20 rfl rfl ?_
    refine ⟨congrArg (fun q => some (vI q)) ?_, rfl, z, rfl, (Fr.rf).fc, (Fr.rf).ic hI⟩
    unfold A_needs; (repeat (first | rw [if_pos (by first | assumption | omega)] | rw [if_neg (by first | assumption | omega)]))
  · refine eg_iload_n dX8_needs_9 rfl ?_
    refine eg_iconst dX8_needs_10 ?_
    refine eg_ldc kw_X8_239 dX8_needs_11 ?_
    refine eg_Sf3 cs_X8_79 dX8_needs_13 (c_X8_within ⟨by omega, by omega⟩ ⟨by omega, by omega⟩ ⟨by omega, by omega⟩) (Nat.le_of_ble_eq_true rfl) (by decide) ?_
    refine eg_bi_ne 21 dX8_needs_16 rfl (fun h16 => ?_) (fun h16 => ?_)
    · refine eg_al_n dX8_needs_21 rfl rfl ?_
      refine eg_get fl_X8_12 dX8_needs_22 (by first | exact er0 | exact ep0 hb | exact ep1 hb | exact ep3 hb | exact ep5 hb | exact ep7 hb | exact er25 | exact er34 | exact er181 | exact er182 | exact er196 | exact er199 | exact er156 | exact ep0 isB_13 | exact ep1 isB_13 | exact ep3 isB_13 | exact ep5 isB_13 | exact ep7 isB_13 | exact er26 | exact er27 | exact er28 | exact ep9 hb | exact ep10 hb | exact ep0 (isB_shelf _ (by omega))) rfl ?_
      refine eg_iload_n dX8_needs_25 rfl ?_
      refine eg_iload_n dX8_needs_26 rfl ?_
      refine eg_iload_n dX8_needs_27 rfl ?_
      refine eg_Vf3 cs_X8_244 dX8_needs_28 (c_X2_leastFor hb hp hv (by omega) (by omega) (by omega)) (by first | exact er0 | exact ep0 hb | exact ep1 hb | exact ep3 hb | exact ep5 hb | exact ep7 hb | exact er25 | exact er34 | exact er181 | exact er182 | exact er196 | exact er199 | exact er156 | exact ep0 isB_13 | exact ep1 isB_13 | exact ep3 isB_13 | exact ep5 isB_13 | exact ep7 isB_13 | exact er26 | exact er27 | exact er28 | exact ep9 hb | exact ep10 hb | exact ep0 (isB_shelf _ (by omega))) rfl (Nat.le_of_ble_eq_true rfl) (by decide) ?_
      refine eg_ireturn dX8_needs_31 rfl rfl ?_
      refine ⟨congrArg (fun q => some (vI q)) ?_, rfl, z, rfl, (Fr.rf).fc, (Fr.rf).ic hI⟩
      unfold A_needs; (repeat (first | rw [if_pos (by first | assumption | omega)] | rw [if_neg (by first | assumption | omega)]))
    · refine eg_iconst dX8_needs_19 ?_
      refine eg_ireturn dX8_needs_20 rfl rfl ?_
      refine ⟨congrArg (fun q => some (vI q)) ?_, rfl, z, rfl, (Fr.rf).fc, (Fr.rf).ic hI⟩
      unfold A_needs; (repeat (first | rw [if_pos (by first | assumption | omega)] | rw [if_neg (by first | assumption | omega)]))
theorem p_more {k : eg_K} {z : eg_Z} {X : eg_M} {n : Nat} {s : eg_S} (hI : IC z s) {a b c d : Int} (r_a : iR a) (r_b : iR b) (r_c : iR c) (r_d : iR d) : eg_P k gX8_more 5 0 0 [vR k 0, vI a, vI b, vI c, vI d] n (enc k z X) (eg_p k (some (vI (A_more s.1 a b c d))) n X (fun z' => FC z z' ∧ IC z' s)) := by
  refine eg_P.of (by decide) (Nat.le_of_ble_eq_true rfl) ?_
  show eg_E k gX8_more 5 0 0 n (enc k z X) [vR k 0, vI a, vI b, vI c, vI d, vU] [] 0 _
  obtain ⟨hV1, hHi, ⟨hkb, hsh⟩, hT, hTl, hTb⟩ := id hI
  have hb := isB_1
  have hp := hV1.1
  have hv := hV1.2.2.1
  have q := hv.r.2
  obtain ⟨⟨z0, z1, z2, z3⟩, ⟨c1, c3, c5, c7⟩, -⟩ := id hp
  have r_a1 := r_a.1; have r_a2 := r_a.2
  have r_b1 := r_b.1; have r_b2 := r_b.2
  have r_c1 := r_c.1; have r_c2 := r_c.2
  have r_d1 := r_d.1; have r_d2 := r_d.2
  refine eg_al_n dX8_more_0 rfl rfl ?_
  refine eg_get fl_X8_12 dX8_more_1 (by first | exact er0 | exact ep0 hb | exact ep1 hb | exact ep3 hb | exact ep5 hb | exact ep7 hb | exact er25 | exact er34 | exact er181 | exact er182 | exact er196 | exact er199 | exact er156 | exact ep0 isB_13 | exact ep1 isB_13 | exact ep3 isB_13 | exact ep5 isB_13 | exact ep7 isB_13 | exact er26 | exact er27 | exact er28 | exact ep9 hb | exact ep10 hb | exact ep0 (isB_shelf _ (by omega))) rfl ?_
  refine eg_iload_n dX8_more_4 rfl ?_
  refine eg_iload_n dX8_more_5 rfl ?_
  refine eg_iload_n dX8_more_6 rfl ?_
  refine eg_iload dX8_more_7 rfl ?_
  refine eg_Vf4 cs_X8_104 dX8_more_9 (c_allows hb hp hv r_a r_b r_c r_d) (by first | exact er0 | exact ep0 hb | exact ep1 hb | exact ep3 hb | exact ep5 hb | exact ep7 hb | exact er25 | exact er34 | exact er181 | exact er182 | exact er196 | exact er199 | exact er156 | exact ep0 isB_13 | exact ep1 isB_13 | exact ep3 isB_13 | exact ep5 isB_13 | exact ep7 isB_13 | exact er26 | exact er27 | exact er28 | exact ep9 hb | exact ep10 hb | exact ep0 (isB_shelf _ (by omega))) rfl (Nat.le_of_ble_eq_true rfl) (by decide) ?_
  refine eg_bi_ne 17 dX8_more_12 rfl (fun h12 => ?_) (fun h12 => ?_)
  · refine eg_al_n dX8_more_17 rfl rfl ?_
    refine eg_get fl_X8_12 dX8_more_18 (by first | exact er0 | exact ep0 hb | exact ep1 hb | exact ep3 hb | exact ep5 hb | exact ep7 hb | exact er25 | exact er34 | exact er181 | exact er182 | exact er196 | exact er199 | exact er156 | exact ep0 isB_13 | exact ep1 isB_13 | exact ep3 isB_13 | exact ep5 isB_13 | exact ep7 isB_13 | exact er26 | exact er27 | exact er28 | exact ep9 hb | exact ep10 hb | exact ep0 (isB_shelf _ (by omega))) rfl ?_
    refine eg_get fl_X8_108 dX8_more_21 (by first | exact er0 | exact ep0 hb | exact ep1 hb | exact ep3 hb | exact ep5 hb | exact ep7 hb | exact er25 | exact er34 | exact er181 | exact er182 | exact er196 | exact er199 | exact er156 | exact ep0 isB_13 | exact ep1 isB_13 | exact ep3 isB_13 | exact ep5 isB_13 | exact ep7 isB_13 | exact er26 | exact er27 | exact er28 | exact ep9 hb | exact ep10 hb | exact ep0 (isB_shelf _ (by omega))) rfl ?_
    refine eg_Vf0 cs_X8_111 dX8_more_24 (c_isFull hb hp hv) (by first | exact er0 | exact ep0 hb | exact ep1 hb | exact ep3 hb | exact ep5 hb | exact ep7 hb | exact er25 | exact er34 | exact er181 | exact er182 | exact er196 | exact er199 | exact er156 | exact ep0 isB_13 | exact ep1 isB_13 | exact ep3 isB_13 | exact ep5 isB_13 | exact ep7 isB_13 | exact er26 | exact er27 | exact er28 | exact ep9 hb | exact ep10 hb | exact ep0 (isB_shelf _ (by omega))) rfl (Nat.le_of_ble_eq_true rfl) (by decide) ?_
    refine eg_bi_eq 33 dX8_more_27 rfl (fun h27 => ?_) (fun h27 => ?_)
    · refine eg_al_n dX8_more_33 rfl rfl ?_
      refine eg_get fl_X8_16 dX8_more_34 (by first | exact er0 | exact ep0 hb | exact ep1 hb | exact ep3 hb | exact ep5 hb | exact ep7 hb | exact er25 | exact er34 | exact er181 | exact er182 | exact er196 | exact er199 | exact er156 | exact ep0 isB_13 | exact ep1 isB_13 | exact ep3 isB_13 | exact ep5 isB_13 | exact ep7 isB_13 | exact er26 | exact er27 | exact er28 | exact ep9 hb | exact ep10 hb | exact ep0 (isB_shelf _ (by omega))) rfl ?_
      refine eg_al_n dX8_more_37 rfl rfl ?_
      refine eg_get fl_X8_12 dX8_more_38 (by first | exact er0 | exact ep0 hb | exact ep1 hb | exact ep3 hb | exact ep5 hb | exact ep7 hb | exact er25 | exact er34 | exact er181 | exact er182 | exact er196 | exact er199 | exact er156 | exact ep0 isB_13 | exact ep1 isB_13 | exact ep3 isB_13 | exact ep5 isB_13 | exact ep7 isB_13 | exact er26 | exact er27 | exact er28 | exact ep9 hb | exact ep10 hb | exact ep0 (isB_shelf _ (by omega))) rfl ?_
      refine eg_Vpv1 cs_X8_88 dX8_more_41 (bec isB_13 hb (by omega) hV1) (by first | exact er0 | exact ep0 hb | exact ep1 hb | exact ep3 hb | exact ep5 hb | exact ep7 hb | exact er25 | exact er34 | exact er181 | exact er182 | exact er196 | exact er199 | exact er156 | exact ep0 isB_13 | exact ep1 isB_13 | exact ep3 isB_13 | exact ep5 isB_13 | exact ep7 isB_13 | exact er26 | exact er27 | exact er28 | exact ep9 hb | exact ep10 hb | exact ep0 (isB_shelf _ (by omega))) rfl (Nat.le_of_ble_eq_true rfl) (by decide) ?_
      rintro y2 ⟨m2, v2⟩
      refine eg_al_n dX8_more_44 rfl rfl ?_
      refine eg_get fl_X8_16 dX8_more_45 (by first | exact er0 | exact ep0 hb | exact ep1 hb | exact ep3 hb | exact ep5 hb | exact ep7 hb | exact er25 | exact er34 | exact er181 | exact er182 | exact er196 | exact er199 | exact er156 | exact ep0 isB_13 | exact ep1 isB_13 | exact ep3 isB_13 | exact ep5 isB_13 | exact ep7 isB_13 | exact er26 | exact er27 | exact er28 | exact ep9 hb | exact ep10 hb | exact ep0 (isB_shelf _ (by omega))) rfl ?_
      refine eg_iload_n dX8_more_48 rfl ?_
      refine eg_iload_n dX8_more_49 rfl ?_
      refine eg_iload_n dX8_more_50 rfl ?_
      refine eg_iload dX8_more_51 rfl ?_
      refine eg_Vpf4 cs_X8_117 dX8_more_53 (c_X2_addNomination isB_13 v2.1 hv (by omega)) (by first | exact er0 | exact ep0 hb | exact ep1 hb | exact ep3 hb | exact ep5 hb | exact ep7 hb | exact er25 | exact er34 | exact er181 | exact er182 | exact er196 | exact er199 | exact er156 | exact ep0 isB_13 | exact ep1 isB_13 | exact ep3 isB_13 | exact ep5 isB_13 | exact ep7 isB_13 | exact er26 | exact er27 | exact er28 | exact ep9 hb | exact ep10 hb | exact ep0 (isB_shelf _ (by omega))) rfl (Nat.le_of_ble_eq_true rfl) (by decide) ?_
      rintro y3 ⟨m3, l3, hp3⟩
      have al := alB_to h12
      have ok9 : okV (addV s.1 a b c d) := okV_add hV1.2.2 (by omega) al.1 al.2.1 al.2.2.1 al.2.2.2.1 ⟨by omega, by omega⟩
      refine eg_istore dX8_more_56 rfl rfl rfl ?_
      refine eg_al_n dX8_more_58 rfl rfl ?_
      refine eg_get fl_X8_22 dX8_more_59 (by first | exact er0 | exact ep0 hb | exact ep1 hb | exact ep3 hb | exact ep5 hb | exact ep7 hb | exact er25 | exact er34 | exact er181 | exact er182 | exact er196 | exact er199 | exact er156 | exact ep0 isB_13 | exact ep1 isB_13 | exact ep3 isB_13 | exact ep5 isB_13 | exact ep7 isB_13 | exact er26 | exact er27 | exact er28 | exact ep9 hb | exact ep10 hb | exact ep0 (isB_shelf _ (by omega))) rfl ?_
      refine eg_al_n dX8_more_62 rfl rfl ?_
      refine eg_get fl_X8_16 dX8_more_63 (by first | exact er0 | exact ep0 hb | exact ep1 hb | exact ep3 hb | exact ep5 hb | exact ep7 hb | exact er25 | exact er34 | exact er181 | exact er182 | exact er196 | exact er199 | exact er156 | exact ep0 isB_13 | exact ep1 isB_13 | exact ep3 isB_13 | exact ep5 isB_13 | exact ep7 isB_13 | exact er26 | exact er27 | exact er28 | exact ep9 hb | exact ep10 hb | exact ep0 (isB_shelf _ (by omega))) rfl ?_
      refine eg_Vpv1 cs_X8_198 dX8_more_66 (c_X4_make isB_13 hp3 ok9.1 ok9.2.1) (by first | exact er0 | exact ep0 hb | exact ep1 hb | exact ep3 hb | exact ep5 hb | exact ep7 hb | exact er25 | exact er34 | exact er181 | exact er182 | exact er196 | exact er199 | exact er156 | exact ep0 isB_13 | exact ep1 isB_13 | exact ep3 isB_13 | exact ep5 isB_13 | exact ep7 isB_13 | exact er26 | exact er27 | exact er28 | exact ep9 hb | exact ep10 hb | exact ep0 (isB_shelf _ (by omega))) rfl (Nat.le_of_ble_eq_true rfl) (by decide) ?_
      rintro y4 ⟨m4, s4, f4⟩
      refine eg_al_n dX8_more_69 rfl rfl ?_
      refine eg_get fl_X8_22 dX8_more_70 (by first | exact er0 | exact ep0 hb | exact ep1 hb | exact ep3 hb | exact ep5 hb | exact ep7 hb | exact er25 | exact er34 | exact er181 | exact er182 | exact er196 | exact er199 | exact er156 | exact ep0 isB_13 | exact ep1 isB_13 | exact ep3 isB_13 | exact ep5 isB_13 | exact ep7 isB_13 | exact er26 | exact er27 | exact er28 | exact ep9 hb | exact ep10 hb | exact ep0 (isB_shelf _ (by omega))) rfl ?_
      refine eg_iload dX8_more_73 rfl ?_
      refine eg_Vf1 cs_X8_220 dX8_more_75 (c_X4_of (by omega) (by omega)) (by first | exact er0 | exact ep0 hb | exact ep1 hb | exact ep3 hb | exact ep5 hb | exact ep7 hb | exact er25 | exact er34 | exact er181 | exact er182 | exact er196 | exact er199 | exact er156 | exact ep0 isB_13 | exact ep1 isB_13 | exact ep3 isB_13 | exact ep5 isB_13 | exact ep7 isB_13 | exact er26 | exact er27 | exact er28 | exact ep9 hb | exact ep10 hb | exact ep0 (isB_shelf _ (by omega))) rfl (Nat.le_of_ble_eq_true rfl) (by decide) ?_
      refine eg_ireturn dX8_more_78 rfl rfl ?_
      rw [(s4.2.2.1 (s.1 3) (by omega) (by rw [addV_3]; omega)).1]
      refine ⟨congrArg (fun q => some (vI q)) ?_, rfl, y4, rfl, (((Fr.t m2).tr (Fr.t m3)).tr (Fr.s m4)).fc, (((Fr.t m2).tr (Fr.t m3)).tr (Fr.s m4)).ic hI⟩
      unfold A_more; (repeat (first | rw [if_pos (by first | assumption | omega)] | rw [if_neg (by first | assumption | omega)]))
    · refine eg_bipush dX8_more_30 (by decide) ?_
      refine eg_ireturn dX8_more_32 rfl rfl ?_
      refine ⟨congrArg (fun q => some (vI q)) ?_, rfl, z, rfl, (Fr.rf).fc, (Fr.rf).ic hI⟩
      unfold A_more; (repeat (first | rw [if_pos (by first | assumption | omega)] | rw [if_neg (by first | assumption | omega)]))
  · refine eg_iconst dX8_more_15 ?_
    refine eg_ireturn dX8_more_16 rfl rfl ?_
    refine ⟨congrArg (fun q => some (vI q)) ?_, rfl, z, rfl, (Fr.rf).fc, (Fr.rf).ic hI⟩
    unfold A_more; (repeat (first | rw [if_pos (by first | assumption | omega)] | rw [if_neg (by first | assumption | omega)]))
theorem p_gain {k : eg_K} {z : eg_Z} {X : eg_M} {n : Nat} {s : eg_S} (hI : IC z s) {a : Int} (r_a : iR a) : eg_P k gX8_gain 5 0 0 [vR k 0, vI a] n (enc k z X) (eg_p k (some (vI (A_gain s.1 a))) n X (fun z' => FC z z' ∧ IC z' s)) := by
  refine eg_P.of (by decide) (Nat.le_of_ble_eq_true rfl) ?_
  show eg_E k gX8_gain 5 0 0 n (enc k z X) [vR k 0, vI a, vU] [] 0 _
  obtain ⟨hV1, hHi, ⟨hkb, hsh⟩, hT, hTl, hTb⟩ := id hI
  have hb := isB_1
  have hp := hV1.1
  have hv := hV1.2.2.1
  have q := hv.r.2
  obtain ⟨⟨z0, z1, z2, z3⟩, ⟨c1, c3, c5, c7⟩, -⟩ := id hp
  have r_a1 := r_a.1; have r_a2 := r_a.2
  refine eg_al_n dX8_gain_0 rfl rfl ?_
  refine eg_get fl_X8_12 dX8_gain_1 (by first | exact er0 | exact ep0 hb | exact ep1 hb | exact ep3 hb | exact ep5 hb | exact ep7 hb | exact er25 | exact er34 | exact er181 | exact er182 | exact er196 | exact er199 | exact er156 | exact ep0 isB_13 | exact ep1 isB_13 | exact ep3 isB_13 | exact ep5 isB_13 | exact ep7 isB_13 | exact er26 | exact er27 | exact er28 | exact ep9 hb | exact ep10 hb | exact ep0 (isB_shelf _ (by omega))) rfl ?_
  refine eg_get fl_X8_108 dX8_gain_4 (by first | exact er0 | exact ep0 hb | exact ep1 hb | exact ep3 hb | exact ep5 hb | exact ep7 hb | exact er25 | exact er34 | exact er181 | exact er182 | exact er196 | exact er199 | exact er156 | exact ep0 isB_13 | exact ep1 isB_13 | exact ep3 isB_13 | exact ep5 isB_13 | exact ep7 isB_13 | exact er26 | exact er27 | exact er28 | exact ep9 hb | exact ep10 hb | exact ep0 (isB_shelf _ (by omega))) rfl ?_
  refine eg_iload_n dX8_gain_7 rfl ?_
  refine eg_Vf1 cs_X8_121 dX8_gain_8 (nm_has hb hp hv r_a) (by first | exact er0 | exact ep0 hb | exact ep1 hb | exact ep3 hb | exact ep5 hb | exact ep7 hb | exact er25 | exact er34 | exact er181 | exact er182 | exact er196 | exact er199 | exact er156 | exact ep0 isB_13 | exact ep1 isB_13 | exact ep3 isB_13 | exact ep5 isB_13 | exact ep7 isB_13 | exact er26 | exact er27 | exact er28 | exact ep9 hb | exact ep10 hb | exact ep0 (isB_shelf _ (by omega))) rfl (Nat.le_of_ble_eq_true rfl) (by decide) ?_
  refine eg_bi_ne 16 dX8_gain_11 rfl (fun h11 => ?_) (fun h11 => ?_)
  · refine eg_al_n dX8_gain_16 rfl rfl ?_
    refine eg_get fl_X8_22 dX8_gain_17 (by first | exact er0 | exact ep0 hb | exact ep1 hb | exact ep3 hb | exact ep5 hb | exact ep7 hb | exact er25 | exact er34 | exact er181 | exact er182 | exact er196 | exact er199 | exact er156 | exact ep0 isB_13 | exact ep1 isB_13 | exact ep3 isB_13 | exact ep5 isB_13 | exact ep7 isB_13 | exact er26 | exact er27 | exact er28 | exact ep9 hb | exact ep10 hb | exact ep0 (isB_shelf _ (by omega))) rfl ?_
    refine eg_al_n dX8_gain_20 rfl rfl ?_
    refine eg_get fl_X8_12 dX8_gain_21 (by first | exact er0 | exact ep0 hb | exact ep1 hb | exact ep3 hb | exact ep5 hb | exact ep7 hb | exact er25 | exact er34 | exact er181 | exact er182 | exact er196 | exact er199 | exact er156 | exact ep0 isB_13 | exact ep1 isB_13 | exact ep3 isB_13 | exact ep5 isB_13 | exact ep7 isB_13 | exact er26 | exact er27 | exact er28 | exact ep9 hb | exact ep10 hb | exact ep0 (isB_shelf _ (by omega))) rfl ?_
    refine eg_Vpv1 cs_X8_198 dX8_gain_24 (c_X4_make hb hp hv hV1.2.2.2.1) (by first | exact er0 | exact ep0 hb | exact ep1 hb | exact ep3 hb | exact ep5 hb | exact ep7 hb | exact er25 | exact er34 | exact er181 | exact er182 | exact er196 | exact er199 | exact er156 | exact ep0 isB_13 | exact ep1 isB_13 | exact ep3 isB_13 | exact ep5 isB_13 | exact ep7 isB_13 | exact er26 | exact er27 | exact er28 | exact ep9 hb | exact ep10 hb | exact ep0 (isB_shelf _ (by omega))) rfl (Nat.le_of_ble_eq_true rfl) (by decide) ?_
    rintro y1 ⟨m1, s1, f1⟩
    have f9 : Fr z y1 := Fr.s m1
    have hp1 := m1.hP hb hp
    refine eg_al_n dX8_gain_27 rfl rfl ?_
    refine eg_get fl_X8_22 dX8_gain_28 (by first | exact er0 | exact ep0 hb | exact ep1 hb | exact ep3 hb | exact ep5 hb | exact ep7 hb | exact er25 | exact er34 | exact er181 | exact er182 | exact er196 | exact er199 | exact er156 | exact ep0 isB_13 | exact ep1 isB_13 | exact ep3 isB_13 | exact ep5 isB_13 | exact ep7 isB_13 | exact er26 | exact er27 | exact er28 | exact ep9 hb | exact ep10 hb | exact ep0 (isB_shelf _ (by omega))) rfl ?_
    refine eg_Vf0 cs_X8_183 dX8_gain_31 (c_X4_inAll (p := SS s.1 10) (m3 := (s.1 3).toNat) (by omega) (by rw [s1.1]; omega) (fun q9 g0 g1 => (s1.2.2.1 q9 g0 (by omega)).1)) (by first | exact er0 | exact ep0 hb | exact ep1 hb | exact ep3 hb | exact ep5 hb | exact ep7 hb | exact er25 | exact er34 | exact er181 | exact er182 | exact er196 | exact er199 | exact er156 | exact ep0 isB_13 | exact ep1 isB_13 | exact ep3 isB_13 | exact ep5 isB_13 | exact ep7 isB_13 | exact er26 | exact er27 | exact er28 | exact ep9 hb | exact ep10 hb | exact ep0 (isB_shelf _ (by omega))) rfl (Nat.le_of_ble_eq_true rfl) (by decide) ?_
    refine eg_al_n dX8_gain_34 rfl rfl ?_
    refine eg_get fl_X8_22 dX8_gain_35 (by first | exact er0 | exact ep0 hb | exact ep1 hb | exact ep3 hb | exact ep5 hb | exact ep7 hb | exact er25 | exact er34 | exact er181 | exact er182 | exact er196 | exact er199 | exact er156 | exact ep0 isB_13 | exact ep1 isB_13 | exact ep3 isB_13 | exact ep5 isB_13 | exact ep7 isB_13 | exact er26 | exact er27 | exact er28 | exact ep9 hb | exact ep10 hb | exact ep0 (isB_shelf _ (by omega))) rfl ?_
    refine eg_iload_n dX8_gain_38 rfl ?_
    refine eg_Vf1 cs_X8_220 dX8_gain_39 (c_X4_of (by omega) (by omega)) (by first | exact er0 | exact ep0 hb | exact ep1 hb | exact ep3 hb | exact ep5 hb | exact ep7 hb | exact er25 | exact er34 | exact er181 | exact er182 | exact er196 | exact er199 | exact er156 | exact ep0 isB_13 | exact ep1 isB_13 | exact ep3 isB_13 | exact ep5 isB_13 | exact ep7 isB_13 | exact er26 | exact er27 | exact er28 | exact ep9 hb | exact ep10 hb | exact ep0 (isB_shelf _ (by omega))) rfl (Nat.le_of_ble_eq_true rfl) (by decide) ?_
    rw [(s1.2.2.1 a (by omega) (by omega)).1]
    refine eg_isub dX8_gain_42 ?_
    refine eg_istore_n dX8_gain_43 rfl rfl rfl ?_
    refine eg_al_n dX8_gain_44 rfl rfl ?_
    refine eg_get fl_X8_16 dX8_gain_45 (by first | exact er0 | exact ep0 hb | exact ep1 hb | exact ep3 hb | exact ep5 hb | exact ep7 hb | exact er25 | exact er34 | exact er181 | exact er182 | exact er196 | exact er199 | exact er156 | exact ep0 isB_13 | exact ep1 isB_13 | exact ep3 isB_13 | exact ep5 isB_13 | exact ep7 isB_13 | exact er26 | exact er27 | exact er28 | exact ep9 hb | exact ep10 hb | exact ep0 (isB_shelf _ (by omega))) rfl ?_
    refine eg_al_n dX8_gain_48 rfl rfl ?_
    refine eg_get fl_X8_12 dX8_gain_49 (by first | exact er0 | exact ep0 hb | exact ep1 hb | exact ep3 hb | exact ep5 hb | exact ep7 hb | exact er25 | exact er34 | exact er181 | exact er182 | exact er196 | exact er199 | exact er156 | exact ep0 isB_13 | exact ep1 isB_13 | exact ep3 isB_13 | exact ep5 isB_13 | exact ep7 isB_13 | exact er26 | exact er27 | exact er28 | exact ep9 hb | exact ep10 hb | exact ep0 (isB_shelf _ (by omega))) rfl ?_
    refine eg_Vpv1 cs_X8_88 dX8_gain_52 (bec isB_13 hb (by omega) (hV_c (fun j hj => m1 _ (by omega)) hV1)) (by first | exact er0 | exact ep0 hb | exact ep1 hb | exact ep3 hb | exact ep5 hb | exact ep7 hb | exact er25 | exact er34 | exact er181 | exact er182 | exact er196 | exact er199 | exact er156 | exact ep0 isB_13 | exact ep1 isB_13 | exact ep3 isB_13 | exact ep5 isB_13 | exact ep7 isB_13 | exact er26 | exact er27 | exact er28 | exact ep9 hb | exact ep10 hb | exact ep0 (isB_shelf _ (by omega))) rfl (Nat.le_of_ble_eq_true rfl) (by decide) ?_
    rintro y2 ⟨m2, v2⟩
    refine eg_al_n dX8_gain_55 rfl rfl ?_
    refine eg_get fl_X8_16 dX8_gain_56 (by first | exact er0 | exact ep0 hb | exact ep1 hb | exact ep3 hb | exact ep5 hb | exact ep7 hb | exact er25 | exact er34 | exact er181 | exact er182 | exact er196 | exact er199 | exact er156 | exact ep0 isB_13 | exact ep1 isB_13 | exact ep3 isB_13 | exact ep5 isB_13 | exact ep7 isB_13 | exact er26 | exact er27 | exact er28 | exact ep9 hb | exact ep10 hb | exact ep0 (isB_shelf _ (by omega))) rfl ?_
    refine eg_get fl_X8_108 dX8_gain_59 (by first | exact er0 | exact ep0 hb | exact ep1 hb | exact ep3 hb | exact ep5 hb | exact ep7 hb | exact er25 | exact er34 | exact er181 | exact er182 | exact er196 | exact er199 | exact er156 | exact ep0 isB_13 | exact ep1 isB_13 | exact ep3 isB_13 | exact ep5 isB_13 | exact ep7 isB_13 | exact er26 | exact er27 | exact er28 | exact ep9 hb | exact ep10 hb | exact ep0 (isB_shelf _ (by omega))) rfl ?_
    refine eg_iload_n dX8_gain_62 rfl ?_
    refine eg_Vpv1 cs_X8_133 dX8_gain_63 (nm_drop isB_13 v2.1 hv (by omega) (by omega)) (by first | exact er0 | exact ep0 hb | exact ep1 hb | exact ep3 hb | exact ep5 hb | exact ep7 hb | exact er25 | exact er34 | exact er181 | exact er182 | exact er196 | exact er199 | exact er156 | exact ep0 isB_13 | exact ep1 isB_13 | exact ep3 isB_13 | exact ep5 isB_13 | exact ep7 isB_13 | exact er26 | exact er27 | exact er28 | exact ep9 hb | exact ep10 hb | exact ep0 (isB_shelf _ (by omega))) rfl (Nat.le_of_ble_eq_true rfl) (by decide) ?_
    rintro y3 ⟨m3, l3, hp3⟩
    have ok9 := okV_rem hV1.2.2 (k := a) (by omega) (by omega)
    refine eg_al_n dX8_gain_66 rfl rfl ?_
    refine eg_get fl_X8_22 dX8_gain_67 (by first | exact er0 | exact ep0 hb | exact ep1 hb | exact ep3 hb | exact ep5 hb | exact ep7 hb | exact er25 | exact er34 | exact er181 | exact er182 | exact er196 | exact er199 | exact er156 | exact ep0 isB_13 | exact ep1 isB_13 | exact ep3 isB_13 | exact ep5 isB_13 | exact ep7 isB_13 | exact er26 | exact er27 | exact er28 | exact ep9 hb | exact ep10 hb | exact ep0 (isB_shelf _ (by omega))) rfl ?_
    refine eg_al_n dX8_gain_70 rfl rfl ?_
    refine eg_get fl_X8_16 dX8_gain_71 (by first | exact er0 | exact ep0 hb | exact ep1 hb | exact ep3 hb | exact ep5 hb | exact ep7 hb | exact er25 | exact er34 | exact er181 | exact er182 | exact er196 | exact er199 | exact er156 | exact ep0 isB_13 | exact ep1 isB_13 | exact ep3 isB_13 | exact ep5 isB_13 | exact ep7 isB_13 | exact er26 | exact er27 | exact er28 | exact ep9 hb | exact ep10 hb | exact ep0 (isB_shelf _ (by omega))) rfl ?_
    refine eg_Vpv1 cs_X8_198 dX8_gain_74 (c_X4_make isB_13 hp3 ok9.1 ok9.2.1) (by first | exact er0 | exact ep0 hb | exact ep1 hb | exact ep3 hb | exact ep5 hb | exact ep7 hb | exact er25 | exact er34 | exact er181 | exact er182 | exact er196 | exact er199 | exact er156 | exact ep0 isB_13 | exact ep1 isB_13 | exact ep3 isB_13 | exact ep5 isB_13 | exact ep7 isB_13 | exact er26 | exact er27 | exact er28 | exact ep9 hb | exact ep10 hb | exact ep0 (isB_shelf _ (by omega))) rfl (Nat.le_of_ble_eq_true rfl) (by decide) ?_
    rintro y4 ⟨m4, s4, f4⟩
    refine eg_al_n dX8_gain_77 rfl rfl ?_
    refine eg_get fl_X8_22 dX8_gain_78 (by first | exact er0 | exact ep0 hb | exact ep1 hb | exact ep3 hb | exact ep5 hb | exact ep7 hb | exact er25 | exact er34 | exact er181 | exact er182 | exact er196 | exact er199 | exact er156 | exact ep0 isB_13 | exact ep1 isB_13 | exact ep3 isB_13 | exact ep5 isB_13 | exact ep7 isB_13 | exact er26 | exact er27 | exact er28 | exact ep9 hb | exact ep10 hb | exact ep0 (isB_shelf _ (by omega))) rfl ?_
    refine eg_Vf0 cs_X8_183 dX8_gain_81 (c_X4_inAll (p := SS (remV s.1 a) 10) (m3 := (s.1 3 - 1).toNat) (by omega) (by rw [s4.1, remV_3]; omega) (fun q9 g0 g1 => (s4.2.2.1 q9 g0 (by rw [remV_3]; omega)).1)) (by first | exact er0 | exact ep0 hb | exact ep1 hb | exact ep3 hb | exact ep5 hb | exact ep7 hb | exact er25 | exact er34 | exact er181 | exact er182 | exact er196 | exact er199 | exact er156 | exact ep0 isB_13 | exact ep1 isB_13 | exact ep3 isB_13 | exact ep5 isB_13 | exact ep7 isB_13 | exact er26 | exact er27 | exact er28 | exact ep9 hb | exact ep10 hb | exact ep0 (isB_shelf _ (by omega))) rfl (Nat.le_of_ble_eq_true rfl) (by decide) ?_
    refine eg_iload_n dX8_gain_84 rfl ?_
    refine eg_isub dX8_gain_85 ?_
    refine eg_ldc kw_X8_247 dX8_gain_86 ?_
    refine eg_iadd dX8_gain_88 ?_
    refine eg_ireturn dX8_gain_89 rfl rfl ?_
    refine ⟨congrArg (fun q => some (vI q)) ?_, rfl, y4, rfl, ((((Fr.s m1).tr (Fr.t m2)).tr (Fr.t m3)).tr (Fr.s m4)).fc, ((((Fr.s m1).tr (Fr.t m2)).tr (Fr.t m3)).tr (Fr.s m4)).ic hI⟩
    unfold A_gain; (repeat (first | rw [if_pos (by first | assumption | omega)] | rw [if_neg (by first | assumption | omega)]))
  · refine eg_iconst dX8_gain_14 ?_
    refine eg_ireturn dX8_gain_15 rfl rfl ?_
    refine ⟨congrArg (fun q => some (vI q)) ?_, rfl, z, rfl, (Fr.rf).fc, (Fr.rf).ic hI⟩
    unfold A_gain; (repeat (first | rw [if_pos (by first | assumption | omega)] | rw [if_neg (by first | assumption | omega)]))
theorem p_widen {k : eg_K} {z : eg_Z} {X : eg_M} {n : Nat} {s : eg_S} (hI : IC z s) {a b c : Int} (r_a : iR a) (r_b : iR b) (r_c : iR c) : eg_P k gX8_widen 5 0 0 [vR k 0, vI a, vI b, vI c] n (enc k z X) (eg_p k (some (vI (A_widen s.1 a b c))) n X (fun z' => FC z z' ∧ IC z' s)) := by
  refine eg_P.of (by decide) (Nat.le_of_ble_eq_true rfl) ?_
  show eg_E k gX8_widen 5 0 0 n (enc k z X) [vR k 0, vI a, vI b, vI c, vU] [] 0 _
  obtain ⟨hV1, hHi, ⟨hkb, hsh⟩, hT, hTl, hTb⟩ := id hI
  have hb := isB_1
  have hp := hV1.1
  have hv := hV1.2.2.1
  have q := hv.r.2
  obtain ⟨⟨z0, z1, z2, z3⟩, ⟨c1, c3, c5, c7⟩, -⟩ := id hp
  have r_a1 := r_a.1; have r_a2 := r_a.2
  have r_b1 := r_b.1; have r_b2 := r_b.2
  have r_c1 := r_c.1; have r_c2 := r_c.2
  refine eg_al_n dX8_widen_0 rfl rfl ?_
  refine eg_get fl_X8_12 dX8_widen_1 (by first | exact er0 | exact ep0 hb | exact ep1 hb | exact ep3 hb | exact ep5 hb | exact ep7 hb | exact er25 | exact er34 | exact er181 | exact er182 | exact er196 | exact er199 | exact er156 | exact ep0 isB_13 | exact ep1 isB_13 | exact ep3 isB_13 | exact ep5 isB_13 | exact ep7 isB_13 | exact er26 | exact er27 | exact er28 | exact ep9 hb | exact ep10 hb | exact ep0 (isB_shelf _ (by omega))) rfl ?_
  refine eg_iload_n dX8_widen_4 rfl ?_
  refine eg_iload_n dX8_widen_5 rfl ?_
  refine eg_Vf2 cs_X8_136 dX8_widen_6 (c_X2_hasCap hb hp hv r_a r_b) (by first | exact er0 | exact ep0 hb | exact ep1 hb | exact ep3 hb | exact ep5 hb | exact ep7 hb | exact er25 | exact er34 | exact er181 | exact er182 | exact er196 | exact er199 | exact er156 | exact ep0 isB_13 | exact ep1 isB_13 | exact ep3 isB_13 | exact ep5 isB_13 | exact ep7 isB_13 | exact er26 | exact er27 | exact er28 | exact ep9 hb | exact ep10 hb | exact ep0 (isB_shelf _ (by omega))) rfl (Nat.le_of_ble_eq_true rfl) (by decide) ?_
  refine eg_bi_eq 23 dX8_widen_9 rfl (fun h9 => ?_) (fun h9 => ?_)
  · refine eg_iconst dX8_widen_23 ?_
    refine eg_ireturn dX8_widen_24 rfl rfl ?_
    refine ⟨congrArg (fun q => some (vI q)) ?_, rfl, z, rfl, (Fr.rf).fc, (Fr.rf).ic hI⟩
    unfold A_widen; rw [if_neg]; omega
  · refine eg_iload_n dX8_widen_12 rfl ?_
    refine eg_iconst dX8_widen_13 ?_
    refine eg_sipush dX8_widen_14 (by decide) ?_
    refine eg_Sf3 cs_X8_79 dX8_widen_17 (c_X8_within ⟨by omega, by omega⟩ ⟨by omega, by omega⟩ ⟨by omega, by omega⟩) (Nat.le_of_ble_eq_true rfl) (by decide) ?_
    refine eg_bi_ne 25 dX8_widen_20 rfl (fun h20 => ?_) (fun h20 => ?_)
    · refine eg_al_n dX8_widen_25 rfl rfl ?_
      refine eg_get fl_X8_22 dX8_widen_26 (by first | exact er0 | exact ep0 hb | exact ep1 hb | exact ep3 hb | exact ep5 hb | exact ep7 hb | exact er25 | exact er34 | exact er181 | exact er182 | exact er196 | exact er199 | exact er156 | exact ep0 isB_13 | exact ep1 isB_13 | exact ep3 isB_13 | exact ep5 isB_13 | exact ep7 isB_13 | exact er26 | exact er27 | exact er28 | exact ep9 hb | exact ep10 hb | exact ep0 (isB_shelf _ (by omega))) rfl ?_
      refine eg_al_n dX8_widen_29 rfl rfl ?_
      refine eg_get fl_X8_12 dX8_widen_30 (by first | exact er0 | exact ep0 hb | exact ep1 hb | exact ep3 hb | exact ep5 hb | exact ep7 hb | exact er25 | exact er34 | exact er181 | exact er182 | exact er196 | exact er199 | exact er156 | exact ep0 isB_13 | exact ep1 isB_13 | exact ep3 isB_13 | exact ep5 isB_13 | exact ep7 isB_13 | exact er26 | exact er27 | exact er28 | exact ep9 hb | exact ep10 hb | exact ep0 (isB_shelf _ (by omega))) rfl ?_
      refine eg_Vpv1 cs_X8_198 dX8_widen_33 (c_X4_make hb hp hv hV1.2.2.2.1) (by first | exact er0 | exact ep0 hb | exact ep1 hb | exact ep3 hb | exact ep5 hb | exact ep7 hb | exact er25 | exact er34 | exact er181 | exact er182 | exact er196 | exact er199 | exact er156 | exact ep0 isB_13 | exact ep1 isB_13 | exact ep3 isB_13 | exact ep5 isB_13 | exact ep7 isB_13 | exact er26 | exact er27 | exact er28 | exact ep9 hb | exact ep10 hb | exact ep0 (isB_shelf _ (by omega))) rfl (Nat.le_of_ble_eq_true rfl) (by decide) ?_
      rintro y1 ⟨m1, s1, f1⟩
      have f9 : Fr z y1 := Fr.s m1
      have hp1 := m1.hP hb hp
      refine eg_al_n dX8_widen_36 rfl rfl ?_
      refine eg_get fl_X8_22 dX8_widen_37 (by first | exact er0 | exact ep0 hb | exact ep1 hb | exact ep3 hb | exact ep5 hb | exact ep7 hb | exact er25 | exact er34 | exact er181 | exact er182 | exact er196 | exact er199 | exact er156 | exact ep0 isB_13 | exact ep1 isB_13 | exact ep3 isB_13 | exact ep5 isB_13 | exact ep7 isB_13 | exact er26 | exact er27 | exact er28 | exact ep9 hb | exact ep10 hb | exact ep0 (isB_shelf _ (by omega))) rfl ?_
      refine eg_Vf0 cs_X8_183 dX8_widen_40 (c_X4_inAll (p := SS s.1 10) (m3 := (s.1 3).toNat) (by omega) (by rw [s1.1]; omega) (fun q9 g0 g1 => (s1.2.2.1 q9 g0 (by omega)).1)) (by first | exact er0 | exact ep0 hb | exact ep1 hb | exact ep3 hb | exact ep5 hb | exact ep7 hb | exact er25 | exact er34 | exact er181 | exact er182 | exact er196 | exact er199 | exact er156 | exact ep0 isB_13 | exact ep1 isB_13 | exact ep3 isB_13 | exact ep5 isB_13 | exact ep7 isB_13 | exact er26 | exact er27 | exact er28 | exact ep9 hb | exact ep10 hb | exact ep0 (isB_shelf _ (by omega))) rfl (Nat.le_of_ble_eq_true rfl) (by decide) ?_
      refine eg_istore dX8_widen_43 rfl rfl rfl ?_
      refine eg_al_n dX8_widen_45 rfl rfl ?_
      refine eg_get fl_X8_16 dX8_widen_46 (by first | exact er0 | exact ep0 hb | exact ep1 hb | exact ep3 hb | exact ep5 hb | exact ep7 hb | exact er25 | exact er34 | exact er181 | exact er182 | exact er196 | exact er199 | exact er156 | exact ep0 isB_13 | exact ep1 isB_13 | exact ep3 isB_13 | exact ep5 isB_13 | exact ep7 isB_13 | exact er26 | exact er27 | exact er28 | exact ep9 hb | exact ep10 hb | exact ep0 (isB_shelf _ (by omega))) rfl ?_
      refine eg_al_n dX8_widen_49 rfl rfl ?_
      refine eg_get fl_X8_12 dX8_widen_50 (by first | exact er0 | exact ep0 hb | exact ep1 hb | exact ep3 hb | exact ep5 hb | exact ep7 hb | exact er25 | exact er34 | exact er181 | exact er182 | exact er196 | exact er199 | exact er156 | exact ep0 isB_13 | exact ep1 isB_13 | exact ep3 isB_13 | exact ep5 isB_13 | exact ep7 isB_13 | exact er26 | exact er27 | exact er28 | exact ep9 hb | exact ep10 hb | exact ep0 (isB_shelf _ (by omega))) rfl ?_
      refine eg_Vpv1 cs_X8_88 dX8_widen_53 (bec isB_13 hb (by omega) (hV_c (fun j hj => m1 _ (by omega)) hV1)) (by first | exact er0 | exact ep0 hb | exact ep1 hb | exact ep3 hb | exact ep5 hb | exact ep7 hb | exact er25 | exact er34 | exact er181 | exact er182 | exact er196 | exact er199 | exact er156 | exact ep0 isB_13 | exact ep1 isB_13 | exact ep3 isB_13 | exact ep5 isB_13 | exact ep7 isB_13 | exact er26 | exact er27 | exact er28 | exact ep9 hb | exact ep10 hb | exact ep0 (isB_shelf _ (by omega))) rfl (Nat.le_of_ble_eq_true rfl) (by decide) ?_
      rintro y2 ⟨m2, v2⟩
      refine eg_al_n dX8_widen_56 rfl rfl ?_
      refine eg_get fl_X8_16 dX8_widen_57 (by first | exact er0 | exact ep0 hb | exact ep1 hb | exact ep3 hb | exact ep5 hb | exact ep7 hb | exact er25 | exact er34 | exact er181 | exact er182 | exact er196 | exact er199 | exact er156 | exact ep0 isB_13 | exact ep1 isB_13 | exact ep3 isB_13 | exact ep5 isB_13 | exact ep7 isB_13 | exact er26 | exact er27 | exact er28 | exact ep9 hb | exact ep10 hb | exact ep0 (isB_shelf _ (by omega))) rfl ?_
      refine eg_iload_n dX8_widen_60 rfl ?_
      refine eg_iload_n dX8_widen_61 rfl ?_
      refine eg_iload_n dX8_widen_62 rfl ?_
      refine eg_Vpv3 cs_X8_143 dX8_widen_63 (c_X2_putCap isB_13 v2.1 hv h9) (by first | exact er0 | exact ep0 hb | exact ep1 hb | exact ep3 hb | exact ep5 hb | exact ep7 hb | exact er25 | exact er34 | exact er181 | exact er182 | exact er196 | exact er199 | exact er156 | exact ep0 isB_13 | exact ep1 isB_13 | exact ep3 isB_13 | exact ep5 isB_13 | exact ep7 isB_13 | exact er26 | exact er27 | exact er28 | exact ep9 hb | exact ep10 hb | exact ep0 (isB_shelf _ (by omega))) rfl (Nat.le_of_ble_eq_true rfl) (by decide) ?_
      rintro y3 ⟨m3, l3, hp3⟩
      have hp3 : hP y3 13 (wdV s.1 a b c) := hp3
      have e3 : wdV s.1 a b c 3 = s.1 3 := by unfold wdV; exact va_up_n _ _ (by split <;> omega)
      have ok9 : okV (wdV s.1 a b c) := by
        unfold wdV
        rcases h9 with ⟨e, h⟩ | ⟨e, h⟩
        · rw [if_pos e]; exact okV_p hV1.2.2 h.1 h.2 (by omega)
        · rw [if_neg (by omega)]; exact okV_s hV1.2.2 h.1 (by omega) (by omega)
      refine eg_al_n dX8_widen_66 rfl rfl ?_
      refine eg_get fl_X8_22 dX8_widen_67 (by first | exact er0 | exact ep0 hb | exact ep1 hb | exact ep3 hb | exact ep5 hb | exact ep7 hb | exact er25 | exact er34 | exact er181 | exact er182 | exact er196 | exact er199 | exact er156 | exact ep0 isB_13 | exact ep1 isB_13 | exact ep3 isB_13 | exact ep5 isB_13 | exact ep7 isB_13 | exact er26 | exact er27 | exact er28 | exact ep9 hb | exact ep10 hb | exact ep0 (isB_shelf _ (by omega))) rfl ?_
      refine eg_al_n dX8_widen_70 rfl rfl ?_
      refine eg_get fl_X8_16 dX8_widen_71 (by first | exact er0 | exact ep0 hb | exact ep1 hb | exact ep3 hb | exact ep5 hb | exact ep7 hb | exact er25 | exact er34 | exact er181 | exact er182 | exact er196 | exact er199 | exact er156 | exact ep0 isB_13 | exact ep1 isB_13 | exact ep3 isB_13 | exact ep5 isB_13 | exact ep7 isB_13 | exact er26 | exact er27 | exact er28 | exact ep9 hb | exact ep10 hb | exact ep0 (isB_shelf _ (by omega))) rfl ?_
      refine eg_Vpv1 cs_X8_198 dX8_widen_74 (c_X4_make isB_13 hp3 ok9.1 ok9.2.1) (by first | exact er0 | exact ep0 hb | exact ep1 hb | exact ep3 hb | exact ep5 hb | exact ep7 hb | exact er25 | exact er34 | exact er181 | exact er182 | exact er196 | exact er199 | exact er156 | exact ep0 isB_13 | exact ep1 isB_13 | exact ep3 isB_13 | exact ep5 isB_13 | exact ep7 isB_13 | exact er26 | exact er27 | exact er28 | exact ep9 hb | exact ep10 hb | exact ep0 (isB_shelf _ (by omega))) rfl (Nat.le_of_ble_eq_true rfl) (by decide) ?_
      rintro y4 ⟨m4, s4, f4⟩
      refine eg_al_n dX8_widen_77 rfl rfl ?_
      refine eg_get fl_X8_22 dX8_widen_78 (by first | exact er0 | exact ep0 hb | exact ep1 hb | exact ep3 hb | exact ep5 hb | exact ep7 hb | exact er25 | exact er34 | exact er181 | exact er182 | exact er196 | exact er199 | exact er156 | exact ep0 isB_13 | exact ep1 isB_13 | exact ep3 isB_13 | exact ep5 isB_13 | exact ep7 isB_13 | exact er26 | exact er27 | exact er28 | exact ep9 hb | exact ep10 hb | exact ep0 (isB_shelf _ (by omega))) rfl ?_
      refine eg_Vf0 cs_X8_183 dX8_widen_81 (c_X4_inAll (p := SS (wdV s.1 a b c) 10) (m3 := (s.1 3).toNat) (by omega) (by rw [s4.1, e3]; omega) (fun q9 g0 g1 => (s4.2.2.1 q9 g0 (by rw [e3]; omega)).1)) (by first | exact er0 | exact ep0 hb | exact ep1 hb | exact ep3 hb | exact ep5 hb | exact ep7 hb | exact er25 | exact er34 | exact er181 | exact er182 | exact er196 | exact er199 | exact er156 | exact ep0 isB_13 | exact ep1 isB_13 | exact ep3 isB_13 | exact ep5 isB_13 | exact ep7 isB_13 | exact er26 | exact er27 | exact er28 | exact ep9 hb | exact ep10 hb | exact ep0 (isB_shelf _ (by omega))) rfl (Nat.le_of_ble_eq_true rfl) (by decide) ?_
      refine eg_iload dX8_widen_84 rfl ?_
      refine eg_isub dX8_widen_86 ?_
      refine eg_ldc kw_X8_247 dX8_widen_87 ?_
      refine eg_iadd dX8_widen_89 ?_
      refine eg_ireturn dX8_widen_90 rfl rfl ?_
      refine ⟨congrArg (fun q => some (vI q)) ?_, rfl, y4, rfl, ((((Fr.s m1).tr (Fr.t m2)).tr (Fr.t m3)).tr (Fr.s m4)).fc, ((((Fr.s m1).tr (Fr.t m2)).tr (Fr.t m3)).tr (Fr.s m4)).ic hI⟩
      unfold A_widen; rw [if_pos ⟨h9, by omega⟩]
    · refine eg_iconst dX8_widen_23 ?_
      refine eg_ireturn dX8_widen_24 rfl rfl ?_
      refine ⟨congrArg (fun q => some (vI q)) ?_, rfl, z, rfl, (Fr.rf).fc, (Fr.rf).ic hI⟩
      unfold A_widen; rw [if_neg]; omega
theorem p_log {k : eg_K} {z : eg_Z} {X : eg_M} {n : Nat} {s : eg_S} (hI : IC z s) {a b : Int} (r_a : iR a) (r_b : iR b) : eg_P k gX8_log 2 0 0 [vR k 0, vI a, vI b] n (enc k z X) (eg_p k (some (vI (A_log s.1 a b))) n X (fun z' => FC z z' ∧ IC z' s)) := by
  refine eg_P.of (by decide) (Nat.le_of_ble_eq_true rfl) ?_
  show eg_E k gX8_log 2 0 0 n (enc k z X) [vR k 0, vI a, vI b] [] 0 _
  obtain ⟨hV1, hHi, ⟨hkb, hsh⟩, hT, hTl, hTb⟩ := id hI
  have hb := isB_1
  have hp := hV1.1
  have hv := hV1.2.2.1
  have q := hv.r.2
  obtain ⟨⟨z0, z1, z2, z3⟩, ⟨c1, c3, c5, c7⟩, -⟩ := id hp
  have r_a1 := r_a.1; have r_a2 := r_a.2
  have r_b1 := r_b.1; have r_b2 := r_b.2
  refine eg_al_n dX8_log_0 rfl rfl ?_
  refine eg_get fl_X8_12 dX8_log_1 (by first | exact er0 | exact ep0 hb | exact ep1 hb | exact ep3 hb | exact ep5 hb | exact ep7 hb | exact er25 | exact er34 | exact er181 | exact er182 | exact er196 | exact er199 | exact er156 | exact ep0 isB_13 | exact ep1 isB_13 | exact ep3 isB_13 | exact ep5 isB_13 | exact ep7 isB_13 | exact er26 | exact er27 | exact er28 | exact ep9 hb | exact ep10 hb | exact ep0 (isB_shelf _ (by omega))) rfl ?_
  refine eg_get fl_X8_146 dX8_log_4 (by first | exact er0 | exact ep0 hb | exact ep1 hb | exact ep3 hb | exact ep5 hb | exact ep7 hb | exact er25 | exact er34 | exact er181 | exact er182 | exact er196 | exact er199 | exact er156 | exact ep0 isB_13 | exact ep1 isB_13 | exact ep3 isB_13 | exact ep5 isB_13 | exact ep7 isB_13 | exact er26 | exact er27 | exact er28 | exact ep9 hb | exact ep10 hb | exact ep0 (isB_shelf _ (by omega))) rfl ?_
  refine eg_iload_n dX8_log_7 rfl ?_
  refine eg_Vf1 cs_X8_121 dX8_log_8 (sh_has hb hp hv r_b) (by first | exact er0 | exact ep0 hb | exact ep1 hb | exact ep3 hb | exact ep5 hb | exact ep7 hb | exact er25 | exact er34 | exact er181 | exact er182 | exact er196 | exact er199 | exact er156 | exact ep0 isB_13 | exact ep1 isB_13 | exact ep3 isB_13 | exact ep5 isB_13 | exact ep7 isB_13 | exact er26 | exact er27 | exact er28 | exact ep9 hb | exact ep10 hb | exact ep0 (isB_shelf _ (by omega))) rfl (Nat.le_of_ble_eq_true rfl) (by decide) ?_
  refine eg_bi_eq 31 dX8_log_11 rfl (fun h11 => ?_) (fun h11 => ?_)
  · refine eg_ldc kw_X8_254 dX8_log_31 ?_
    refine eg_ireturn dX8_log_33 rfl rfl ?_
    refine ⟨congrArg (fun q => some (vI q)) ?_, rfl, z, rfl, (Fr.rf).fc, (Fr.rf).ic hI⟩
    unfold A_log; rw [if_neg]; (try split at h28) <;> omega
  · refine eg_iload_n dX8_log_14 rfl ?_
    refine eg_iconst dX8_log_15 ?_
    refine eg_al_n dX8_log_16 rfl rfl ?_
    refine eg_get fl_X8_12 dX8_log_17 (by first | exact er0 | exact ep0 hb | exact ep1 hb | exact ep3 hb | exact ep5 hb | exact ep7 hb | exact er25 | exact er34 | exact er181 | exact er182 | exact er196 | exact er199 | exact er156 | exact ep0 isB_13 | exact ep1 isB_13 | exact ep3 isB_13 | exact ep5 isB_13 | exact ep7 isB_13 | exact er26 | exact er27 | exact er28 | exact ep9 hb | exact ep10 hb | exact ep0 (isB_shelf _ (by omega))) rfl ?_
    refine eg_Vf0 cs_X8_251 dX8_log_20 (c_X2_logged hb hp hv) (by first | exact er0 | exact ep0 hb | exact ep1 hb | exact ep3 hb | exact ep5 hb | exact ep7 hb | exact er25 | exact er34 | exact er181 | exact er182 | exact er196 | exact er199 | exact er156 | exact ep0 isB_13 | exact ep1 isB_13 | exact ep3 isB_13 | exact ep5 isB_13 | exact ep7 isB_13 | exact er26 | exact er27 | exact er28 | exact ep9 hb | exact ep10 hb | exact ep0 (isB_shelf _ (by omega))) rfl (Nat.le_of_ble_eq_true rfl) (by decide) ?_
    refine eg_iconst dX8_log_23 ?_
    refine eg_isub dX8_log_24 ?_
    refine eg_Sf3 cs_X8_79 dX8_log_25 (c_X8_within r_a ⟨by omega, by omega⟩ ⟨by split <;> omega, by split <;> omega⟩) (Nat.le_of_ble_eq_true rfl) (by decide) ?_
    refine eg_bi_ne 34 dX8_log_28 rfl (fun h28 => ?_) (fun h28 => ?_)
    · refine eg_al_n dX8_log_34 rfl rfl ?_
      have h9 : a < 8 ∧ a < s.1 4 := by split at h28 <;> omega
      refine eg_get fl_X8_12 dX8_log_35 (by first | exact er0 | exact ep0 hb | exact ep1 hb | exact ep3 hb | exact ep5 hb | exact ep7 hb | exact er25 | exact er34 | exact er181 | exact er182 | exact er196 | exact er199 | exact er156 | exact ep0 isB_13 | exact ep1 isB_13 | exact ep3 isB_13 | exact ep5 isB_13 | exact ep7 isB_13 | exact er26 | exact er27 | exact er28 | exact ep9 hb | exact ep10 hb | exact ep0 (isB_shelf _ (by omega))) rfl ?_
      refine eg_iload_n dX8_log_38 rfl ?_
      refine eg_iload_n dX8_log_39 rfl ?_
      refine eg_Vf2 cs_X8_255 dX8_log_40 (c_X2_loggedBalance hb hp hv (by omega) (by omega)) (by first | exact er0 | exact ep0 hb | exact ep1 hb | exact ep3 hb | exact ep5 hb | exact ep7 hb | exact er25 | exact er34 | exact er181 | exact er182 | exact er196 | exact er199 | exact er156 | exact ep0 isB_13 | exact ep1 isB_13 | exact ep3 isB_13 | exact ep5 isB_13 | exact ep7 isB_13 | exact er26 | exact er27 | exact er28 | exact ep9 hb | exact ep10 hb | exact ep0 (isB_shelf _ (by omega))) rfl (Nat.le_of_ble_eq_true rfl) (by decide) ?_
      refine eg_ireturn dX8_log_43 rfl rfl ?_
      rw [hV1.2.1.1 a b (by omega) (by omega) (by omega) (by omega) (by omega)]
      refine ⟨congrArg (fun q => some (vI q)) ?_, rfl, z, rfl, (Fr.rf).fc, (Fr.rf).ic hI⟩
      unfold A_log; (repeat (first | rw [if_pos (by first | assumption | omega)] | rw [if_neg (by first | assumption | omega)]))
    · refine eg_ldc kw_X8_254 dX8_log_31 ?_
      refine eg_ireturn dX8_log_33 rfl rfl ?_
      refine ⟨congrArg (fun q => some (vI q)) ?_, rfl, z, rfl, (Fr.rf).fc, (Fr.rf).ic hI⟩
      unfold A_log; rw [if_neg]; (try split at h28) <;> omega
theorem p_fair {k : eg_K} {z : eg_Z} {X : eg_M} {n : Nat} {s : eg_S} (hI : IC z s) {a : Int} (r_a : iR a) : eg_P k gX8_fair 5 0 0 [vR k 0, vI a] n (enc k z X) (eg_p k (some (vI (A_fair s.1 a))) n X (fun z' => FC z z' ∧ IC z' s)) := by
  refine eg_P.of (by decide) (Nat.le_of_ble_eq_true rfl) ?_
  show eg_E k gX8_fair 5 0 0 n (enc k z X) [vR k 0, vI a] [] 0 _
  obtain ⟨hV1, hHi, ⟨hkb, hsh⟩, hT, hTl, hTb⟩ := id hI
  have hb := isB_1
  have hp := hV1.1
  have hv := hV1.2.2.1
  have q := hv.r.2
  obtain ⟨⟨z0, z1, z2, z3⟩, ⟨c1, c3, c5, c7⟩, -⟩ := id hp
  have r_a1 := r_a.1; have r_a2 := r_a.2
  refine eg_al_n dX8_fair_0 rfl rfl ?_
  refine eg_get fl_X8_12 dX8_fair_1 (by first | exact er0 | exact ep0 hb | exact ep1 hb | exact ep3 hb | exact ep5 hb | exact ep7 hb | exact er25 | exact er34 | exact er181 | exact er182 | exact er196 | exact er199 | exact er156 | exact ep0 isB_13 | exact ep1 isB_13 | exact ep3 isB_13 | exact ep5 isB_13 | exact ep7 isB_13 | exact er26 | exact er27 | exact er28 | exact ep9 hb | exact ep10 hb | exact ep0 (isB_shelf _ (by omega))) rfl ?_
  refine eg_get fl_X8_108 dX8_fair_4 (by first | exact er0 | exact ep0 hb | exact ep1 hb | exact ep3 hb | exact ep5 hb | exact ep7 hb | exact er25 | exact er34 | exact er181 | exact er182 | exact er196 | exact er199 | exact er156 | exact ep0 isB_13 | exact ep1 isB_13 | exact ep3 isB_13 | exact ep5 isB_13 | exact ep7 isB_13 | exact er26 | exact er27 | exact er28 | exact ep9 hb | exact ep10 hb | exact ep0 (isB_shelf _ (by omega))) rfl ?_
  refine eg_iload_n dX8_fair_7 rfl ?_
  refine eg_Vf1 cs_X8_121 dX8_fair_8 (nm_has hb hp hv r_a) (by first | exact er0 | exact ep0 hb | exact ep1 hb | exact ep3 hb | exact ep5 hb | exact ep7 hb | exact er25 | exact er34 | exact er181 | exact er182 | exact er196 | exact er199 | exact er156 | exact ep0 isB_13 | exact ep1 isB_13 | exact ep3 isB_13 | exact ep5 isB_13 | exact ep7 isB_13 | exact er26 | exact er27 | exact er28 | exact ep9 hb | exact ep10 hb | exact ep0 (isB_shelf _ (by omega))) rfl (Nat.le_of_ble_eq_true rfl) (by decide) ?_
  refine eg_bi_ne 16 dX8_fair_11 rfl (fun h11 => ?_) (fun h11 => ?_)
  · refine eg_al_n dX8_fair_16 rfl rfl ?_
    refine eg_get fl_X8_22 dX8_fair_17 (by first | exact er0 | exact ep0 hb | exact ep1 hb | exact ep3 hb | exact ep5 hb | exact ep7 hb | exact er25 | exact er34 | exact er181 | exact er182 | exact er196 | exact er199 | exact er156 | exact ep0 isB_13 | exact ep1 isB_13 | exact ep3 isB_13 | exact ep5 isB_13 | exact ep7 isB_13 | exact er26 | exact er27 | exact er28 | exact ep9 hb | exact ep10 hb | exact ep0 (isB_shelf _ (by omega))) rfl ?_
    refine eg_al_n dX8_fair_20 rfl rfl ?_
    refine eg_get fl_X8_12 dX8_fair_21 (by first | exact er0 | exact ep0 hb | exact ep1 hb | exact ep3 hb | exact ep5 hb | exact ep7 hb | exact er25 | exact er34 | exact er181 | exact er182 | exact er196 | exact er199 | exact er156 | exact ep0 isB_13 | exact ep1 isB_13 | exact ep3 isB_13 | exact ep5 isB_13 | exact ep7 isB_13 | exact er26 | exact er27 | exact er28 | exact ep9 hb | exact ep10 hb | exact ep0 (isB_shelf _ (by omega))) rfl ?_
    refine eg_Vpv1 cs_X8_258 dX8_fair_24 (c_X4_makeOfOneClass hb hp hv hV1.2.2.2.1) (by first | exact er0 | exact ep0 hb | exact ep1 hb | exact ep3 hb | exact ep5 hb | exact ep7 hb | exact er25 | exact er34 | exact er181 | exact er182 | exact er196 | exact er199 | exact er156 | exact ep0 isB_13 | exact ep1 isB_13 | exact ep3 isB_13 | exact ep5 isB_13 | exact ep7 isB_13 | exact er26 | exact er27 | exact er28 | exact ep9 hb | exact ep10 hb | exact ep0 (isB_shelf _ (by omega))) rfl (Nat.le_of_ble_eq_true rfl) (by decide) ?_
    rintro y1 ⟨m1, s1⟩
    refine eg_al_n dX8_fair_27 rfl rfl ?_
    refine eg_get fl_X8_22 dX8_fair_28 (by first | exact er0 | exact ep0 hb | exact ep1 hb | exact ep3 hb | exact ep5 hb | exact ep7 hb | exact er25 | exact er34 | exact er181 | exact er182 | exact er196 | exact er199 | exact er156 | exact ep0 isB_13 | exact ep1 isB_13 | exact ep3 isB_13 | exact ep5 isB_13 | exact ep7 isB_13 | exact er26 | exact er27 | exact er28 | exact ep9 hb | exact ep10 hb | exact ep0 (isB_shelf _ (by omega))) rfl ?_
    refine eg_iload_n dX8_fair_31 rfl ?_
    refine eg_Vf1 cs_X8_220 dX8_fair_32 (c_X4_of (by omega) (by omega)) (by first | exact er0 | exact ep0 hb | exact ep1 hb | exact ep3 hb | exact ep5 hb | exact ep7 hb | exact er25 | exact er34 | exact er181 | exact er182 | exact er196 | exact er199 | exact er156 | exact ep0 isB_13 | exact ep1 isB_13 | exact ep3 isB_13 | exact ep5 isB_13 | exact ep7 isB_13 | exact er26 | exact er27 | exact er28 | exact ep9 hb | exact ep10 hb | exact ep0 (isB_shelf _ (by omega))) rfl (Nat.le_of_ble_eq_true rfl) (by decide) ?_
    refine eg_ireturn dX8_fair_35 rfl rfl ?_
    rw [s1 a (by omega) (by omega)]
    refine ⟨congrArg (fun q => some (vI q)) ?_, rfl, y1, rfl, (Fr.s m1).fc, (Fr.s m1).ic hI⟩
    unfold A_fair; (repeat (first | rw [if_pos (by first | assumption | omega)] | rw [if_neg (by first | assumption | omega)]))
  · refine eg_iconst dX8_fair_14 ?_
    refine eg_ireturn dX8_fair_15 rfl rfl ?_
    refine ⟨congrArg (fun q => some (vI q)) ?_, rfl, z, rfl, (Fr.rf).fc, (Fr.rf).ic hI⟩
    unfold A_fair; (repeat (first | rw [if_pos (by first | assumption | omega)] | rw [if_neg (by first | assumption | omega)]))
theorem p_cash {k : eg_K} {z : eg_Z} {X : eg_M} {n : Nat} {s : eg_S} (hI : IC z s) {a b : Int} (r_a : iR a) (r_b : iR b) : eg_P k gX8_cash 3 0 0 [vR k 0, vI a, vI b] n (enc k z X) (eg_p k (some (vL (A_cash s.1 a b))) n X (fun z' => FC z z' ∧ IC z' s)) := by
  refine eg_P.of (by decide) (Nat.le_of_ble_eq_true rfl) ?_
  show eg_E k gX8_cash 3 0 0 n (enc k z X) [vR k 0, vI a, vI b] [] 0 _
  obtain ⟨hV1, hHi, ⟨hkb, hsh⟩, hT, hTl, hTb⟩ := id hI
  have hb := isB_1
  have hp := hV1.1
  have hv := hV1.2.2.1
  have q := hv.r.2
  obtain ⟨⟨z0, z1, z2, z3⟩, ⟨c1, c3, c5, c7⟩, -⟩ := id hp
  have r_a1 := r_a.1; have r_a2 := r_a.2
  have r_b1 := r_b.1; have r_b2 := r_b.2
  refine eg_al_n dX8_cash_0 rfl rfl ?_
  refine eg_get fl_X8_12 dX8_cash_1 (by first | exact er0 | exact ep0 hb | exact ep1 hb | exact ep3 hb | exact ep5 hb | exact ep7 hb | exact er25 | exact er34 | exact er181 | exact er182 | exact er196 | exact er199 | exact er156 | exact ep0 isB_13 | exact ep1 isB_13 | exact ep3 isB_13 | exact ep5 isB_13 | exact ep7 isB_13 | exact er26 | exact er27 | exact er28 | exact ep9 hb | exact ep10 hb | exact ep0 (isB_shelf _ (by omega))) rfl ?_
  refine eg_get fl_X8_146 dX8_cash_4 (by first | exact er0 | exact ep0 hb | exact ep1 hb | exact ep3 hb | exact ep5 hb | exact ep7 hb | exact er25 | exact er34 | exact er181 | exact er182 | exact er196 | exact er199 | exact er156 | exact ep0 isB_13 | exact ep1 isB_13 | exact ep3 isB_13 | exact ep5 isB_13 | exact ep7 isB_13 | exact er26 | exact er27 | exact er28 | exact ep9 hb | exact ep10 hb | exact ep0 (isB_shelf _ (by omega))) rfl ?_
  refine eg_iload_n dX8_cash_7 rfl ?_
  refine eg_Vf1 cs_X8_121 dX8_cash_8 (sh_has hb hp hv r_a) (by first | exact er0 | exact ep0 hb | exact ep1 hb | exact ep3 hb | exact ep5 hb | exact ep7 hb | exact er25 | exact er34 | exact er181 | exact er182 | exact er196 | exact er199 | exact er156 | exact ep0 isB_13 | exact ep1 isB_13 | exact ep3 isB_13 | exact ep5 isB_13 | exact ep7 isB_13 | exact er26 | exact er27 | exact er28 | exact ep9 hb | exact ep10 hb | exact ep0 (isB_shelf _ (by omega))) rfl (Nat.le_of_ble_eq_true rfl) (by decide) ?_
  refine eg_bi_eq 23 dX8_cash_11 rfl (fun h11 => ?_) (fun h11 => ?_)
  · refine eg_ldc2 kw_X8_214 dX8_cash_23 ?_
    refine eg_lreturn dX8_cash_26 rfl ?_
    refine ⟨congrArg (fun q => some (vL q)) ?_, rfl, z, rfl, (Fr.rf).fc, (Fr.rf).ic hI⟩
    unfold A_cash; (repeat (first | rw [if_pos (by first | assumption | omega)] | rw [if_neg (by first | assumption | omega)]))
  · refine eg_iload_n dX8_cash_14 rfl ?_
    refine eg_iconst dX8_cash_15 ?_
    refine eg_iconst dX8_cash_16 ?_
    refine eg_Sf3 cs_X8_79 dX8_cash_17 (c_X8_within ⟨by omega, by omega⟩ ⟨by omega, by omega⟩ ⟨by omega, by omega⟩) (Nat.le_of_ble_eq_true rfl) (by decide) ?_
    refine eg_bi_ne 27 dX8_cash_20 rfl (fun h20 => ?_) (fun h20 => ?_)
    · refine eg_iload_n dX8_cash_27 rfl ?_
      have o9 := sOver_b hv (s := a) (by omega) (by omega)
      refine eg_if_ne 43 dX8_cash_28 ⟨by omega, by omega⟩ rfl (fun h28 => ?_) (fun h28 => ?_)
      · refine eg_al_n dX8_cash_43 rfl rfl ?_
        refine eg_get fl_X8_12 dX8_cash_44 (by first | exact er0 | exact ep0 hb | exact ep1 hb | exact ep3 hb | exact ep5 hb | exact ep7 hb | exact er25 | exact er34 | exact er181 | exact er182 | exact er196 | exact er199 | exact er156 | exact ep0 isB_13 | exact ep1 isB_13 | exact ep3 isB_13 | exact ep5 isB_13 | exact ep7 isB_13 | exact er26 | exact er27 | exact er28 | exact ep9 hb | exact ep10 hb | exact ep0 (isB_shelf _ (by omega))) rfl ?_
        refine eg_iload_n dX8_cash_47 rfl ?_
        refine eg_Vf1 cs_X8_288 dX8_cash_48 (c_X2_dueFor hb hp hv (by omega) (by omega) (by omega)) (by first | exact er0 | exact ep0 hb | exact ep1 hb | exact ep3 hb | exact ep5 hb | exact ep7 hb | exact er25 | exact er34 | exact er181 | exact er182 | exact er196 | exact er199 | exact er156 | exact ep0 isB_13 | exact ep1 isB_13 | exact ep3 isB_13 | exact ep5 isB_13 | exact ep7 isB_13 | exact er26 | exact er27 | exact er28 | exact ep9 hb | exact ep10 hb | exact ep0 (isB_shelf _ (by omega))) rfl (Nat.le_of_ble_eq_true rfl) (by decide) ?_
        refine eg_lreturn dX8_cash_51 rfl ?_
        refine ⟨congrArg (fun q => some (vL q)) ?_, rfl, z, rfl, (Fr.rf).fc, (Fr.rf).ic hI⟩
        unfold A_cash; (repeat (first | rw [if_pos (by first | assumption | omega)] | rw [if_neg (by first | assumption | omega)]))
      · refine eg_al_n dX8_cash_31 rfl rfl ?_
        refine eg_get fl_X8_12 dX8_cash_32 (by first | exact er0 | exact ep0 hb | exact ep1 hb | exact ep3 hb | exact ep5 hb | exact ep7 hb | exact er25 | exact er34 | exact er181 | exact er182 | exact er196 | exact er199 | exact er156 | exact ep0 isB_13 | exact ep1 isB_13 | exact ep3 isB_13 | exact ep5 isB_13 | exact ep7 isB_13 | exact er26 | exact er27 | exact er28 | exact ep9 hb | exact ep10 hb | exact ep0 (isB_shelf _ (by omega))) rfl ?_
        refine eg_iload_n dX8_cash_35 rfl ?_
        refine eg_Vf1 cs_X8_248 dX8_cash_36 (c_over hb hp hv (by omega) (by omega) (by omega)) (by first | exact er0 | exact ep0 hb | exact ep1 hb | exact ep3 hb | exact ep5 hb | exact ep7 hb | exact er25 | exact er34 | exact er181 | exact er182 | exact er196 | exact er199 | exact er156 | exact ep0 isB_13 | exact ep1 isB_13 | exact ep3 isB_13 | exact ep5 isB_13 | exact ep7 isB_13 | exact er26 | exact er27 | exact er28 | exact ep9 hb | exact ep10 hb | exact ep0 (isB_shelf _ (by omega))) rfl (Nat.le_of_ble_eq_true rfl) (by decide) ?_
        refine eg_i2l dX8_cash_39 ⟨by omega, by omega⟩ ?_
        refine eg_goto 51 dX8_cash_40 rfl ?_
        refine eg_lreturn dX8_cash_51 rfl ?_
        refine ⟨congrArg (fun q => some (vL q)) ?_, rfl, z, rfl, (Fr.rf).fc, (Fr.rf).ic hI⟩
        unfold A_cash; (repeat (first | rw [if_pos (by first | assumption | omega)] | rw [if_neg (by first | assumption | omega)]))
    · refine eg_ldc2 kw_X8_214 dX8_cash_23 ?_
      refine eg_lreturn dX8_cash_26 rfl ?_
      refine ⟨congrArg (fun q => some (vL q)) ?_, rfl, z, rfl, (Fr.rf).fc, (Fr.rf).ic hI⟩
      unfold A_cash; (repeat (first | rw [if_pos (by first | assumption | omega)] | rw [if_neg (by first | assumption | omega)]))
theorem p_part {k : eg_K} {z : eg_Z} {X : eg_M} {n : Nat} {s : eg_S} (hI : IC z s) {a : Int} (r_a : iR a) : eg_P k gX8_part 5 0 0 [vR k 0, vI a] n (enc k z X) (eg_p k (some (vI (A_part s.1 a))) n X (fun z' => FC z z' ∧ IC z' s)) := by
  refine eg_P.of (by decide) (Nat.le_of_ble_eq_true rfl) ?_
  show eg_E k gX8_part 5 0 0 n (enc k z X) [vR k 0, vI a] [] 0 _
  obtain ⟨hV1, hHi, ⟨hkb, hsh⟩, hT, hTl, hTb⟩ := id hI
  have hb := isB_1
  have hp := hV1.1
  have hv := hV1.2.2.1
  have q := hv.r.2
  obtain ⟨⟨z0, z1, z2, z3⟩, ⟨c1, c3, c5, c7⟩, -⟩ := id hp
  have r_a1 := r_a.1; have r_a2 := r_a.2
  refine eg_al_n dX8_part_0 rfl rfl ?_
  refine eg_get fl_X8_12 dX8_part_1 (by first | exact er0 | exact ep0 hb | exact ep1 hb | exact ep3 hb | exact ep5 hb | exact ep7 hb | exact er25 | exact er34 | exact er181 | exact er182 | exact er196 | exact er199 | exact er156 | exact ep0 isB_13 | exact ep1 isB_13 | exact ep3 isB_13 | exact ep5 isB_13 | exact ep7 isB_13 | exact er26 | exact er27 | exact er28 | exact ep9 hb | exact ep10 hb | exact ep0 (isB_shelf _ (by omega))) rfl ?_
  refine eg_Vf0 cs_X8_170 dX8_part_4 (c_X2_isThere hb hp hv) (by first | exact er0 | exact ep0 hb | exact ep1 hb | exact ep3 hb | exact ep5 hb | exact ep7 hb | exact er25 | exact er34 | exact er181 | exact er182 | exact er196 | exact er199 | exact er156 | exact ep0 isB_13 | exact ep1 isB_13 | exact ep3 isB_13 | exact ep5 isB_13 | exact ep7 isB_13 | exact er26 | exact er27 | exact er28 | exact ep9 hb | exact ep10 hb | exact ep0 (isB_shelf _ (by omega))) rfl (Nat.le_of_ble_eq_true rfl) (by decide) ?_
  refine eg_bi_eq 29 dX8_part_7 rfl (fun h7 => ?_) (fun h7 => ?_)
  · refine eg_iconst dX8_part_29 ?_
    refine eg_ireturn dX8_part_30 rfl rfl ?_
    refine ⟨congrArg (fun q => some (vI q)) ?_, rfl, z, rfl, (Fr.rf).fc, (Fr.rf).ic hI⟩
    unfold A_part; (repeat (first | rw [if_pos (by first | assumption | omega)] | rw [if_neg (by first | assumption | omega)]))
  · refine eg_iload_n dX8_part_10 rfl ?_
    refine eg_iconst dX8_part_11 ?_
    refine eg_icmp_eq 31 dX8_part_12 ⟨by omega, by omega⟩ ⟨by omega, by omega⟩ rfl (fun h12 => ?_) (fun h12 => ?_)
    · refine eg_al_n dX8_part_31 rfl rfl ?_
      refine eg_get fl_X8_22 dX8_part_32 (by first | exact er0 | exact ep0 hb | exact ep1 hb | exact ep3 hb | exact ep5 hb | exact ep7 hb | exact er25 | exact er34 | exact er181 | exact er182 | exact er196 | exact er199 | exact er156 | exact ep0 isB_13 | exact ep1 isB_13 | exact ep3 isB_13 | exact ep5 isB_13 | exact ep7 isB_13 | exact er26 | exact er27 | exact er28 | exact ep9 hb | exact ep10 hb | exact ep0 (isB_shelf _ (by omega))) rfl ?_
      refine eg_al_n dX8_part_35 rfl rfl ?_
      refine eg_get fl_X8_12 dX8_part_36 (by first | exact er0 | exact ep0 hb | exact ep1 hb | exact ep3 hb | exact ep5 hb | exact ep7 hb | exact er25 | exact er34 | exact er181 | exact er182 | exact er196 | exact er199 | exact er156 | exact ep0 isB_13 | exact ep1 isB_13 | exact ep3 isB_13 | exact ep5 isB_13 | exact ep7 isB_13 | exact er26 | exact er27 | exact er28 | exact ep9 hb | exact ep10 hb | exact ep0 (isB_shelf _ (by omega))) rfl ?_
      refine eg_Vpv1 cs_X8_198 dX8_part_39 (c_X4_make hb hp hv hV1.2.2.2.1) (by first | exact er0 | exact ep0 hb | exact ep1 hb | exact ep3 hb | exact ep5 hb | exact ep7 hb | exact er25 | exact er34 | exact er181 | exact er182 | exact er196 | exact er199 | exact er156 | exact ep0 isB_13 | exact ep1 isB_13 | exact ep3 isB_13 | exact ep5 isB_13 | exact ep7 isB_13 | exact er26 | exact er27 | exact er28 | exact ep9 hb | exact ep10 hb | exact ep0 (isB_shelf _ (by omega))) rfl (Nat.le_of_ble_eq_true rfl) (by decide) ?_
      rintro y1 ⟨m1, s1, f1⟩
      have f9 : Fr z y1 := Fr.s m1
      have hp1 := m1.hP hb hp
      refine eg_al_n dX8_part_42 rfl rfl ?_
      refine eg_get fl_X8_22 dX8_part_43 (by first | exact er0 | exact ep0 hb | exact ep1 hb | exact ep3 hb | exact ep5 hb | exact ep7 hb | exact er25 | exact er34 | exact er181 | exact er182 | exact er196 | exact er199 | exact er156 | exact ep0 isB_13 | exact ep1 isB_13 | exact ep3 isB_13 | exact ep5 isB_13 | exact ep7 isB_13 | exact er26 | exact er27 | exact er28 | exact ep9 hb | exact ep10 hb | exact ep0 (isB_shelf _ (by omega))) rfl ?_
      refine eg_al_n dX8_part_46 rfl rfl ?_
      refine eg_get fl_X8_12 dX8_part_47 (by first | exact er0 | exact ep0 hb | exact ep1 hb | exact ep3 hb | exact ep5 hb | exact ep7 hb | exact er25 | exact er34 | exact er181 | exact er182 | exact er196 | exact er199 | exact er156 | exact ep0 isB_13 | exact ep1 isB_13 | exact ep3 isB_13 | exact ep5 isB_13 | exact ep7 isB_13 | exact er26 | exact er27 | exact er28 | exact ep9 hb | exact ep10 hb | exact ep0 (isB_shelf _ (by omega))) rfl ?_
      refine eg_iload_n dX8_part_50 rfl ?_
      refine eg_Vf2 cs_X8_273 dX8_part_51 (c_X4_share hb hp1 hv r_a s1.1 (okpS hv hV1.2.2.2.1) (fun q9 g0 g1 => (s1.2.2.1 q9 g0 g1).1)) (by first | exact er0 | exact ep0 hb | exact ep1 hb | exact ep3 hb | exact ep5 hb | exact ep7 hb | exact er25 | exact er34 | exact er181 | exact er182 | exact er196 | exact er199 | exact er156 | exact ep0 isB_13 | exact ep1 isB_13 | exact ep3 isB_13 | exact ep5 isB_13 | exact ep7 isB_13 | exact er26 | exact er27 | exact er28 | exact ep9 hb | exact ep10 hb | exact ep0 (isB_shelf _ (by omega))) rfl (Nat.le_of_ble_eq_true rfl) (by decide) ?_
      refine eg_ireturn dX8_part_54 rfl rfl ?_
      refine ⟨congrArg (fun q => some (vI q)) ?_, rfl, y1, rfl, (f9).fc, (f9).ic hI⟩
      unfold A_part; (repeat (first | rw [if_pos (by first | assumption | omega)] | rw [if_neg (by first | assumption | omega)]))
    · refine eg_al_n dX8_part_15 rfl rfl ?_
      refine eg_get fl_X8_12 dX8_part_16 (by first | exact er0 | exact ep0 hb | exact ep1 hb | exact ep3 hb | exact ep5 hb | exact ep7 hb | exact er25 | exact er34 | exact er181 | exact er182 | exact er196 | exact er199 | exact er156 | exact ep0 isB_13 | exact ep1 isB_13 | exact ep3 isB_13 | exact ep5 isB_13 | exact ep7 isB_13 | exact er26 | exact er27 | exact er28 | exact ep9 hb | exact ep10 hb | exact ep0 (isB_shelf _ (by omega))) rfl ?_
      refine eg_get fl_X8_146 dX8_part_19 (by first | exact er0 | exact ep0 hb | exact ep1 hb | exact ep3 hb | exact ep5 hb | exact ep7 hb | exact er25 | exact er34 | exact er181 | exact er182 | exact er196 | exact er199 | exact er156 | exact ep0 isB_13 | exact ep1 isB_13 | exact ep3 isB_13 | exact ep5 isB_13 | exact ep7 isB_13 | exact er26 | exact er27 | exact er28 | exact ep9 hb | exact ep10 hb | exact ep0 (isB_shelf _ (by omega))) rfl ?_
      refine eg_iload_n dX8_part_22 rfl ?_
      refine eg_Vf1 cs_X8_121 dX8_part_23 (sh_has hb hp hv r_a) (by first | exact er0 | exact ep0 hb | exact ep1 hb | exact ep3 hb | exact ep5 hb | exact ep7 hb | exact er25 | exact er34 | exact er181 | exact er182 | exact er196 | exact er199 | exact er156 | exact ep0 isB_13 | exact ep1 isB_13 | exact ep3 isB_13 | exact ep5 isB_13 | exact ep7 isB_13 | exact er26 | exact er27 | exact er28 | exact ep9 hb | exact ep10 hb | exact ep0 (isB_shelf _ (by omega))) rfl (Nat.le_of_ble_eq_true rfl) (by decide) ?_
      refine eg_bi_ne 31 dX8_part_26 rfl (fun h26 => ?_) (fun h26 => ?_)
      · refine eg_al_n dX8_part_31 rfl rfl ?_
        refine eg_get fl_X8_22 dX8_part_32 (by first | exact er0 | exact ep0 hb | exact ep1 hb | exact ep3 hb | exact ep5 hb | exact ep7 hb | exact er25 | exact er34 | exact er181 | exact er182 | exact er196 | exact er199 | exact er156 | exact ep0 isB_13 | exact ep1 isB_13 | exact ep3 isB_13 | exact ep5 isB_13 | exact ep7 isB_13 | exact er26 | exact er27 | exact er28 | exact ep9 hb | exact ep10 hb | exact ep0 (isB_shelf _ (by omega))) rfl ?_
        refine eg_al_n dX8_part_35 rfl rfl ?_
        refine eg_get fl_X8_12 dX8_part_36 (by first | exact er0 | exact ep0 hb | exact ep1 hb | exact ep3 hb | exact ep5 hb | exact ep7 hb | exact er25 | exact er34 | exact er181 | exact er182 | exact er196 | exact er199 | exact er156 | exact ep0 isB_13 | exact ep1 isB_13 | exact ep3 isB_13 | exact ep5 isB_13 | exact ep7 isB_13 | exact er26 | exact er27 | exact er28 | exact ep9 hb | exact ep10 hb | exact ep0 (isB_shelf _ (by omega))) rfl ?_
        refine eg_Vpv1 cs_X8_198 dX8_part_39 (c_X4_make hb hp hv hV1.2.2.2.1) (by first | exact er0 | exact ep0 hb | exact ep1 hb | exact ep3 hb | exact ep5 hb | exact ep7 hb | exact er25 | exact er34 | exact er181 | exact er182 | exact er196 | exact er199 | exact er156 | exact ep0 isB_13 | exact ep1 isB_13 | exact ep3 isB_13 | exact ep5 isB_13 | exact ep7 isB_13 | exact er26 | exact er27 | exact er28 | exact ep9 hb | exact ep10 hb | exact ep0 (isB_shelf _ (by omega))) rfl (Nat.le_of_ble_eq_true rfl) (by decide) ?_
        rintro y1 ⟨m1, s1, f1⟩
        have f9 : Fr z y1 := Fr.s m1
        have hp1 := m1.hP hb hp
        refine eg_al_n dX8_part_42 rfl rfl ?_
        refine eg_get fl_X8_22 dX8_part_43 (by first | exact er0 | exact ep0 hb | exact ep1 hb | exact ep3 hb | exact ep5 hb | exact ep7 hb | exact er25 | exact er34 | exact er181 | exact er182 | exact er196 | exact er199 | exact er156 | exact ep0 isB_13 | exact ep1 isB_13 | exact ep3 isB_13 | exact ep5 isB_13 | exact ep7 isB_13 | exact er26 | exact er27 | exact er28 | exact ep9 hb | exact ep10 hb | exact ep0 (isB_shelf _ (by omega))) rfl ?_
        refine eg_al_n dX8_part_46 rfl rfl ?_
        refine eg_get fl_X8_12 dX8_part_47 (by first | exact er0 | exact ep0 hb | exact ep1 hb | exact ep3 hb | exact ep5 hb | exact ep7 hb | exact er25 | exact er34 | exact er181 | exact er182 | exact er196 | exact er199 | exact er156 | exact ep0 isB_13 | exact ep1 isB_13 | exact ep3 isB_13 | exact ep5 isB_13 | exact ep7 isB_13 | exact er26 | exact er27 | exact er28 | exact ep9 hb | exact ep10 hb | exact ep0 (isB_shelf _ (by omega))) rfl ?_
        refine eg_iload_n dX8_part_50 rfl ?_
        refine eg_Vf2 cs_X8_273 dX8_part_51 (c_X4_share hb hp1 hv r_a s1.1 (okpS hv hV1.2.2.2.1) (fun q9 g0 g1 => (s1.2.2.1 q9 g0 g1).1)) (by first | exact er0 | exact ep0 hb | exact ep1 hb | exact ep3 hb | exact ep5 hb | exact ep7 hb | exact er25 | exact er34 | exact er181 | exact er182 | exact er196 | exact er199 | exact er156 | exact ep0 isB_13 | exact ep1 isB_13 | exact ep3 isB_13 | exact ep5 isB_13 | exact ep7 isB_13 | exact er26 | exact er27 | exact er28 | exact ep9 hb | exact ep10 hb | exact ep0 (isB_shelf _ (by omega))) rfl (Nat.le_of_ble_eq_true rfl) (by decide) ?_
        refine eg_ireturn dX8_part_54 rfl rfl ?_
        refine ⟨congrArg (fun q => some (vI q)) ?_, rfl, y1, rfl, (f9).fc, (f9).ic hI⟩
        unfold A_part; (repeat (first | rw [if_pos (by first | assumption | omega)] | rw [if_neg (by first | assumption | omega)]))
      · refine eg_iconst dX8_part_29 ?_
        refine eg_ireturn dX8_part_30 rfl rfl ?_
        refine ⟨congrArg (fun q => some (vI q)) ?_, rfl, z, rfl, (Fr.rf).fc, (Fr.rf).ic hI⟩
        unfold A_part; (repeat (first | rw [if_pos (by first | assumption | omega)] | rw [if_neg (by first | assumption | omega)]))
theorem p_total {k : eg_K} {z : eg_Z} {X : eg_M} {n : Nat} {s : eg_S} (hI : IC z s) {a : Int} (r_a : iR a) : eg_P k gX8_total 2 0 0 [vR k 0, vI a] n (enc k z X) (eg_p k (some (vL (A_total s.1 a))) n X (fun z' => FC z z' ∧ IC z' s)) := by
  refine eg_P.of (by decide) (Nat.le_of_ble_eq_true rfl) ?_
  show eg_E k gX8_total 2 0 0 n (enc k z X) [vR k 0, vI a] [] 0 _
  obtain ⟨hV1, hHi, ⟨hkb, hsh⟩, hT, hTl, hTb⟩ := id hI
  have hb := isB_1
  have hp := hV1.1
  have hv := hV1.2.2.1
  have q := hv.r.2
  obtain ⟨⟨z0, z1, z2, z3⟩, ⟨c1, c3, c5, c7⟩, -⟩ := id hp
  have r_a1 := r_a.1; have r_a2 := r_a.2
  have tq : ∀ w : Int, 0 ≤ w → w < 4 → z (1 + 10) w.toNat = s.1 (7 + w).toNat := fun w g0 g1 => by
    rcases (show w = 0 ∨ w = 1 ∨ w = 2 ∨ w = 3 by omega) with rfl | rfl | rfl | rfl
    · exact hp.2.2.2.2.2.2.2.1
    · exact hp.2.2.2.2.2.2.2.2.1
    · exact hp.2.2.2.2.2.2.2.2.2.1
    · exact hp.2.2.2.2.2.2.2.2.2.2
  refine eg_al_n dX8_total_0 rfl rfl ?_
  refine eg_get fl_X8_12 dX8_total_1 (by first | exact er0 | exact ep0 hb | exact ep1 hb | exact ep3 hb | exact ep5 hb | exact ep7 hb | exact er25 | exact er34 | exact er181 | exact er182 | exact er196 | exact er199 | exact er156 | exact ep0 isB_13 | exact ep1 isB_13 | exact ep3 isB_13 | exact ep5 isB_13 | exact ep7 isB_13 | exact er26 | exact er27 | exact er28 | exact ep9 hb | exact ep10 hb | exact ep0 (isB_shelf _ (by omega))) rfl ?_
  refine eg_Vf0 cs_X8_170 dX8_total_4 (c_X2_isThere hb hp hv) (by first | exact er0 | exact ep0 hb | exact ep1 hb | exact ep3 hb | exact ep5 hb | exact ep7 hb | exact er25 | exact er34 | exact er181 | exact er182 | exact er196 | exact er199 | exact er156 | exact ep0 isB_13 | exact ep1 isB_13 | exact ep3 isB_13 | exact ep5 isB_13 | exact ep7 isB_13 | exact er26 | exact er27 | exact er28 | exact ep9 hb | exact ep10 hb | exact ep0 (isB_shelf _ (by omega))) rfl (Nat.le_of_ble_eq_true rfl) (by decide) ?_
  refine eg_bi_eq 19 dX8_total_7 rfl (fun h7 => ?_) (fun h7 => ?_)
  · refine eg_ldc2 kw_X8_292 dX8_total_19 ?_
    refine eg_lreturn dX8_total_22 rfl ?_
    refine ⟨congrArg (fun q => some (vL q)) ?_, rfl, z, rfl, (Fr.rf).fc, (Fr.rf).ic hI⟩
    unfold A_total; (repeat (first | rw [if_pos (by first | assumption | omega)] | rw [if_neg (by first | assumption | omega)]))
  · refine eg_iload_n dX8_total_10 rfl ?_
    refine eg_iconst dX8_total_11 ?_
    refine eg_iconst dX8_total_12 ?_
    refine eg_Sf3 cs_X8_79 dX8_total_13 (c_X8_within ⟨by omega, by omega⟩ ⟨by omega, by omega⟩ ⟨by omega, by omega⟩) (Nat.le_of_ble_eq_true rfl) (by decide) ?_
    refine eg_bi_ne 23 dX8_total_16 rfl (fun h16 => ?_) (fun h16 => ?_)
    · refine eg_iload_n dX8_total_23 rfl ?_
      refine eg_iconst dX8_total_24 ?_
      refine eg_icmp_ne 38 dX8_total_25 ⟨by omega, by omega⟩ ⟨by omega, by omega⟩ rfl (fun h25 => ?_) (fun h25 => ?_)
      · refine eg_al_n dX8_total_38 rfl rfl ?_
        refine eg_get fl_X8_12 dX8_total_39 (by first | exact er0 | exact ep0 hb | exact ep1 hb | exact ep3 hb | exact ep5 hb | exact ep7 hb | exact er25 | exact er34 | exact er181 | exact er182 | exact er196 | exact er199 | exact er156 | exact ep0 isB_13 | exact ep1 isB_13 | exact ep3 isB_13 | exact ep5 isB_13 | exact ep7 isB_13 | exact er26 | exact er27 | exact er28 | exact ep9 hb | exact ep10 hb | exact ep0 (isB_shelf _ (by omega))) rfl ?_
        refine eg_get fl_X8_298 dX8_total_42 (by first | exact er0 | exact ep0 hb | exact ep1 hb | exact ep3 hb | exact ep5 hb | exact ep7 hb | exact er25 | exact er34 | exact er181 | exact er182 | exact er196 | exact er199 | exact er156 | exact ep0 isB_13 | exact ep1 isB_13 | exact ep3 isB_13 | exact ep5 isB_13 | exact ep7 isB_13 | exact er26 | exact er27 | exact er28 | exact ep9 hb | exact ep10 hb | exact ep0 (isB_shelf _ (by omega))) rfl ?_
        refine eg_iload_n dX8_total_45 rfl ?_
        refine eg_lald dX8_total_46 (by first | exact er0 | exact ep0 hb | exact ep1 hb | exact ep3 hb | exact ep5 hb | exact ep7 hb | exact er25 | exact er34 | exact er181 | exact er182 | exact er196 | exact er199 | exact er156 | exact ep0 isB_13 | exact ep1 isB_13 | exact ep3 isB_13 | exact ep5 isB_13 | exact ep7 isB_13 | exact er26 | exact er27 | exact er28 | exact ep9 hb | exact ep10 hb | exact ep0 (isB_shelf _ (by omega))) (by omega) (by omega) (by decide) ?_
        refine eg_lreturn dX8_total_47 rfl ?_
        refine ⟨congrArg (fun q => some (vL q)) ?_, rfl, z, rfl, (Fr.rf).fc, (Fr.rf).ic hI⟩
        unfold A_total; (try rw [tq a (by omega) (by omega)]); (repeat (first | rw [if_pos (by first | assumption | omega)] | rw [if_neg (by first | assumption | omega)]))
      · refine eg_al_n dX8_total_28 rfl rfl ?_
        refine eg_get fl_X8_12 dX8_total_29 (by first | exact er0 | exact ep0 hb | exact ep1 hb | exact ep3 hb | exact ep5 hb | exact ep7 hb | exact er25 | exact er34 | exact er181 | exact er182 | exact er196 | exact er199 | exact er156 | exact ep0 isB_13 | exact ep1 isB_13 | exact ep3 isB_13 | exact ep5 isB_13 | exact ep7 isB_13 | exact er26 | exact er27 | exact er28 | exact ep9 hb | exact ep10 hb | exact ep0 (isB_shelf _ (by omega))) rfl ?_
        refine eg_Vf0 cs_X8_294 dX8_total_32 (c_X2_inBooks hb hp hv (by omega)) (by first | exact er0 | exact ep0 hb | exact ep1 hb | exact ep3 hb | exact ep5 hb | exact ep7 hb | exact er25 | exact er34 | exact er181 | exact er182 | exact er196 | exact er199 | exact er156 | exact ep0 isB_13 | exact ep1 isB_13 | exact ep3 isB_13 | exact ep5 isB_13 | exact ep7 isB_13 | exact er26 | exact er27 | exact er28 | exact ep9 hb | exact ep10 hb | exact ep0 (isB_shelf _ (by omega))) rfl (Nat.le_of_ble_eq_true rfl) (by decide) ?_
        refine eg_goto 47 dX8_total_35 rfl ?_
        refine eg_lreturn dX8_total_47 rfl ?_
        refine ⟨congrArg (fun q => some (vL q)) ?_, rfl, z, rfl, (Fr.rf).fc, (Fr.rf).ic hI⟩
        unfold A_total; (try rw [tq a (by omega) (by omega)]); (repeat (first | rw [if_pos (by first | assumption | omega)] | rw [if_neg (by first | assumption | omega)]))
    · refine eg_ldc2 kw_X8_292 dX8_total_19 ?_
      refine eg_lreturn dX8_total_22 rfl ?_
      refine ⟨congrArg (fun q => some (vL q)) ?_, rfl, z, rfl, (Fr.rf).fc, (Fr.rf).ic hI⟩
      unfold A_total; (repeat (first | rw [if_pos (by first | assumption | omega)] | rw [if_neg (by first | assumption | omega)]))
theorem p_price {k : eg_K} {z : eg_Z} {X : eg_M} {n : Nat} {s : eg_S} (hI : IC z s) {a : Int} (r_a : iR a) : eg_P k gX8_price 1 0 0 [vR k 0, vI a] n (enc k z X) (eg_p k (some (vI (A_price s.1 a))) n X (fun z' => FC z z' ∧ IC z' s)) := by
  refine eg_P.of (by decide) (Nat.le_of_ble_eq_true rfl) ?_
  show eg_E k gX8_price 1 0 0 n (enc k z X) [vR k 0, vI a] [] 0 _
  obtain ⟨hV1, hHi, ⟨hkb, hsh⟩, hT, hTl, hTb⟩ := id hI
  have hb := isB_1
  have hp := hV1.1
  have hv := hV1.2.2.1
  have q := hv.r.2
  obtain ⟨⟨z0, z1, z2, z3⟩, ⟨c1, c3, c5, c7⟩, -⟩ := id hp
  have r_a1 := r_a.1; have r_a2 := r_a.2
  refine eg_al_n dX8_price_0 rfl rfl ?_
  refine eg_get fl_X8_12 dX8_price_1 (by first | exact er0 | exact ep0 hb | exact ep1 hb | exact ep3 hb | exact ep5 hb | exact ep7 hb | exact er25 | exact er34 | exact er181 | exact er182 | exact er196 | exact er199 | exact er156 | exact ep0 isB_13 | exact ep1 isB_13 | exact ep3 isB_13 | exact ep5 isB_13 | exact ep7 isB_13 | exact er26 | exact er27 | exact er28 | exact ep9 hb | exact ep10 hb | exact ep0 (isB_shelf _ (by omega))) rfl ?_
  refine eg_Vf0 cs_X8_170 dX8_price_4 (c_X2_isThere hb hp hv) (by first | exact er0 | exact ep0 hb | exact ep1 hb | exact ep3 hb | exact ep5 hb | exact ep7 hb | exact er25 | exact er34 | exact er181 | exact er182 | exact er196 | exact er199 | exact er156 | exact ep0 isB_13 | exact ep1 isB_13 | exact ep3 isB_13 | exact ep5 isB_13 | exact ep7 isB_13 | exact er26 | exact er27 | exact er28 | exact ep9 hb | exact ep10 hb | exact ep0 (isB_shelf _ (by omega))) rfl (Nat.le_of_ble_eq_true rfl) (by decide) ?_
  refine eg_bi_eq 19 dX8_price_7 rfl (fun h7 => ?_) (fun h7 => ?_)
  · refine eg_iconst dX8_price_19 ?_
    refine eg_ireturn dX8_price_20 rfl rfl ?_
    refine ⟨congrArg (fun q => some (vI q)) ?_, rfl, z, rfl, (Fr.rf).fc, (Fr.rf).ic hI⟩
    unfold A_price; (repeat (first | rw [if_pos (by first | assumption | omega)] | rw [if_neg (by first | assumption | omega)])) <;> first | exact z1 | exact z2
  · refine eg_iload_n dX8_price_10 rfl ?_
    refine eg_iconst dX8_price_11 ?_
    refine eg_iconst dX8_price_12 ?_
    refine eg_Sf3 cs_X8_79 dX8_price_13 (c_X8_within ⟨by omega, by omega⟩ ⟨by omega, by omega⟩ ⟨by omega, by omega⟩) (Nat.le_of_ble_eq_true rfl) (by decide) ?_
    refine eg_bi_ne 21 dX8_price_16 rfl (fun h16 => ?_) (fun h16 => ?_)
    · refine eg_iload_n dX8_price_21 rfl ?_
      refine eg_if_ne 35 dX8_price_22 ⟨by omega, by omega⟩ rfl (fun h22 => ?_) (fun h22 => ?_)
      · refine eg_al_n dX8_price_35 rfl rfl ?_
        refine eg_get fl_X8_12 dX8_price_36 (by first | exact er0 | exact ep0 hb | exact ep1 hb | exact ep3 hb | exact ep5 hb | exact ep7 hb | exact er25 | exact er34 | exact er181 | exact er182 | exact er196 | exact er199 | exact er156 | exact ep0 isB_13 | exact ep1 isB_13 | exact ep3 isB_13 | exact ep5 isB_13 | exact ep7 isB_13 | exact er26 | exact er27 | exact er28 | exact ep9 hb | exact ep10 hb | exact ep0 (isB_shelf _ (by omega))) rfl ?_
        refine eg_get fl_X8_304 dX8_price_39 (by first | exact er0 | exact ep0 hb | exact ep1 hb | exact ep3 hb | exact ep5 hb | exact ep7 hb | exact er25 | exact er34 | exact er181 | exact er182 | exact er196 | exact er199 | exact er156 | exact ep0 isB_13 | exact ep1 isB_13 | exact ep3 isB_13 | exact ep5 isB_13 | exact ep7 isB_13 | exact er26 | exact er27 | exact er28 | exact ep9 hb | exact ep10 hb | exact ep0 (isB_shelf _ (by omega))) rfl ?_
        refine eg_ireturn dX8_price_42 rfl rfl ?_
        refine ⟨congrArg (fun q => some (vI q)) ?_, rfl, z, rfl, (Fr.rf).fc, (Fr.rf).ic hI⟩
        unfold A_price; (repeat (first | rw [if_pos (by first | assumption | omega)] | rw [if_neg (by first | assumption | omega)])) <;> first | exact z1 | exact z2
      · refine eg_al_n dX8_price_25 rfl rfl ?_
        refine eg_get fl_X8_12 dX8_price_26 (by first | exact er0 | exact ep0 hb | exact ep1 hb | exact ep3 hb | exact ep5 hb | exact ep7 hb | exact er25 | exact er34 | exact er181 | exact er182 | exact er196 | exact er199 | exact er156 | exact ep0 isB_13 | exact ep1 isB_13 | exact ep3 isB_13 | exact ep5 isB_13 | exact ep7 isB_13 | exact er26 | exact er27 | exact er28 | exact ep9 hb | exact ep10 hb | exact ep0 (isB_shelf _ (by omega))) rfl ?_
        refine eg_get fl_X8_301 dX8_price_29 (by first | exact er0 | exact ep0 hb | exact ep1 hb | exact ep3 hb | exact ep5 hb | exact ep7 hb | exact er25 | exact er34 | exact er181 | exact er182 | exact er196 | exact er199 | exact er156 | exact ep0 isB_13 | exact ep1 isB_13 | exact ep3 isB_13 | exact ep5 isB_13 | exact ep7 isB_13 | exact er26 | exact er27 | exact er28 | exact ep9 hb | exact ep10 hb | exact ep0 (isB_shelf _ (by omega))) rfl ?_
        refine eg_goto 42 dX8_price_32 rfl ?_
        refine eg_ireturn dX8_price_42 rfl rfl ?_
        refine ⟨congrArg (fun q => some (vI q)) ?_, rfl, z, rfl, (Fr.rf).fc, (Fr.rf).ic hI⟩
        unfold A_price; (repeat (first | rw [if_pos (by first | assumption | omega)] | rw [if_neg (by first | assumption | omega)])) <;> first | exact z1 | exact z2
    · refine eg_iconst dX8_price_19 ?_
      refine eg_ireturn dX8_price_20 rfl rfl ?_
      refine ⟨congrArg (fun q => some (vI q)) ?_, rfl, z, rfl, (Fr.rf).fc, (Fr.rf).ic hI⟩
      unfold A_price; (repeat (first | rw [if_pos (by first | assumption | omega)] | rw [if_neg (by first | assumption | omega)])) <;> first | exact z1 | exact z2
theorem p_count {k : eg_K} {z : eg_Z} {X : eg_M} {n : Nat} {s : eg_S} (hI : IC z s) {a : Int} (r_a : iR a) : eg_P k gX8_count 0 0 0 [vR k 0, vI a] n (enc k z X) (eg_p k (some (vI (A_count s a))) n X (fun z' => FC z z' ∧ IC z' s)) := by
  refine eg_P.of (by decide) (Nat.le_of_ble_eq_true rfl) ?_
  show eg_E k gX8_count 0 0 0 n (enc k z X) [vR k 0, vI a] [] 0 _
  obtain ⟨hV1, hHi, ⟨hkb, hsh⟩, hT, hTl, hTb⟩ := id hI
  have hb := isB_1
  have hp := hV1.1
  have hv := hV1.2.2.1
  have q := hv.r.2
  obtain ⟨⟨z0, z1, z2, z3⟩, ⟨c1, c3, c5, c7⟩, -⟩ := id hp
  have r_a1 := r_a.1; have r_a2 := r_a.2
  have hd9 := hHi.1.2.1
  refine eg_iload_n dX8_count_0 rfl ?_
  by_cases t1_48 : a = 0
  · refine eg_tbI 48 dX8_count_1 ⟨by omega, by omega⟩ (by omega) (by omega) (by rw [t1_48]; rfl) rfl ?_
    refine eg_al_n dX8_count_48 rfl rfl ?_
    refine eg_get fl_X8_12 dX8_count_49 (by first | exact er0 | exact ep0 hb | exact ep1 hb | exact ep3 hb | exact ep5 hb | exact ep7 hb | exact er25 | exact er34 | exact er181 | exact er182 | exact er196 | exact er199 | exact er156 | exact ep0 isB_13 | exact ep1 isB_13 | exact ep3 isB_13 | exact ep5 isB_13 | exact ep7 isB_13 | exact er26 | exact er27 | exact er28 | exact ep9 hb | exact ep10 hb | exact ep0 (isB_shelf _ (by omega))) rfl ?_
    refine eg_get fl_X8_322 dX8_count_52 (by first | exact er0 | exact ep0 hb | exact ep1 hb | exact ep3 hb | exact ep5 hb | exact ep7 hb | exact er25 | exact er34 | exact er181 | exact er182 | exact er196 | exact er199 | exact er156 | exact ep0 isB_13 | exact ep1 isB_13 | exact ep3 isB_13 | exact ep5 isB_13 | exact ep7 isB_13 | exact er26 | exact er27 | exact er28 | exact ep9 hb | exact ep10 hb | exact ep0 (isB_shelf _ (by omega))) rfl ?_
    refine eg_ireturn dX8_count_55 rfl rfl ?_
    refine ⟨congrArg (fun q => some (vI q)) ?_, rfl, z, rfl, (Fr.rf).fc, (Fr.rf).ic hI⟩
    unfold A_count; (repeat (first | rw [if_pos (by first | assumption | omega)] | rw [if_neg (by first | assumption | omega)])) <;> first | exact z0 | exact c3 | exact c5 | exact c7 | exact z3 | exact hd9 | exact hTl | exact hkb
  by_cases t1_56 : a = 1
  · refine eg_tbI 56 dX8_count_1 ⟨by omega, by omega⟩ (by omega) (by omega) (by rw [t1_56]; rfl) rfl ?_
    refine eg_al_n dX8_count_56 rfl rfl ?_
    refine eg_get fl_X8_12 dX8_count_57 (by first | exact er0 | exact ep0 hb | exact ep1 hb | exact ep3 hb | exact ep5 hb | exact ep7 hb | exact er25 | exact er34 | exact er181 | exact er182 | exact er196 | exact er199 | exact er156 | exact ep0 isB_13 | exact ep1 isB_13 | exact ep3 isB_13 | exact ep5 isB_13 | exact ep7 isB_13 | exact er26 | exact er27 | exact er28 | exact ep9 hb | exact ep10 hb | exact ep0 (isB_shelf _ (by omega))) rfl ?_
    refine eg_get fl_X8_95 dX8_count_60 (by first | exact er0 | exact ep0 hb | exact ep1 hb | exact ep3 hb | exact ep5 hb | exact ep7 hb | exact er25 | exact er34 | exact er181 | exact er182 | exact er196 | exact er199 | exact er156 | exact ep0 isB_13 | exact ep1 isB_13 | exact ep3 isB_13 | exact ep5 isB_13 | exact ep7 isB_13 | exact er26 | exact er27 | exact er28 | exact ep9 hb | exact ep10 hb | exact ep0 (isB_shelf _ (by omega))) rfl ?_
    refine eg_get fl_X8_99 dX8_count_63 (by first | exact er0 | exact ep0 hb | exact ep1 hb | exact ep3 hb | exact ep5 hb | exact ep7 hb | exact er25 | exact er34 | exact er181 | exact er182 | exact er196 | exact er199 | exact er156 | exact ep0 isB_13 | exact ep1 isB_13 | exact ep3 isB_13 | exact ep5 isB_13 | exact ep7 isB_13 | exact er26 | exact er27 | exact er28 | exact ep9 hb | exact ep10 hb | exact ep0 (isB_shelf _ (by omega))) rfl ?_
    refine eg_ireturn dX8_count_66 rfl rfl ?_
    refine ⟨congrArg (fun q => some (vI q)) ?_, rfl, z, rfl, (Fr.rf).fc, (Fr.rf).ic hI⟩
    unfold A_count; (repeat (first | rw [if_pos (by first | assumption | omega)] | rw [if_neg (by first | assumption | omega)])) <;> first | exact z0 | exact c3 | exact c5 | exact c7 | exact z3 | exact hd9 | exact hTl | exact hkb
  by_cases t1_67 : a = 2
  · refine eg_tbI 67 dX8_count_1 ⟨by omega, by omega⟩ (by omega) (by omega) (by rw [t1_67]; rfl) rfl ?_
    refine eg_al_n dX8_count_67 rfl rfl ?_
    refine eg_get fl_X8_12 dX8_count_68 (by first | exact er0 | exact ep0 hb | exact ep1 hb | exact ep3 hb | exact ep5 hb | exact ep7 hb | exact er25 | exact er34 | exact er181 | exact er182 | exact er196 | exact er199 | exact er156 | exact ep0 isB_13 | exact ep1 isB_13 | exact ep3 isB_13 | exact ep5 isB_13 | exact ep7 isB_13 | exact er26 | exact er27 | exact er28 | exact ep9 hb | exact ep10 hb | exact ep0 (isB_shelf _ (by omega))) rfl ?_
    refine eg_get fl_X8_146 dX8_count_71 (by first | exact er0 | exact ep0 hb | exact ep1 hb | exact ep3 hb | exact ep5 hb | exact ep7 hb | exact er25 | exact er34 | exact er181 | exact er182 | exact er196 | exact er199 | exact er156 | exact ep0 isB_13 | exact ep1 isB_13 | exact ep3 isB_13 | exact ep5 isB_13 | exact ep7 isB_13 | exact er26 | exact er27 | exact er28 | exact ep9 hb | exact ep10 hb | exact ep0 (isB_shelf _ (by omega))) rfl ?_
    refine eg_get fl_X8_99 dX8_count_74 (by first | exact er0 | exact ep0 hb | exact ep1 hb | exact ep3 hb | exact ep5 hb | exact ep7 hb | exact er25 | exact er34 | exact er181 | exact er182 | exact er196 | exact er199 | exact er156 | exact ep0 isB_13 | exact ep1 isB_13 | exact ep3 isB_13 | exact ep5 isB_13 | exact ep7 isB_13 | exact er26 | exact er27 | exact er28 | exact ep9 hb | exact ep10 hb | exact ep0 (isB_shelf _ (by omega))) rfl ?_
    refine eg_ireturn dX8_count_77 rfl rfl ?_
    refine ⟨congrArg (fun q => some (vI q)) ?_, rfl, z, rfl, (Fr.rf).fc, (Fr.rf).ic hI⟩
    unfold A_count; (repeat (first | rw [if_pos (by first | assumption | omega)] | rw [if_neg (by first | assumption | omega)])) <;> first | exact z0 | exact c3 | exact c5 | exact c7 | exact z3 | exact hd9 | exact hTl | exact hkb
  by_cases t1_78 : a = 3
  · refine eg_tbI 78 dX8_count_1 ⟨by omega, by omega⟩ (by omega) (by omega) (by rw [t1_78]; rfl) rfl ?_
    refine eg_al_n dX8_count_78 rfl rfl ?_
    refine eg_get fl_X8_12 dX8_count_79 (by first | exact er0 | exact ep0 hb | exact ep1 hb | exact ep3 hb | exact ep5 hb | exact ep7 hb | exact er25 | exact er34 | exact er181 | exact er182 | exact er196 | exact er199 | exact er156 | exact ep0 isB_13 | exact ep1 isB_13 | exact ep3 isB_13 | exact ep5 isB_13 | exact ep7 isB_13 | exact er26 | exact er27 | exact er28 | exact ep9 hb | exact ep10 hb | exact ep0 (isB_shelf _ (by omega))) rfl ?_
    refine eg_get fl_X8_108 dX8_count_82 (by first | exact er0 | exact ep0 hb | exact ep1 hb | exact ep3 hb | exact ep5 hb | exact ep7 hb | exact er25 | exact er34 | exact er181 | exact er182 | exact er196 | exact er199 | exact er156 | exact ep0 isB_13 | exact ep1 isB_13 | exact ep3 isB_13 | exact ep5 isB_13 | exact ep7 isB_13 | exact er26 | exact er27 | exact er28 | exact ep9 hb | exact ep10 hb | exact ep0 (isB_shelf _ (by omega))) rfl ?_
    refine eg_get fl_X8_99 dX8_count_85 (by first | exact er0 | exact ep0 hb | exact ep1 hb | exact ep3 hb | exact ep5 hb | exact ep7 hb | exact er25 | exact er34 | exact er181 | exact er182 | exact er196 | exact er199 | exact er156 | exact ep0 isB_13 | exact ep1 isB_13 | exact ep3 isB_13 | exact ep5 isB_13 | exact ep7 isB_13 | exact er26 | exact er27 | exact er28 | exact ep9 hb | exact ep10 hb | exact ep0 (isB_shelf _ (by omega))) rfl ?_
    refine eg_ireturn dX8_count_88 rfl rfl ?_
    refine ⟨congrArg (fun q => some (vI q)) ?_, rfl, z, rfl, (Fr.rf).fc, (Fr.rf).ic hI⟩
    unfold A_count; (repeat (first | rw [if_pos (by first | assumption | omega)] | rw [if_neg (by first | assumption | omega)])) <;> first | exact z0 | exact c3 | exact c5 | exact c7 | exact z3 | exact hd9 | exact hTl | exact hkb
  by_cases t1_89 : a = 4
  · refine eg_tbI 89 dX8_count_1 ⟨by omega, by omega⟩ (by omega) (by omega) (by rw [t1_89]; rfl) rfl ?_
    refine eg_al_n dX8_count_89 rfl rfl ?_
    refine eg_get fl_X8_12 dX8_count_90 (by first | exact er0 | exact ep0 hb | exact ep1 hb | exact ep3 hb | exact ep5 hb | exact ep7 hb | exact er25 | exact er34 | exact er181 | exact er182 | exact er196 | exact er199 | exact er156 | exact ep0 isB_13 | exact ep1 isB_13 | exact ep3 isB_13 | exact ep5 isB_13 | exact ep7 isB_13 | exact er26 | exact er27 | exact er28 | exact ep9 hb | exact ep10 hb | exact ep0 (isB_shelf _ (by omega))) rfl ?_
    refine eg_get fl_X8_173 dX8_count_93 (by first | exact er0 | exact ep0 hb | exact ep1 hb | exact ep3 hb | exact ep5 hb | exact ep7 hb | exact er25 | exact er34 | exact er181 | exact er182 | exact er196 | exact er199 | exact er156 | exact ep0 isB_13 | exact ep1 isB_13 | exact ep3 isB_13 | exact ep5 isB_13 | exact ep7 isB_13 | exact er26 | exact er27 | exact er28 | exact ep9 hb | exact ep10 hb | exact ep0 (isB_shelf _ (by omega))) rfl ?_
    refine eg_ireturn dX8_count_96 rfl rfl ?_
    refine ⟨congrArg (fun q => some (vI q)) ?_, rfl, z, rfl, (Fr.rf).fc, (Fr.rf).ic hI⟩
    unfold A_count; (repeat (first | rw [if_pos (by first | assumption | omega)] | rw [if_neg (by first | assumption | omega)])) <;> first | exact z0 | exact c3 | exact c5 | exact c7 | exact z3 | exact hd9 | exact hTl | exact hkb
  by_cases t1_97 : a = 5
  · refine eg_tbI 97 dX8_count_1 ⟨by omega, by omega⟩ (by omega) (by omega) (by rw [t1_97]; rfl) rfl ?_
    refine eg_al_n dX8_count_97 rfl rfl ?_
    refine eg_get fl_X8_29 dX8_count_98 (by first | exact er0 | exact ep0 hb | exact ep1 hb | exact ep3 hb | exact ep5 hb | exact ep7 hb | exact er25 | exact er34 | exact er181 | exact er182 | exact er196 | exact er199 | exact er156 | exact ep0 isB_13 | exact ep1 isB_13 | exact ep3 isB_13 | exact ep5 isB_13 | exact ep7 isB_13 | exact er26 | exact er27 | exact er28 | exact ep9 hb | exact ep10 hb | exact ep0 (isB_shelf _ (by omega))) rfl ?_
    refine eg_get fl_X8_192 dX8_count_101 (by first | exact er0 | exact ep0 hb | exact ep1 hb | exact ep3 hb | exact ep5 hb | exact ep7 hb | exact er25 | exact er34 | exact er181 | exact er182 | exact er196 | exact er199 | exact er156 | exact ep0 isB_13 | exact ep1 isB_13 | exact ep3 isB_13 | exact ep5 isB_13 | exact ep7 isB_13 | exact er26 | exact er27 | exact er28 | exact ep9 hb | exact ep10 hb | exact ep0 (isB_shelf _ (by omega))) rfl ?_
    refine eg_ireturn dX8_count_104 rfl rfl ?_
    refine ⟨congrArg (fun q => some (vI q)) ?_, rfl, z, rfl, (Fr.rf).fc, (Fr.rf).ic hI⟩
    unfold A_count; (repeat (first | rw [if_pos (by first | assumption | omega)] | rw [if_neg (by first | assumption | omega)])) <;> first | exact z0 | exact c3 | exact c5 | exact c7 | exact z3 | exact hd9 | exact hTl | exact hkb
  by_cases t1_105 : a = 6
  · refine eg_tbI 105 dX8_count_1 ⟨by omega, by omega⟩ (by omega) (by omega) (by rw [t1_105]; rfl) rfl ?_
    refine eg_al_n dX8_count_105 rfl rfl ?_
    refine eg_get fl_X8_44 dX8_count_106 (by first | exact er0 | exact ep0 hb | exact ep1 hb | exact ep3 hb | exact ep5 hb | exact ep7 hb | exact er25 | exact er34 | exact er181 | exact er182 | exact er196 | exact er199 | exact er156 | exact ep0 isB_13 | exact ep1 isB_13 | exact ep3 isB_13 | exact ep5 isB_13 | exact ep7 isB_13 | exact er26 | exact er27 | exact er28 | exact ep9 hb | exact ep10 hb | exact ep0 (isB_shelf _ (by omega))) rfl ?_
    refine eg_get fl_X8_62 dX8_count_109 (by first | exact er0 | exact ep0 hb | exact ep1 hb | exact ep3 hb | exact ep5 hb | exact ep7 hb | exact er25 | exact er34 | exact er181 | exact er182 | exact er196 | exact er199 | exact er156 | exact ep0 isB_13 | exact ep1 isB_13 | exact ep3 isB_13 | exact ep5 isB_13 | exact ep7 isB_13 | exact er26 | exact er27 | exact er28 | exact ep9 hb | exact ep10 hb | exact ep0 (isB_shelf _ (by omega))) rfl ?_
    refine eg_get fl_X8_76 dX8_count_112 (by first | exact er0 | exact ep0 hb | exact ep1 hb | exact ep3 hb | exact ep5 hb | exact ep7 hb | exact er25 | exact er34 | exact er181 | exact er182 | exact er196 | exact er199 | exact er156 | exact ep0 isB_13 | exact ep1 isB_13 | exact ep3 isB_13 | exact ep5 isB_13 | exact ep7 isB_13 | exact er26 | exact er27 | exact er28 | exact ep9 hb | exact ep10 hb | exact ep0 (isB_shelf _ (by omega))) rfl ?_
    refine eg_ireturn dX8_count_115 rfl rfl ?_
    refine ⟨congrArg (fun q => some (vI q)) ?_, rfl, z, rfl, (Fr.rf).fc, (Fr.rf).ic hI⟩
    unfold A_count; (repeat (first | rw [if_pos (by first | assumption | omega)] | rw [if_neg (by first | assumption | omega)])) <;> first | exact z0 | exact c3 | exact c5 | exact c7 | exact z3 | exact hd9 | exact hTl | exact hkb
  by_cases t1_116 : a = 7
  · refine eg_tbI 116 dX8_count_1 ⟨by omega, by omega⟩ (by omega) (by omega) (by rw [t1_116]; rfl) rfl ?_
    refine eg_al_n dX8_count_116 rfl rfl ?_
    refine eg_get fl_X8_37 dX8_count_117 (by first | exact er0 | exact ep0 hb | exact ep1 hb | exact ep3 hb | exact ep5 hb | exact ep7 hb | exact er25 | exact er34 | exact er181 | exact er182 | exact er196 | exact er199 | exact er156 | exact ep0 isB_13 | exact ep1 isB_13 | exact ep3 isB_13 | exact ep5 isB_13 | exact ep7 isB_13 | exact er26 | exact er27 | exact er28 | exact ep9 hb | exact ep10 hb | exact ep0 (isB_shelf _ (by omega))) rfl ?_
    refine eg_ireturn dX8_count_120 rfl rfl ?_
    refine ⟨congrArg (fun q => some (vI q)) ?_, rfl, z, rfl, (Fr.rf).fc, (Fr.rf).ic hI⟩
    unfold A_count; (repeat (first | rw [if_pos (by first | assumption | omega)] | rw [if_neg (by first | assumption | omega)])) <;> first | exact z0 | exact c3 | exact c5 | exact c7 | exact z3 | exact hd9 | exact hTl | exact hkb
  refine eg_tbO 121 dX8_count_1 ⟨by omega, by omega⟩ (by omega) rfl ?_
  refine eg_iconst dX8_count_121 ?_
  refine eg_ireturn dX8_count_122 rfl rfl ?_
  refine ⟨congrArg (fun q => some (vI q)) ?_, rfl, z, rfl, (Fr.rf).fc, (Fr.rf).ic hI⟩
  unfold A_count; (repeat (first | rw [if_pos (by first | assumption | omega)] | rw [if_neg (by first | assumption | omega)])) <;> first | exact z0 | exact c3 | exact c5 | exact c7 | exact z3 | exact hd9 | exact hTl | exact hkb
