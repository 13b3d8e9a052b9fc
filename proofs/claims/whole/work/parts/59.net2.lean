theorem nTn_b {f : Nat → Int} : ∀ m j : Nat, j ≤ nTn f m j ∧ nTn f m j ≤ j + m
  | 0, j => ⟨Nat.le_refl _, Nat.le_refl _⟩
  | m + 1, j => by
    have ih := nTn_b (f := f) m (j + 1)
    unfold nTn
    split <;> omega
def nTr (v : eg_v) : Nat := nTn (blV v) 6 0
def naS (v : eg_v) (j : Int) : Int := naF (ntF (blV v) j.toNat)
/-- what a trade tells -/
def nTe (v : eg_v) (j w : Int) : Int := if w = 0 then ngF (ntF (blV v) j.toNat) else if w = 1 then nlF (ntF (blV v) j.toNat) else naF (ntF (blV v) j.toNat)
def A_net (v : eg_v) (k w : Int) : Int := if 0 < v 0 ∧ -1 ≤ k ∧ (0 ≤ w ∧ w ≤ 2) ∧ ¬ (k = -1 ∧ w = 1) then (if k = -1 then (if w = 0 then (nTr v : Int) else sm (naS v) (nTr v)) else if (nTr v : Int) ≤ k then -2 else nTe v k w) else -1
theorem c_tradeAt {k : eg_K} {z : eg_Z} {X : eg_M} {n : Nat} {T : Nat} {j w : Int} (hT : z 199 2 = (T : Int)) (h6 : T ≤ 6) (h0 : 0 ≤ j ∧ j < T) (h1 : 0 ≤ w ∧ w ≤ 2) : eg_P k gX1_tradeAt 1 0 0 [vR k 199, vI j, vI w] n (enc k z X) (eg_f (some (vI (z 201 (j * 3 + w).toNat))) n (enc k z X)) := by
  refine eg_P.of (by decide) (Nat.le_of_ble_eq_true rfl) ?_
  show eg_E k gX1_tradeAt 1 0 0 n (enc k z X) [vR k 199, vI j, vI w] [] 0 _
  refine eg_iload_n dX1_tradeAt_0 rfl ?_
  refine eg_iconst dX1_tradeAt_1 ?_
  refine eg_al_n dX1_tradeAt_2 rfl rfl ?_
  refine eg_get fl_X1_18 dX1_tradeAt_3 (by first | exact er199 | exact er200 | exact er201 | exact ep0 hb | exact ep5 hb) rfl ?_
  refine eg_eqI hT ?_
  refine eg_iconst dX1_tradeAt_6 ?_
  refine eg_isub dX1_tradeAt_7 ?_
  refine eg_SNf3 cs_X1_61 dX1_tradeAt_8 (c_X8_within ⟨by omega, by omega⟩ ⟨by omega, by omega⟩ ⟨by omega, by omega⟩) (Nat.le_of_ble_eq_true rfl) (by decide) ?_
  refine eg_bi_eq 23 dX1_tradeAt_11 rfl (fun h11 => absurd h11 (by omega)) (fun h11 => ?_)
  refine eg_iload_n dX1_tradeAt_14 rfl ?_
  refine eg_iconst dX1_tradeAt_15 ?_
  refine eg_iconst dX1_tradeAt_16 ?_
  refine eg_SNf3 cs_X1_61 dX1_tradeAt_17 (c_X8_within ⟨by omega, by omega⟩ ⟨by omega, by omega⟩ ⟨by omega, by omega⟩) (Nat.le_of_ble_eq_true rfl) (by decide) ?_
  refine eg_bi_ne 25 dX1_tradeAt_20 rfl (fun h20 => ?_) (fun h20 => absurd h20 (by omega))
  refine eg_al_n dX1_tradeAt_25 rfl rfl ?_
  refine eg_get fl_X1_15 dX1_tradeAt_26 (by first | exact er199 | exact er200 | exact er201 | exact ep0 hb | exact ep5 hb) rfl ?_
  refine eg_iload_n dX1_tradeAt_29 rfl ?_
  refine eg_iconst dX1_tradeAt_30 ?_
  refine eg_imul dX1_tradeAt_31 ?_
  refine eg_iload_n dX1_tradeAt_32 rfl ?_
  refine eg_iadd dX1_tradeAt_33 ?_
  refine eg_iald dX1_tradeAt_34 (by first | exact er199 | exact er200 | exact er201 | exact ep0 hb | exact ep5 hb) (by omega) (by omega) (by decide) ?_
  refine eg_ireturn dX1_tradeAt_35 rfl rfl ?_
  exact ⟨rfl, rfl, rfl⟩
theorem c_together {k : eg_K} {z : eg_Z} {X : eg_M} {n : Nat} {T : Nat} {g : Int → Int} (hT : z 199 2 = (T : Int)) (h6 : T ≤ 6) (hg : ∀ j : Int, 0 ≤ j → j < T → z 201 (j * 3 + 2).toNat = g j) : eg_P k gX1_together 2 0 0 [vR k 199] n (enc k z X) (eg_f (some (vI (sm g T))) n (enc k z X)) := by
  refine eg_P.of (by decide) (Nat.le_of_ble_eq_true rfl) ?_
  show eg_E k gX1_together 2 0 0 n (enc k z X) [vR k 199, vU, vU] [] 0 _
  have L : ∀ (m : Nat) (i : Int), 0 ≤ i → i ≤ (T : Int) → (T : Int) - i < (m : Int) → eg_E k gX1_together 2 0 0 n (enc k z X) [vR k 199, vI (sm g i.toNat), vI i] [] 4 (eg_f (some (vI (sm g T))) n (enc k z X)) := by
    intro m
    induction m with
    | zero => intro i h0 h1 hm; exfalso; omega
    | succ m ih =>
      intro i h0 h1 hm
      refine eg_iload_n dX1_together_4 rfl ?_
      refine eg_al_n dX1_together_5 rfl rfl ?_
      refine eg_get fl_X1_18 dX1_together_6 (by first | exact er199 | exact er200 | exact er201 | exact ep0 hb | exact ep5 hb) rfl ?_
      refine eg_eqI hT ?_
      refine eg_icmp_ge 27 dX1_together_9 ⟨by omega, by omega⟩ ⟨by omega, by omega⟩ rfl (fun h9 => ?_) (fun h9 => ?_)
      · refine eg_iload_n dX1_together_27 rfl ?_
        refine eg_ireturn dX1_together_28 rfl rfl ?_
        have e : i.toNat = T := by omega
        rw [e]
        exact ⟨rfl, rfl, rfl⟩
      · refine eg_iload_n dX1_together_12 rfl ?_
        refine eg_al_n dX1_together_13 rfl rfl ?_
        refine eg_iload_n dX1_together_14 rfl ?_
        refine eg_iconst dX1_together_15 ?_
        refine eg_Vf2 cs_X1_65 dX1_together_16 (c_tradeAt hT h6 ⟨h0, by omega⟩ ⟨by omega, by omega⟩) (by first | exact er199 | exact er200 | exact er201 | exact ep0 hb | exact ep5 hb) rfl (Nat.le_of_ble_eq_true rfl) (by decide) ?_
        refine eg_eqI (hg i h0 (by omega)) ?_
        refine eg_iadd dX1_together_19 ?_
        refine eg_eqI (y := sm g (i + 1).toNat) (by rw [sm_s _ h0]) ?_
        refine eg_istore_n dX1_together_20 rfl rfl rfl ?_
        refine eg_iinc dX1_together_21 rfl rfl rfl ?_
        refine eg_goto 4 dX1_together_24 rfl ?_
        exact ih (i + 1) (by omega) (by omega) (by omega)
  refine eg_iconst dX1_together_0 ?_
  refine eg_istore_n dX1_together_1 rfl rfl rfl ?_
  refine eg_iconst dX1_together_2 ?_
  refine eg_istore_n dX1_together_3 rfl rfl rfl ?_
  exact L 7 0 (by omega) (by omega) (by omega)
theorem p_net {k : eg_K} {z : eg_Z} {X : eg_M} {n : Nat} {s : eg_S} (hI : IC z s) {a b : Int} (r_a : iR a) (r_b : iR b) : eg_P k gX8_net 3 0 0 [vR k 0, vI a, vI b] n (enc k z X) (eg_p k (some (vI (A_net s.1 a b))) n X (fun z' => FC z z' ∧ IC z' s)) := by
  refine eg_P.of (by decide) (Nat.le_of_ble_eq_true rfl) ?_
  show eg_E k gX8_net 3 0 0 n (enc k z X) [vR k 0, vI a, vI b] [] 0 _
  obtain ⟨hV1, hHi, ⟨hkb, hsh⟩, hT, hTl, hTb⟩ := id hI
  have hb := isB_1
  have hp := hV1.1
  have hv := hV1.2.2.1
  have q := hv.r.2
  obtain ⟨⟨z0, z1, z2, z3⟩, ⟨c1, c3, c5, c7⟩, -⟩ := id hp
  have r_a1 := r_a.1; have r_a2 := r_a.2
  have r_b1 := r_b.1; have r_b2 := r_b.2
  refine eg_iload_n dX8_net_0 rfl ?_
  refine eg_iconst dX8_net_1 ?_
  refine eg_icmp_lt 34 dX8_net_2 ⟨by omega, by omega⟩ ⟨by omega, by omega⟩ rfl (fun h2 => ?_) (fun h2 => ?_)
  · refine eg_iconst dX8_net_34 ?_
    refine eg_ireturn dX8_net_35 rfl rfl ?_
    refine ⟨congrArg (fun q => some (vI q)) ?_, rfl, z, rfl, (Fr.rf).fc, (Fr.rf).ic hI⟩
    unfold A_net; rw [if_neg (by omega)]
  · refine eg_iload_n dX8_net_5 rfl ?_
    refine eg_iconst dX8_net_6 ?_
    refine eg_iconst dX8_net_7 ?_
    refine eg_Sf3 cs_X8_79 dX8_net_8 (c_X8_within ⟨by omega, by omega⟩ ⟨by omega, by omega⟩ ⟨by omega, by omega⟩) (Nat.le_of_ble_eq_true rfl) (by decide) ?_
    refine eg_bi_eq 34 dX8_net_11 rfl (fun h11 => ?_) (fun h11 => ?_)
    · refine eg_iconst dX8_net_34 ?_
      refine eg_ireturn dX8_net_35 rfl rfl ?_
      refine ⟨congrArg (fun q => some (vI q)) ?_, rfl, z, rfl, (Fr.rf).fc, (Fr.rf).ic hI⟩
      unfold A_net; rw [if_neg (by omega)]
    · refine eg_iload_n dX8_net_14 rfl ?_
      refine eg_iconst dX8_net_15 ?_
      refine eg_icmp_ne 24 dX8_net_16 ⟨by omega, by omega⟩ ⟨by omega, by omega⟩ rfl (fun h16 => ?_) (fun h16 => ?_)
      · refine eg_al_n dX8_net_24 rfl rfl ?_
        refine eg_get fl_X8_12 dX8_net_25 (by first | exact er0 | exact ep0 hb | exact ep1 hb | exact ep3 hb | exact ep5 hb | exact ep7 hb | exact er25 | exact er34 | exact er181 | exact er182 | exact er196 | exact er199 | exact er156 | exact ep0 isB_13 | exact ep1 isB_13 | exact ep3 isB_13 | exact ep5 isB_13 | exact ep7 isB_13 | exact er26 | exact er27 | exact er28 | exact ep9 hb | exact ep10 hb | exact ep0 (isB_shelf _ (by omega))) rfl ?_
        refine eg_Vf0 cs_X8_170 dX8_net_28 (c_X2_isThere hb hp hv) (by first | exact er0 | exact ep0 hb | exact ep1 hb | exact ep3 hb | exact ep5 hb | exact ep7 hb | exact er25 | exact er34 | exact er181 | exact er182 | exact er196 | exact er199 | exact er156 | exact ep0 isB_13 | exact ep1 isB_13 | exact ep3 isB_13 | exact ep5 isB_13 | exact ep7 isB_13 | exact er26 | exact er27 | exact er28 | exact ep9 hb | exact ep10 hb | exact ep0 (isB_shelf _ (by omega))) rfl (Nat.le_of_ble_eq_true rfl) (by decide) ?_
        refine eg_bi_ne 36 dX8_net_31 rfl (fun h31 => ?_) (fun h31 => ?_)
        · refine eg_al_n dX8_net_36 rfl rfl ?_
          refine eg_get fl_X8_58 dX8_net_37 (by first | exact er0 | exact ep0 hb | exact ep1 hb | exact ep3 hb | exact ep5 hb | exact ep7 hb | exact er25 | exact er34 | exact er181 | exact er182 | exact er196 | exact er199 | exact er156 | exact ep0 isB_13 | exact ep1 isB_13 | exact ep3 isB_13 | exact ep5 isB_13 | exact ep7 isB_13 | exact er26 | exact er27 | exact er28 | exact ep9 hb | exact ep10 hb | exact ep0 (isB_shelf _ (by omega))) rfl ?_
          refine eg_al_n dX8_net_40 rfl rfl ?_
          refine eg_get fl_X8_12 dX8_net_41 (by first | exact er0 | exact ep0 hb | exact ep1 hb | exact ep3 hb | exact ep5 hb | exact ep7 hb | exact er25 | exact er34 | exact er181 | exact er182 | exact er196 | exact er199 | exact er156 | exact ep0 isB_13 | exact ep1 isB_13 | exact ep3 isB_13 | exact ep5 isB_13 | exact ep7 isB_13 | exact er26 | exact er27 | exact er28 | exact ep9 hb | exact ep10 hb | exact ep0 (isB_shelf _ (by omega))) rfl ?_
          refine eg_Vpv1 cs_X8_276 dX8_net_44 (c_X1_settle hb (by omega) hp hv (by omega)) (by first | exact er0 | exact ep0 hb | exact ep1 hb | exact ep3 hb | exact ep5 hb | exact ep7 hb | exact er25 | exact er34 | exact er181 | exact er182 | exact er196 | exact er199 | exact er156 | exact ep0 isB_13 | exact ep1 isB_13 | exact ep3 isB_13 | exact ep5 isB_13 | exact ep7 isB_13 | exact er26 | exact er27 | exact er28 | exact ep9 hb | exact ep10 hb | exact ep0 (isB_shelf _ (by omega))) rfl (Nat.le_of_ble_eq_true rfl) (by decide) ?_
          rintro y1 ⟨m1, t1, k1⟩
          have T6 := (nTn_b (f := blV s.1) 6 0).2
          have t1 : y1 199 2 = (nTr s.1 : Int) := t1
          have fr : Fr z y1 := fun c hc => m1 c (by omega) (by omega) (by omega)
          have T6 : nTr s.1 ≤ 6 := by unfold nTr; omega
          have e3 : ∀ j : Int, 0 ≤ j → j < nTr s.1 → y1 201 (j * 3 + 0).toNat = ngF (ntF (blV s.1) j.toNat) ∧ y1 201 (j * 3 + 1).toNat = nlF (ntF (blV s.1) j.toNat) ∧ y1 201 (j * 3 + 2).toNat = naF (ntF (blV s.1) j.toNat) := fun j g0 g1 => by
            have := k1 j.toNat (by unfold nTr at g1; omega)
            rw [show (j * 3 + 0).toNat = 3 * j.toNat by omega, show (j * 3 + 1).toNat = 3 * j.toNat + 1 by omega, show (j * 3 + 2).toNat = 3 * j.toNat + 2 by omega]
            exact this
          refine eg_iload_n dX8_net_47 rfl ?_
          refine eg_iconst dX8_net_48 ?_
          refine eg_icmp_ne 74 dX8_net_49 ⟨by omega, by omega⟩ ⟨by omega, by omega⟩ rfl (fun h49 => ?_) (fun h49 => ?_)
          · refine eg_iload_n dX8_net_74 rfl ?_
            refine eg_al_n dX8_net_75 rfl rfl ?_
            refine eg_get fl_X8_58 dX8_net_76 (by first | exact er0 | exact ep0 hb | exact ep1 hb | exact ep3 hb | exact ep5 hb | exact ep7 hb | exact er25 | exact er34 | exact er181 | exact er182 | exact er196 | exact er199 | exact er156 | exact ep0 isB_13 | exact ep1 isB_13 | exact ep3 isB_13 | exact ep5 isB_13 | exact ep7 isB_13 | exact er26 | exact er27 | exact er28 | exact ep9 hb | exact ep10 hb | exact ep0 (isB_shelf _ (by omega))) rfl ?_
            refine eg_get fl_X8_279 dX8_net_79 (by first | exact er0 | exact ep0 hb | exact ep1 hb | exact ep3 hb | exact ep5 hb | exact ep7 hb | exact er25 | exact er34 | exact er181 | exact er182 | exact er196 | exact er199 | exact er156 | exact ep0 isB_13 | exact ep1 isB_13 | exact ep3 isB_13 | exact ep5 isB_13 | exact ep7 isB_13 | exact er26 | exact er27 | exact er28 | exact ep9 hb | exact ep10 hb | exact ep0 (isB_shelf _ (by omega))) rfl ?_
            refine eg_eqI t1 ?_
            refine eg_icmp_lt 88 dX8_net_82 ⟨by omega, by omega⟩ ⟨by omega, by omega⟩ rfl (fun h82 => ?_) (fun h82 => ?_)
            · refine eg_al_n dX8_net_88 rfl rfl ?_
              refine eg_get fl_X8_58 dX8_net_89 (by first | exact er0 | exact ep0 hb | exact ep1 hb | exact ep3 hb | exact ep5 hb | exact ep7 hb | exact er25 | exact er34 | exact er181 | exact er182 | exact er196 | exact er199 | exact er156 | exact ep0 isB_13 | exact ep1 isB_13 | exact ep3 isB_13 | exact ep5 isB_13 | exact ep7 isB_13 | exact er26 | exact er27 | exact er28 | exact ep9 hb | exact ep10 hb | exact ep0 (isB_shelf _ (by omega))) rfl ?_
              refine eg_iload_n dX8_net_92 rfl ?_
              refine eg_iload_n dX8_net_93 rfl ?_
              refine eg_Vf2 cs_X8_285 dX8_net_94 (c_tradeAt t1 T6 ⟨by omega, by omega⟩ ⟨by omega, by omega⟩) (by first | exact er0 | exact ep0 hb | exact ep1 hb | exact ep3 hb | exact ep5 hb | exact ep7 hb | exact er25 | exact er34 | exact er181 | exact er182 | exact er196 | exact er199 | exact er156 | exact ep0 isB_13 | exact ep1 isB_13 | exact ep3 isB_13 | exact ep5 isB_13 | exact ep7 isB_13 | exact er26 | exact er27 | exact er28 | exact ep9 hb | exact ep10 hb | exact ep0 (isB_shelf _ (by omega))) rfl (Nat.le_of_ble_eq_true rfl) (by decide) ?_
              refine eg_ireturn dX8_net_97 rfl rfl ?_
              refine ⟨congrArg (fun q => some (vI q)) ?_, rfl, y1, rfl, (fr).fc, (fr).ic hI⟩
              unfold A_net; rw [if_pos (by omega), if_neg (by omega), if_neg (by omega)]; unfold nTe; have e4 := e3 a (by omega) (by omega); by_cases w0 : b = 0; (rw [if_pos w0, w0]; exact e4.1); by_cases w1 : b = 1; (rw [if_neg w0, if_pos w1, w1]; exact e4.2.1); (rw [if_neg w0, if_neg w1, show b = 2 by omega]; exact e4.2.2)
            · refine eg_bipush dX8_net_85 (by decide) ?_
              refine eg_ireturn dX8_net_87 rfl rfl ?_
              refine ⟨congrArg (fun q => some (vI q)) ?_, rfl, y1, rfl, (fr).fc, (fr).ic hI⟩
              unfold A_net; rw [if_pos (by omega), if_neg (by omega), if_pos (by omega)]
          · refine eg_iload_n dX8_net_52 rfl ?_
            refine eg_if_ne 66 dX8_net_53 ⟨by omega, by omega⟩ rfl (fun h53 => ?_) (fun h53 => ?_)
            · refine eg_al_n dX8_net_66 rfl rfl ?_
              refine eg_get fl_X8_58 dX8_net_67 (by first | exact er0 | exact ep0 hb | exact ep1 hb | exact ep3 hb | exact ep5 hb | exact ep7 hb | exact er25 | exact er34 | exact er181 | exact er182 | exact er196 | exact er199 | exact er156 | exact ep0 isB_13 | exact ep1 isB_13 | exact ep3 isB_13 | exact ep5 isB_13 | exact ep7 isB_13 | exact er26 | exact er27 | exact er28 | exact ep9 hb | exact ep10 hb | exact ep0 (isB_shelf _ (by omega))) rfl ?_
              refine eg_Vf0 cs_X8_282 dX8_net_70 (c_together (g := naS s.1) t1 T6 (fun j g0 g1 => (e3 j g0 g1).2.2)) (by first | exact er0 | exact ep0 hb | exact ep1 hb | exact ep3 hb | exact ep5 hb | exact ep7 hb | exact er25 | exact er34 | exact er181 | exact er182 | exact er196 | exact er199 | exact er156 | exact ep0 isB_13 | exact ep1 isB_13 | exact ep3 isB_13 | exact ep5 isB_13 | exact ep7 isB_13 | exact er26 | exact er27 | exact er28 | exact ep9 hb | exact ep10 hb | exact ep0 (isB_shelf _ (by omega))) rfl (Nat.le_of_ble_eq_true rfl) (by decide) ?_
              refine eg_ireturn dX8_net_73 rfl rfl ?_
              refine ⟨congrArg (fun q => some (vI q)) ?_, rfl, y1, rfl, (fr).fc, (fr).ic hI⟩
              unfold A_net; first | (exfalso; omega) | (rw [if_pos (by omega), if_pos (by omega), if_pos (by omega)]) | (rw [if_pos (by omega), if_pos (by omega), if_neg (by omega)])
            · refine eg_al_n dX8_net_56 rfl rfl ?_
              refine eg_get fl_X8_58 dX8_net_57 (by first | exact er0 | exact ep0 hb | exact ep1 hb | exact ep3 hb | exact ep5 hb | exact ep7 hb | exact er25 | exact er34 | exact er181 | exact er182 | exact er196 | exact er199 | exact er156 | exact ep0 isB_13 | exact ep1 isB_13 | exact ep3 isB_13 | exact ep5 isB_13 | exact ep7 isB_13 | exact er26 | exact er27 | exact er28 | exact ep9 hb | exact ep10 hb | exact ep0 (isB_shelf _ (by omega))) rfl ?_
              refine eg_get fl_X8_279 dX8_net_60 (by first | exact er0 | exact ep0 hb | exact ep1 hb | exact ep3 hb | exact ep5 hb | exact ep7 hb | exact er25 | exact er34 | exact er181 | exact er182 | exact er196 | exact er199 | exact er156 | exact ep0 isB_13 | exact ep1 isB_13 | exact ep3 isB_13 | exact ep5 isB_13 | exact ep7 isB_13 | exact er26 | exact er27 | exact er28 | exact ep9 hb | exact ep10 hb | exact ep0 (isB_shelf _ (by omega))) rfl ?_
              refine eg_eqI t1 ?_
              refine eg_goto 73 dX8_net_63 rfl ?_
              refine eg_ireturn dX8_net_73 rfl rfl ?_
              refine ⟨congrArg (fun q => some (vI q)) ?_, rfl, y1, rfl, (fr).fc, (fr).ic hI⟩
              unfold A_net; first | (exfalso; omega) | (rw [if_pos (by omega), if_pos (by omega), if_pos (by omega)]) | (rw [if_pos (by omega), if_pos (by omega), if_neg (by omega)])
        · refine eg_iconst dX8_net_34 ?_
          refine eg_ireturn dX8_net_35 rfl rfl ?_
          refine ⟨congrArg (fun q => some (vI q)) ?_, rfl, z, rfl, (Fr.rf).fc, (Fr.rf).ic hI⟩
          unfold A_net; rw [if_neg (by omega)]
      · refine eg_iload_n dX8_net_19 rfl ?_
        refine eg_iconst dX8_net_20 ?_
        refine eg_icmp_eq 34 dX8_net_21 ⟨by omega, by omega⟩ ⟨by omega, by omega⟩ rfl (fun h21 => ?_) (fun h21 => ?_)
        · refine eg_iconst dX8_net_34 ?_
          refine eg_ireturn dX8_net_35 rfl rfl ?_
          refine ⟨congrArg (fun q => some (vI q)) ?_, rfl, z, rfl, (Fr.rf).fc, (Fr.rf).ic hI⟩
          unfold A_net; rw [if_neg (by omega)]
        · refine eg_al_n dX8_net_24 rfl rfl ?_
          refine eg_get fl_X8_12 dX8_net_25 (by first | exact er0 | exact ep0 hb | exact ep1 hb | exact ep3 hb | exact ep5 hb | exact ep7 hb | exact er25 | exact er34 | exact er181 | exact er182 | exact er196 | exact er199 | exact er156 | exact ep0 isB_13 | exact ep1 isB_13 | exact ep3 isB_13 | exact ep5 isB_13 | exact ep7 isB_13 | exact er26 | exact er27 | exact er28 | exact ep9 hb | exact ep10 hb | exact ep0 (isB_shelf _ (by omega))) rfl ?_
          refine eg_Vf0 cs_X8_170 dX8_net_28 (c_X2_isThere hb hp hv) (by first | exact er0 | exact ep0 hb | exact ep1 hb | exact ep3 hb | exact ep5 hb | exact ep7 hb | exact er25 | exact er34 | exact er181 | exact er182 | exact er196 | exact er199 | exact er156 | exact ep0 isB_13 | exact ep1 isB_13 | exact ep3 isB_13 | exact ep5 isB_13 | exact ep7 isB_13 | exact er26 | exact er27 | exact er28 | exact ep9 hb | exact ep10 hb | exact ep0 (isB_shelf _ (by omega))) rfl (Nat.le_of_ble_eq_true rfl) (by decide) ?_
          refine eg_bi_ne 36 dX8_net_31 rfl (fun h31 => ?_) (fun h31 => ?_)
          · refine eg_al_n dX8_net_36 rfl rfl ?_
            refine eg_get fl_X8_58 dX8_net_37 (by first | exact er0 | exact ep0 hb | exact ep1 hb | exact ep3 hb | exact ep5 hb | exact ep7 hb | exact er25 | exact er34 | exact er181 | exact er182 | exact er196 | exact er199 | exact er156 | exact ep0 isB_13 | exact ep1 isB_13 | exact ep3 isB_13 | exact ep5 isB_13 | exact ep7 isB_13 | exact er26 | exact er27 | exact er28 | exact ep9 hb | exact ep10 hb | exact ep0 (isB_shelf _ (by omega))) rfl ?_
            refine eg_al_n dX8_net_40 rfl rfl ?_
            refine eg_get fl_X8_12 dX8_net_41 (by first | exact er0 | exact ep0 hb | exact ep1 hb | exact ep3 hb | exact ep5 hb | exact ep7 hb | exact er25 | exact er34 | exact er181 | exact er182 | exact er196 | exact er199 | exact er156 | exact ep0 isB_13 | exact ep1 isB_13 | exact ep3 isB_13 | exact ep5 isB_13 | exact ep7 isB_13 | exact er26 | exact er27 | exact er28 | exact ep9 hb | exact ep10 hb | exact ep0 (isB_shelf _ (by omega))) rfl ?_
            refine eg_Vpv1 cs_X8_276 dX8_net_44 (c_X1_settle hb (by omega) hp hv (by omega)) (by first | exact er0 | exact ep0 hb | exact ep1 hb | exact ep3 hb | exact ep5 hb | exact ep7 hb | exact er25 | exact er34 | exact er181 | exact er182 | exact er196 | exact er199 | exact er156 | exact ep0 isB_13 | exact ep1 isB_13 | exact ep3 isB_13 | exact ep5 isB_13 | exact ep7 isB_13 | exact er26 | exact er27 | exact er28 | exact ep9 hb | exact ep10 hb | exact ep0 (isB_shelf _ (by omega))) rfl (Nat.le_of_ble_eq_true rfl) (by decide) ?_
            rintro y1 ⟨m1, t1, k1⟩
            have T6 := (nTn_b (f := blV s.1) 6 0).2
            have t1 : y1 199 2 = (nTr s.1 : Int) := t1
            have fr : Fr z y1 := fun c hc => m1 c (by omega) (by omega) (by omega)
            have T6 : nTr s.1 ≤ 6 := by unfold nTr; omega
            have e3 : ∀ j : Int, 0 ≤ j → j < nTr s.1 → y1 201 (j * 3 + 0).toNat = ngF (ntF (blV s.1) j.toNat) ∧ y1 201 (j * 3 + 1).toNat = nlF (ntF (blV s.1) j.toNat) ∧ y1 201 (j * 3 + 2).toNat = naF (ntF (blV s.1) j.toNat) := fun j g0 g1 => by
              have := k1 j.toNat (by unfold nTr at g1; omega)
              rw [show (j * 3 + 0).toNat = 3 * j.toNat by omega, show (j * 3 + 1).toNat = 3 * j.toNat + 1 by omega, show (j * 3 + 2).toNat = 3 * j.toNat + 2 by omega]
              exact this
            refine eg_iload_n dX8_net_47 rfl ?_
            refine eg_iconst dX8_net_48 ?_
            refine eg_icmp_ne 74 dX8_net_49 ⟨by omega, by omega⟩ ⟨by omega, by omega⟩ rfl (fun h49 => ?_) (fun h49 => ?_)
            · refine eg_iload_n dX8_net_74 rfl ?_
              refine eg_al_n dX8_net_75 rfl rfl ?_
              refine eg_get fl_X8_58 dX8_net_76 (by first | exact er0 | exact ep0 hb | exact ep1 hb | exact ep3 hb | exact ep5 hb | exact ep7 hb | exact er25 | exact er34 | exact er181 | exact er182 | exact er196 | exact er199 | exact er156 | exact ep0 isB_13 | exact ep1 isB_13 | exact ep3 isB_13 | exact ep5 isB_13 | exact ep7 isB_13 | exact er26 | exact er27 | exact er28 | exact ep9 hb | exact ep10 hb | exact ep0 (isB_shelf _ (by omega))) rfl ?_
              refine eg_get fl_X8_279 dX8_net_79 (by first | exact er0 | exact ep0 hb | exact ep1 hb | exact ep3 hb | exact ep5 hb | exact ep7 hb | exact er25 | exact er34 | exact er181 | exact er182 | exact er196 | exact er199 | exact er156 | exact ep0 isB_13 | exact ep1 isB_13 | exact ep3 isB_13 | exact ep5 isB_13 | exact ep7 isB_13 | exact er26 | exact er27 | exact er28 | exact ep9 hb | exact ep10 hb | exact ep0 (isB_shelf _ (by omega))) rfl ?_
              refine eg_eqI t1 ?_
              refine eg_icmp_lt 88 dX8_net_82 ⟨by omega, by omega⟩ ⟨by omega, by omega⟩ rfl (fun h82 => ?_) (fun h82 => ?_)
              · refine eg_al_n dX8_net_88 rfl rfl ?_
                refine eg_get fl_X8_58 dX8_net_89 (by first | exact er0 | exact ep0 hb | exact ep1 hb | exact ep3 hb | exact ep5 hb | exact ep7 hb | exact er25 | exact er34 | exact er181 | exact er182 | exact er196 | exact er199 | exact er156 | exact ep0 isB_13 | exact ep1 isB_13 | exact ep3 isB_13 | exact ep5 isB_13 | exact ep7 isB_13 | exact er26 | exact er27 | exact er28 | exact ep9 hb | exact ep10 hb | exact ep0 (isB_shelf _ (by omega))) rfl ?_
                refine eg_iload_n dX8_net_92 rfl ?_
                refine eg_iload_n dX8_net_93 rfl ?_
                refine eg_Vf2 cs_X8_285 dX8_net_94 (c_tradeAt t1 T6 ⟨by omega, by omega⟩ ⟨by omega, by omega⟩) (by first | exact er0 | exact ep0 hb | exact ep1 hb | exact ep3 hb | exact ep5 hb | exact ep7 hb | exact er25 | exact er34 | exact er181 | exact er182 | exact er196 | exact er199 | exact er156 | exact ep0 isB_13 | exact ep1 isB_13 | exact ep3 isB_13 | exact ep5 isB_13 | exact ep7 isB_13 | exact er26 | exact er27 | exact er28 | exact ep9 hb | exact ep10 hb | exact ep0 (isB_shelf _ (by omega))) rfl (Nat.le_of_ble_eq_true rfl) (by decide) ?_
                refine eg_ireturn dX8_net_97 rfl rfl ?_
                refine ⟨congrArg (fun q => some (vI q)) ?_, rfl, y1, rfl, (fr).fc, (fr).ic hI⟩
                unfold A_net; rw [if_pos (by omega), if_neg (by omega), if_neg (by omega)]; unfold nTe; have e4 := e3 a (by omega) (by omega); by_cases w0 : b = 0; (rw [if_pos w0, w0]; exact e4.1); by_cases w1 : b = 1; (rw [if_neg w0, if_pos w1, w1]; exact e4.2.1); (rw [if_neg w0, if_neg w1, show b = 2 by omega]; exact e4.2.2)
              · refine eg_bipush dX8_net_85 (by decide) ?_
                refine eg_ireturn dX8_net_87 rfl rfl ?_
                refine ⟨congrArg (fun q => some (vI q)) ?_, rfl, y1, rfl, (fr).fc, (fr).ic hI⟩
                unfold A_net; rw [if_pos (by omega), if_neg (by omega), if_pos (by omega)]
            · refine eg_iload_n dX8_net_52 rfl ?_
              refine eg_if_ne 66 dX8_net_53 ⟨by omega, by omega⟩ rfl (fun h53 => ?_) (fun h53 => ?_)
              · refine eg_al_n dX8_net_66 rfl rfl ?_
                refine eg_get fl_X8_58 dX8_net_67 (by first | exact er0 | exact ep0 hb | exact ep1 hb | exact ep3 hb | exact ep5 hb | exact ep7 hb | exact er25 | exact er34 | exact er181 | exact er182 | exact er196 | exact er199 | exact er156 | exact ep0 isB_13 | exact ep1 isB_13 | exact ep3 isB_13 | exact ep5 isB_13 | exact ep7 isB_13 | exact er26 | exact er27 | exact er28 | exact ep9 hb | exact ep10 hb | exact ep0 (isB_shelf _ (by omega))) rfl ?_
                refine eg_Vf0 cs_X8_282 dX8_net_70 (c_together (g := naS s.1) t1 T6 (fun j g0 g1 => (e3 j g0 g1).2.2)) (by first | exact er0 | exact ep0 hb | exact ep1 hb | exact ep3 hb | exact ep5 hb | exact ep7 hb | exact er25 | exact er34 | exact er181 | exact er182 | exact er196 | exact er199 | exact er156 | exact ep0 isB_13 | exact ep1 isB_13 | exact ep3 isB_13 | exact ep5 isB_13 | exact ep7 isB_13 | exact er26 | exact er27 | exact er28 | exact ep9 hb | exact ep10 hb | exact ep0 (isB_shelf _ (by omega))) rfl (Nat.le_of_ble_eq_true rfl) (by decide) ?_
                refine eg_ireturn dX8_net_73 rfl rfl ?_
                refine ⟨congrArg (fun q => some (vI q)) ?_, rfl, y1, rfl, (fr).fc, (fr).ic hI⟩
                unfold A_net; first | (exfalso; omega) | (rw [if_pos (by omega), if_pos (by omega), if_pos (by omega)]) | (rw [if_pos (by omega), if_pos (by omega), if_neg (by omega)])
              · refine eg_al_n dX8_net_56 rfl rfl ?_
                refine eg_get fl_X8_58 dX8_net_57 (by first | exact er0 | exact ep0 hb | exact ep1 hb | exact ep3 hb | exact ep5 hb | exact ep7 hb | exact er25 | exact er34 | exact er181 | exact er182 | exact er196 | exact er199 | exact er156 | exact ep0 isB_13 | exact ep1 isB_13 | exact ep3 isB_13 | exact ep5 isB_13 | exact ep7 isB_13 | exact er26 | exact er27 | exact er28 | exact ep9 hb | exact ep10 hb | exact ep0 (isB_shelf _ (by omega))) rfl ?_
                refine eg_get fl_X8_279 dX8_net_60 (by first | exact er0 | exact ep0 hb | exact ep1 hb | exact ep3 hb | exact ep5 hb | exact ep7 hb | exact er25 | exact er34 | exact er181 | exact er182 | exact er196 | exact er199 | exact er156 | exact ep0 isB_13 | exact ep1 isB_13 | exact ep3 isB_13 | exact ep5 isB_13 | exact ep7 isB_13 | exact er26 | exact er27 | exact er28 | exact ep9 hb | exact ep10 hb | exact ep0 (isB_shelf _ (by omega))) rfl ?_
                refine eg_eqI t1 ?_
                refine eg_goto 73 dX8_net_63 rfl ?_
                refine eg_ireturn dX8_net_73 rfl rfl ?_
                refine ⟨congrArg (fun q => some (vI q)) ?_, rfl, y1, rfl, (fr).fc, (fr).ic hI⟩
                unfold A_net; first | (exfalso; omega) | (rw [if_pos (by omega), if_pos (by omega), if_pos (by omega)]) | (rw [if_pos (by omega), if_pos (by omega), if_neg (by omega)])
          · refine eg_iconst dX8_net_34 ?_
            refine eg_ireturn dX8_net_35 rfl rfl ?_
            refine ⟨congrArg (fun q => some (vI q)) ?_, rfl, z, rfl, (Fr.rf).fc, (Fr.rf).ic hI⟩
            unfold A_net; rw [if_neg (by omega)]
