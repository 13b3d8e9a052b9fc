theorem c_writesNomination {k : eg_K} {z : eg_Z} {X : eg_M} {n : Nat} {T : List Int} {w : Int} (hW : WR z T w) (rw_ : iR w) {v : eg_v} (hN : nw z v) {B : Int} (hv : VV B v) {i : Int} (hi0 : 0 ≤ i) (hi1 : i < v 3) (hl9 : T.length ≤ 1900) : eg_P k gX9_writesNomination 7 0 0 [vR k 202, vI i] n (enc k z X) (eg_p k none n X (fun z' => FW z z' ∧ WR z' (T ++ noT v i) w)) := by
  refine eg_P.of (by decide) (Nat.le_of_ble_eq_true rfl) ?_
  show eg_E k gX9_writesNomination 7 0 0 n (enc k z X) [vR k 202, vI i, vU, vU, vU] [] 0 _
  have q := hv.r.2
  have on := hv.N hi0 hi1
  unfold okN at on
  have gb9 : ∀ j : Int, 0 ≤ j → j < 4 → -1 ≤ gN v i j ∧ gN v i j ≤ 9999 := fun j g0 g1 => by
    have a1 := on.2.1
    have a2 := on.2.2.1
    unfold isIn at a1
    unfold isOut at a2
    rcases (show j = 0 ∨ j = 1 ∨ j = 2 ∨ j = 3 by omega) with rfl | rfl | rfl | rfl <;> omega
  have o3 := on.2.2.2.2
  have pl : ∀ c, (noP v i c).length ≤ 5 := fun c => by unfold noP; split; exact Nat.zero_le _; exact nm_len _
  have w5 : (59 :: noW v i).length ≤ 5 := by unfold noW; split; decide; split <;> decide
  have L62 : ∀ (mm : Nat) (a : Int) (b : Int) (j : Int) (y : eg_Z), (0 ≤ j) → (j ≤ 4) → (FW z y) → (WR y (T ++ 59 :: noW v i ++ rpT (noP v i) j.toNat) w) → 4 - j < (mm : Int) → eg_E k gX9_writesNomination 7 0 0 n (enc k y X) [vR k 202, vI i, vI a, vI b, vI j] [] 62 (eg_p k none n X (fun z' => FW z z' ∧ WR z' (T ++ noT v i) w)) := by
    intro mm
    induction mm with
    | zero => intro a b j y h0 h1 hf hw hmm; exfalso; omega
    | succ mm ih =>
      intro a b j y h0 h1 hf hw hmm
      have lb : (T ++ 59 :: noW v i ++ rpT (noP v i) j.toNat).length ≤ 2000 := by rw [List.length_append, List.length_append]; have := rp_len (f := noP v i) (c := 5) pl j.toNat; omega
      refine eg_iload dX9_writesNomination_62 rfl ?_
      refine eg_iconst dX9_writesNomination_64 ?_
      refine eg_icmp_ge 102 dX9_writesNomination_65 ⟨by omega, by omega⟩ ⟨by omega, by omega⟩ rfl (fun h65 => ?_) (fun h65 => ?_)
      · refine eg_return dX9_writesNomination_102 rfl ?_
        have e4 : j.toNat = 4 := by omega
        exact ⟨rfl, rfl, y, rfl, hf, hw.e (by rw [e4, List.append_assoc]; rfl)⟩
      · refine eg_al_n dX9_writesNomination_68 rfl rfl ?_
        refine eg_iload_n dX9_writesNomination_69 rfl ?_
        refine eg_iload dX9_writesNomination_70 rfl ?_
        have gb : -1 ≤ gN v i j ∧ gN v i j ≤ 9999 := gb9 j h0 (by omega)
        refine eg_Vf2 cs_X9_259 dX9_writesNomination_72 (c_nom (hf.nw hN) (by omega) (by omega) h0 (by omega)) (by first | exact er202 | exact er203 | exact er204 | exact er205 | exact er206 | exact er207 | exact er208 | exact er209 | exact er210 | exact er211 | exact er212 | exact er213 | exact er214 | exact er215) rfl (Nat.le_of_ble_eq_true rfl) (by decide) ?_
        refine eg_iconst dX9_writesNomination_75 ?_
        refine eg_icmp_ne 85 dX9_writesNomination_76 ⟨by omega, by omega⟩ ⟨by omega, by omega⟩ rfl (fun h76 => ?_) (fun h76 => ?_)
        · have nb : 0 ≤ gN v i j ∧ gN v i j ≤ 9999 := by omega
          refine eg_al_n dX9_writesNomination_85 rfl rfl ?_
          refine eg_al_n dX9_writesNomination_86 rfl rfl ?_
          refine eg_iload_n dX9_writesNomination_87 rfl ?_
          refine eg_iload dX9_writesNomination_88 rfl ?_
          refine eg_Vf2 cs_X9_259 dX9_writesNomination_90 (c_nom (hf.nw hN) (by omega) (by omega) h0 (by omega)) (by first | exact er202 | exact er203 | exact er204 | exact er205 | exact er206 | exact er207 | exact er208 | exact er209 | exact er210 | exact er211 | exact er212 | exact er213 | exact er214 | exact er215) rfl (Nat.le_of_ble_eq_true rfl) (by decide) ?_
          refine eg_Vpv1 cs_X9_397 dX9_writesNomination_93 (c_writesNumber hw rw_ nb lb) (by first | exact er202 | exact er203 | exact er204 | exact er205 | exact er206 | exact er207 | exact er208 | exact er209 | exact er210 | exact er211 | exact er212 | exact er213 | exact er214 | exact er215) rfl (Nat.le_of_ble_eq_true rfl) (by decide) ?_
          rintro y1 ⟨f1, w1⟩
          refine eg_iinc dX9_writesNomination_96 rfl rfl rfl ?_
          refine eg_goto 62 dX9_writesNomination_99 rfl ?_
          exact ih a b (j + 1) y1 (by omega) (by omega) (hf.tr f1) (w1.e (by rw [rp_s h0, List.append_assoc, show noP v i j = nmT (gN v i j) from by unfold noP; rw [if_neg (by omega)]])) (by omega)
        · refine eg_iload dX9_writesNomination_79 rfl ?_
          refine eg_iconst dX9_writesNomination_81 ?_
          refine eg_icmp_ne 96 dX9_writesNomination_82 ⟨by omega, by omega⟩ ⟨by omega, by omega⟩ rfl (fun h82 => ?_) (fun h82 => absurd h82 (by intro hh; rw [hh] at h76; omega))
          refine eg_iinc dX9_writesNomination_96 rfl rfl rfl ?_
          refine eg_goto 62 dX9_writesNomination_99 rfl ?_
          exact ih a b (j + 1) y (by omega) (by omega) hf (hw.e (by rw [rp_s h0, show noP v i j = [] from by unfold noP; rw [if_pos (by omega)], List.append_nil])) (by omega)
  have J59 : ∀ (a b : Int) (y : eg_Z), FW z y → WR y (T ++ 59 :: noW v i) w → eg_E k gX9_writesNomination 7 0 0 n (enc k y X) [vR k 202, vI i, vI a, vI b, vU] [] 59 (eg_p k none n X (fun z' => FW z z' ∧ WR z' (T ++ noT v i) w)) := by
    intro a b y hf hw
    refine eg_iconst dX9_writesNomination_59 ?_
    refine eg_istore dX9_writesNomination_60 rfl rfl rfl ?_
    exact L62 5 a b 0 y (by omega) (by omega) hf (hw.e (by show _ = _ ++ []; rw [List.append_nil])) (by omega)
  have g1 := gb9 1 (by omega) (by omega)
  have g2 := gb9 2 (by omega) (by omega)
  refine eg_al_n dX9_writesNomination_0 rfl rfl ?_
  refine eg_iload_n dX9_writesNomination_1 rfl ?_
  refine eg_iconst dX9_writesNomination_2 ?_
  refine eg_Vf2 cs_X9_259 dX9_writesNomination_3 (c_nom hN (by omega) (by omega) (by omega) (by omega)) (by first | exact er202 | exact er203 | exact er204 | exact er205 | exact er206 | exact er207 | exact er208 | exact er209 | exact er210 | exact er211 | exact er212 | exact er213 | exact er214 | exact er215) rfl (Nat.le_of_ble_eq_true rfl) (by decide) ?_
  refine eg_iconst dX9_writesNomination_6 ?_
  refine eg_icmp_ne 14 dX9_writesNomination_7 ⟨by omega, by omega⟩ ⟨by omega, by omega⟩ rfl (fun h7 => ?_) (fun h7 => ?_)
  · refine eg_iconst dX9_writesNomination_14 ?_
    refine eg_istore_n dX9_writesNomination_15 rfl rfl rfl ?_
    refine eg_al_n dX9_writesNomination_16 rfl rfl ?_
    refine eg_iload_n dX9_writesNomination_17 rfl ?_
    refine eg_iconst dX9_writesNomination_18 ?_
    refine eg_Vf2 cs_X9_259 dX9_writesNomination_19 (c_nom hN (by omega) (by omega) (by omega) (by omega)) (by first | exact er202 | exact er203 | exact er204 | exact er205 | exact er206 | exact er207 | exact er208 | exact er209 | exact er210 | exact er211 | exact er212 | exact er213 | exact er214 | exact er215) rfl (Nat.le_of_ble_eq_true rfl) (by decide) ?_
    refine eg_iconst dX9_writesNomination_22 ?_
    refine eg_icmp_ne 30 dX9_writesNomination_23 ⟨by omega, by omega⟩ ⟨by omega, by omega⟩ rfl (fun h23 => ?_) (fun h23 => ?_)
    · refine eg_iconst dX9_writesNomination_30 ?_
      refine eg_istore_n dX9_writesNomination_31 rfl rfl rfl ?_
      refine eg_al_n dX9_writesNomination_32 rfl rfl ?_
      refine eg_iload_n dX9_writesNomination_33 rfl ?_
      refine eg_if_eq 43 dX9_writesNomination_34 ⟨by omega, by omega⟩ rfl (fun h34 => ?_) (fun h34 => absurd h34 (by omega))
      refine eg_iload_n dX9_writesNomination_43 rfl ?_
      refine eg_if_eq 53 dX9_writesNomination_44 ⟨by omega, by omega⟩ rfl (fun h44 => ?_) (fun h44 => absurd h44 (by omega))
      refine eg_ldcwS (i := 29) rfl dX9_writesNomination_53 ?_
      refine eg_Vpv1 cs_X9_393 dX9_writesNomination_56 (c_writesWord hW rw_ (by decide) (by omega)) (by first | exact er202 | exact er203 | exact er204 | exact er205 | exact er206 | exact er207 | exact er208 | exact er209 | exact er210 | exact er211 | exact er212 | exact er213 | exact er214 | exact er215) rfl (Nat.le_of_ble_eq_true rfl) (by decide) ?_
      rintro y1 ⟨f1, w1⟩
      have eW : noW v i = wNom := by unfold noW; rw [if_neg (by omega), if_neg (by omega)]
      exact J59 0 0 y1 f1 (w1.e (by rw [eW]; rfl))
    · refine eg_iconst dX9_writesNomination_26 ?_
      refine eg_goto 31 dX9_writesNomination_27 rfl ?_
      refine eg_istore_n dX9_writesNomination_31 rfl rfl rfl ?_
      refine eg_al_n dX9_writesNomination_32 rfl rfl ?_
      refine eg_iload_n dX9_writesNomination_33 rfl ?_
      refine eg_if_eq 43 dX9_writesNomination_34 ⟨by omega, by omega⟩ rfl (fun h34 => ?_) (fun h34 => absurd h34 (by omega))
      refine eg_iload_n dX9_writesNomination_43 rfl ?_
      refine eg_if_eq 53 dX9_writesNomination_44 ⟨by omega, by omega⟩ rfl (fun h44 => absurd h44 (by omega)) (fun h44 => ?_)
      refine eg_ldcwS (i := 28) rfl dX9_writesNomination_47 ?_
      refine eg_goto 56 dX9_writesNomination_50 rfl ?_
      refine eg_Vpv1 cs_X9_393 dX9_writesNomination_56 (c_writesWord hW rw_ (by decide) (by omega)) (by first | exact er202 | exact er203 | exact er204 | exact er205 | exact er206 | exact er207 | exact er208 | exact er209 | exact er210 | exact er211 | exact er212 | exact er213 | exact er214 | exact er215) rfl (Nat.le_of_ble_eq_true rfl) (by decide) ?_
      rintro y1 ⟨f1, w1⟩
      have eW : noW v i = wLon := by unfold noW; rw [if_neg (by omega), if_pos (by omega)]
      exact J59 0 1 y1 f1 (w1.e (by rw [eW]; rfl))
  · refine eg_iconst dX9_writesNomination_10 ?_
    refine eg_goto 15 dX9_writesNomination_11 rfl ?_
    refine eg_istore_n dX9_writesNomination_15 rfl rfl rfl ?_
    refine eg_al_n dX9_writesNomination_16 rfl rfl ?_
    refine eg_iload_n dX9_writesNomination_17 rfl ?_
    refine eg_iconst dX9_writesNomination_18 ?_
    refine eg_Vf2 cs_X9_259 dX9_writesNomination_19 (c_nom hN (by omega) (by omega) (by omega) (by omega)) (by first | exact er202 | exact er203 | exact er204 | exact er205 | exact er206 | exact er207 | exact er208 | exact er209 | exact er210 | exact er211 | exact er212 | exact er213 | exact er214 | exact er215) rfl (Nat.le_of_ble_eq_true rfl) (by decide) ?_
    refine eg_iconst dX9_writesNomination_22 ?_
    refine eg_icmp_ne 30 dX9_writesNomination_23 ⟨by omega, by omega⟩ ⟨by omega, by omega⟩ rfl (fun h23 => ?_) (fun h23 => ?_)
    · refine eg_iconst dX9_writesNomination_30 ?_
      refine eg_istore_n dX9_writesNomination_31 rfl rfl rfl ?_
      refine eg_al_n dX9_writesNomination_32 rfl rfl ?_
      refine eg_iload_n dX9_writesNomination_33 rfl ?_
      refine eg_if_eq 43 dX9_writesNomination_34 ⟨by omega, by omega⟩ rfl (fun h34 => absurd h34 (by omega)) (fun h34 => ?_)
      refine eg_ldcwS (i := 27) rfl dX9_writesNomination_37 ?_
      refine eg_goto 56 dX9_writesNomination_40 rfl ?_
      refine eg_Vpv1 cs_X9_393 dX9_writesNomination_56 (c_writesWord hW rw_ (by decide) (by omega)) (by first | exact er202 | exact er203 | exact er204 | exact er205 | exact er206 | exact er207 | exact er208 | exact er209 | exact er210 | exact er211 | exact er212 | exact er213 | exact er214 | exact er215) rfl (Nat.le_of_ble_eq_true rfl) (by decide) ?_
      rintro y1 ⟨f1, w1⟩
      have eW : noW v i = wPrk := by unfold noW; rw [if_pos (by omega)]
      exact J59 1 0 y1 f1 (w1.e (by rw [eW]; rfl))
    · refine eg_iconst dX9_writesNomination_26 ?_
      refine eg_goto 31 dX9_writesNomination_27 rfl ?_
      refine eg_istore_n dX9_writesNomination_31 rfl rfl rfl ?_
      refine eg_al_n dX9_writesNomination_32 rfl rfl ?_
      refine eg_iload_n dX9_writesNomination_33 rfl ?_
      refine eg_if_eq 43 dX9_writesNomination_34 ⟨by omega, by omega⟩ rfl (fun h34 => absurd h34 (by omega)) (fun h34 => ?_)
      refine eg_ldcwS (i := 27) rfl dX9_writesNomination_37 ?_
      refine eg_goto 56 dX9_writesNomination_40 rfl ?_
      refine eg_Vpv1 cs_X9_393 dX9_writesNomination_56 (c_writesWord hW rw_ (by decide) (by omega)) (by first | exact er202 | exact er203 | exact er204 | exact er205 | exact er206 | exact er207 | exact er208 | exact er209 | exact er210 | exact er211 | exact er212 | exact er213 | exact er214 | exact er215) rfl (Nat.le_of_ble_eq_true rfl) (by decide) ?_
      rintro y1 ⟨f1, w1⟩
      have eW : noW v i = wPrk := by unfold noW; rw [if_pos (by omega)]
      exact J59 1 1 y1 f1 (w1.e (by rw [eW]; rfl))
theorem c_writesAll {k : eg_K} {z : eg_Z} {X : eg_M} {n : Nat} {w : Int} (hW : WR z [] w) (rw_ : iR w) {v : eg_v} (hN : nw z v) {B : Int} (hv : VV B v) (hp : 0 < v 0) : eg_P k gX9_writesAll 8 0 0 [vR k 202] n (enc k z X) (eg_p k none n X (fun z' => FW z z' ∧ WR z' (TXT v) w)) := by
  refine eg_P.of (by decide) (Nat.le_of_ble_eq_true rfl) ?_
  show eg_E k gX9_writesAll 8 0 0 n (enc k z X) [vR k 202, vU, vU] [] 0 _
  have q := hv.r.2
  have v02 : 2 ≤ v 0 ∧ v 0 ≤ 8 := by have := hv.1; omega
  have l0 := T0_len v
  have l1 := T1_len hv
  have l2 := T2_len hv
  have l3 := T3_len hv
  have J196 : ∀ (a : Int) (u : Value) (y : eg_Z), FW z y → WR y (LT4 v) w → eg_E k gX9_writesAll 8 0 0 n (enc k y X) [vR k 202, vI a, u] [] 196 (eg_p k none n X (fun z' => FW z z' ∧ WR z' (TXT v) w)) := by
    intro a u y hf hw
    have l4 := T4_len hv
    refine eg_al_n dX9_writesAll_196 rfl rfl ?_
    refine eg_ldcwS (i := 34) rfl dX9_writesAll_197 ?_
    refine eg_Vpv1 cs_X9_393 dX9_writesAll_200 (c_writesWord hw rw_ (by decide) (by omega)) (by first | exact er202 | exact er203 | exact er204 | exact er205 | exact er206 | exact er207 | exact er208 | exact er209 | exact er210 | exact er211 | exact er212 | exact er213 | exact er214 | exact er215) rfl (Nat.le_of_ble_eq_true rfl) (by decide) ?_
    rintro y1 ⟨f1, w1⟩
    have w1 : WR y1 (LT4 v ++ 59 :: wPrc) w := w1
    have lw : (59 :: wPrc).length = 6 := rfl
    have hN1 := (hf.tr f1).nw hN
    refine eg_al_n dX9_writesAll_203 rfl rfl ?_
    refine eg_al_n dX9_writesAll_204 rfl rfl ?_
    refine eg_iconst dX9_writesAll_205 ?_
    refine eg_Vf1 cs_X9_179 dX9_writesAll_206 (many_5 hN1) (by first | exact er202 | exact er203 | exact er204 | exact er205 | exact er206 | exact er207 | exact er208 | exact er209 | exact er210 | exact er211 | exact er212 | exact er213 | exact er214 | exact er215) rfl (Nat.le_of_ble_eq_true rfl) (by decide) ?_
    refine eg_Vpv1 cs_X9_397 dX9_writesAll_209 (c_writesNumber w1 rw_ (by omega) (by rw [List.length_append]; omega)) (by first | exact er202 | exact er203 | exact er204 | exact er205 | exact er206 | exact er207 | exact er208 | exact er209 | exact er210 | exact er211 | exact er212 | exact er213 | exact er214 | exact er215) rfl (Nat.le_of_ble_eq_true rfl) (by decide) ?_
    rintro y2 ⟨f2, w2⟩
    have hN2 := ((hf.tr f1).tr f2).nw hN
    have n5 := nm_len (v 5)
    refine eg_al_n dX9_writesAll_212 rfl rfl ?_
    refine eg_al_n dX9_writesAll_213 rfl rfl ?_
    refine eg_bipush dX9_writesAll_214 (by decide) ?_
    refine eg_Vf1 cs_X9_179 dX9_writesAll_216 (many_6 hN2) (by first | exact er202 | exact er203 | exact er204 | exact er205 | exact er206 | exact er207 | exact er208 | exact er209 | exact er210 | exact er211 | exact er212 | exact er213 | exact er214 | exact er215) rfl (Nat.le_of_ble_eq_true rfl) (by decide) ?_
    refine eg_Vpv1 cs_X9_397 dX9_writesAll_219 (c_writesNumber w2 rw_ (by omega) (by rw [List.length_append, List.length_append]; omega)) (by first | exact er202 | exact er203 | exact er204 | exact er205 | exact er206 | exact er207 | exact er208 | exact er209 | exact er210 | exact er211 | exact er212 | exact er213 | exact er214 | exact er215) rfl (Nat.le_of_ble_eq_true rfl) (by decide) ?_
    rintro y3 ⟨f3, w3⟩
    refine eg_return dX9_writesAll_222 rfl ?_
    exact ⟨rfl, rfl, y3, rfl, ((hf.tr f1).tr f2).tr f3, w3⟩
  have L176 : ∀ (mm : Nat) (i : Int) (u : Value) (y : eg_Z), (0 ≤ i) → (i ≤ v 3) → (FW z y) → (WR y (LT3 v ++ rpT (noT v) i.toNat) w) → v 3 - i < (mm : Int) → eg_E k gX9_writesAll 8 0 0 n (enc k y X) [vR k 202, vI i, u] [] 176 (eg_p k none n X (fun z' => FW z z' ∧ WR z' (TXT v) w)) := by
    intro mm
    induction mm with
    | zero => intro i u y h0 h1 hf hw hmm; exfalso; omega
    | succ mm ih =>
      intro i u y h0 h1 hf hw hmm
      have hNy := hf.nw hN
      have lb : (LT3 v ++ rpT (noT v) i.toNat).length ≤ 1500 := by rw [List.length_append]; have := rp_len (no_len v) i.toNat; omega
      refine eg_iload_n dX9_writesAll_176 rfl ?_
      refine eg_al_n dX9_writesAll_177 rfl rfl ?_
      refine eg_iconst dX9_writesAll_178 ?_
      refine eg_Vf1 cs_X9_179 dX9_writesAll_179 (many_3 hNy) (by first | exact er202 | exact er203 | exact er204 | exact er205 | exact er206 | exact er207 | exact er208 | exact er209 | exact er210 | exact er211 | exact er212 | exact er213 | exact er214 | exact er215) rfl (Nat.le_of_ble_eq_true rfl) (by decide) ?_
      refine eg_icmp_ge 196 dX9_writesAll_182 ⟨by omega, by omega⟩ ⟨by omega, by omega⟩ rfl (fun h182 => ?_) (fun h182 => ?_)
      · have ei : i = v 3 := by omega
        subst ei
        exact J196 _ u y hf hw
      · refine eg_al_n dX9_writesAll_185 rfl rfl ?_
        refine eg_iload_n dX9_writesAll_186 rfl ?_
        refine eg_Vpv1 cs_X9_408 dX9_writesAll_187 (c_writesNomination hw rw_ hNy hv h0 (by omega) (by omega)) (by first | exact er202 | exact er203 | exact er204 | exact er205 | exact er206 | exact er207 | exact er208 | exact er209 | exact er210 | exact er211 | exact er212 | exact er213 | exact er214 | exact er215) rfl (Nat.le_of_ble_eq_true rfl) (by decide) ?_
        rintro y1 ⟨f1, w1⟩
        refine eg_iinc dX9_writesAll_190 rfl rfl rfl ?_
        refine eg_goto 176 dX9_writesAll_193 rfl ?_
        exact ih (i + 1) u y1 (by omega) (by omega) (hf.tr f1) (w1.e (by rw [rp_s h0, List.append_assoc])) (by omega)
  have J174 : ∀ (a : Int) (u : Value) (y : eg_Z), FW z y → WR y (LT3 v) w → eg_E k gX9_writesAll 8 0 0 n (enc k y X) [vR k 202, vI a, u] [] 174 (eg_p k none n X (fun z' => FW z z' ∧ WR z' (TXT v) w)) := by
    intro a u y hf hw
    refine eg_iconst dX9_writesAll_174 ?_
    refine eg_istore_n dX9_writesAll_175 rfl rfl rfl ?_
    exact L176 20 0 u y (by omega) (by omega) hf (hw.e (by show _ = _ ++ []; rw [List.append_nil])) (by omega)
  have L128 : ∀ (mm : Nat) (i : Int) (u : Value) (y : eg_Z), (0 ≤ i) → (i ≤ v 2) → (FW z y) → (WR y (LT2 v ++ rpT (shT v) i.toNat) w) → v 2 - i < (mm : Int) → eg_E k gX9_writesAll 8 0 0 n (enc k y X) [vR k 202, vI i, u] [] 128 (eg_p k none n X (fun z' => FW z z' ∧ WR z' (TXT v) w)) := by
    intro mm
    induction mm with
    | zero => intro i u y h0 h1 hf hw hmm; exfalso; omega
    | succ mm ih =>
      intro i u y h0 h1 hf hw hmm
      have hNy := hf.nw hN
      have lb : (LT2 v ++ rpT (shT v) i.toNat).length ≤ 1500 := by rw [List.length_append]; have := rp_len (sh_len v) i.toNat; omega
      refine eg_iload_n dX9_writesAll_128 rfl ?_
      refine eg_al_n dX9_writesAll_129 rfl rfl ?_
      refine eg_iconst dX9_writesAll_130 ?_
      refine eg_Vf1 cs_X9_179 dX9_writesAll_131 (many_2 hNy) (by first | exact er202 | exact er203 | exact er204 | exact er205 | exact er206 | exact er207 | exact er208 | exact er209 | exact er210 | exact er211 | exact er212 | exact er213 | exact er214 | exact er215) rfl (Nat.le_of_ble_eq_true rfl) (by decide) ?_
      refine eg_icmp_ge 174 dX9_writesAll_134 ⟨by omega, by omega⟩ ⟨by omega, by omega⟩ rfl (fun h134 => ?_) (fun h134 => ?_)
      · have ei : i = v 2 := by omega
        subst ei
        exact J174 _ u y hf hw
      · have oh := hv.H h0 (show i < v 2 by omega)
        unfold okH at oh
        have gh9 : ∀ c : Int, 0 ≤ c → c < 4 → 0 ≤ gH v i c ∧ gH v i c ≤ 9999 := fun c g0 g1 => by
          rcases (show c = 0 ∨ c = 1 ∨ c = 2 ∨ c = 3 by omega) with rfl | rfl | rfl | rfl <;> omega
        refine eg_al_n dX9_writesAll_137 rfl rfl ?_
        refine eg_ldcwS (i := 33) rfl dX9_writesAll_138 ?_
        refine eg_Vpv1 cs_X9_393 dX9_writesAll_141 (c_writesWord hw rw_ (by decide) (by omega)) (by first | exact er202 | exact er203 | exact er204 | exact er205 | exact er206 | exact er207 | exact er208 | exact er209 | exact er210 | exact er211 | exact er212 | exact er213 | exact er214 | exact er215) rfl (Nat.le_of_ble_eq_true rfl) (by decide) ?_
        rintro y1 ⟨f1, w1⟩
        refine eg_iconst dX9_writesAll_144 ?_
        refine eg_istore_n dX9_writesAll_145 rfl rfl rfl ?_
        have L146 : ∀ (mc : Nat) (c : Int) (yi : eg_Z), (0 ≤ c) → (c ≤ 4) → (FW z yi) → (WR yi (LT2 v ++ rpT (shT v) i.toNat ++ 59 :: wShp ++ rpT (fun c => nmT (gH v i c)) c.toNat) w) → 4 - c < (mc : Int) → eg_E k gX9_writesAll 8 0 0 n (enc k yi X) [vR k 202, vI i, vI c] [] 146 (eg_p k none n X (fun z' => FW z z' ∧ WR z' (TXT v) w)) := by
          intro mc
          induction mc with
          | zero => intro c yi c0 c1 fi wi hmm; exfalso; omega
          | succ mc ihc =>
            intro c yi c0 c1 fi wi hmm
            have li : (LT2 v ++ rpT (shT v) i.toNat ++ 59 :: wShp ++ rpT (fun c => nmT (gH v i c)) c.toNat).length ≤ 2000 := by rw [List.length_append, List.length_append]; have := rp_len (f := (fun c => nmT (gH v i c))) (c := 5) (fun c => nm_len _) c.toNat; have lw : (59 :: wShp).length = 8 := rfl; omega
            refine eg_iload_n dX9_writesAll_146 rfl ?_
            refine eg_iconst dX9_writesAll_147 ?_
            refine eg_icmp_ge 168 dX9_writesAll_148 ⟨by omega, by omega⟩ ⟨by omega, by omega⟩ rfl (fun h148 => ?_) (fun h148 => ?_)
            · refine eg_iinc dX9_writesAll_168 rfl rfl rfl ?_
              refine eg_goto 128 dX9_writesAll_171 rfl ?_
              have e4 : c.toNat = 4 := by omega
              rw [e4] at wi
              exact ih (i + 1) (vI c) yi (by omega) (by omega) fi (wi.e (by rw [rp_s h0, List.append_assoc, List.append_assoc]; rfl)) (by omega)
            · refine eg_al_n dX9_writesAll_151 rfl rfl ?_
              refine eg_al_n dX9_writesAll_152 rfl rfl ?_
              refine eg_iload_n dX9_writesAll_153 rfl ?_
              refine eg_iload_n dX9_writesAll_154 rfl ?_
              refine eg_Vf2 cs_X9_237 dX9_writesAll_155 (c_ship (fi.nw hN) h0 (by omega) c0 (by omega)) (by first | exact er202 | exact er203 | exact er204 | exact er205 | exact er206 | exact er207 | exact er208 | exact er209 | exact er210 | exact er211 | exact er212 | exact er213 | exact er214 | exact er215) rfl (Nat.le_of_ble_eq_true rfl) (by decide) ?_
              refine eg_l2i dX9_writesAll_158 ?_
              refine eg_Vpv1 cs_X9_397 dX9_writesAll_159 (c_writesNumber wi rw_ (gh9 c c0 (by omega)) li) (by first | exact er202 | exact er203 | exact er204 | exact er205 | exact er206 | exact er207 | exact er208 | exact er209 | exact er210 | exact er211 | exact er212 | exact er213 | exact er214 | exact er215) rfl (Nat.le_of_ble_eq_true rfl) (by decide) ?_
              rintro y2 ⟨f2, w2⟩
              refine eg_iinc dX9_writesAll_162 rfl rfl rfl ?_
              refine eg_goto 146 dX9_writesAll_165 rfl ?_
              exact ihc (c + 1) y2 (by omega) (by omega) (fi.tr f2) (w2.e (by rw [rp_s c0, List.append_assoc])) (by omega)
        exact L146 5 0 y1 (by omega) (by omega) (hf.tr f1) (w1.e (by show _ = _ ++ []; rw [List.append_nil]; rfl)) (by omega)
  have J126 : ∀ (a : Int) (u : Value) (y : eg_Z), FW z y → WR y (LT2 v) w → eg_E k gX9_writesAll 8 0 0 n (enc k y X) [vR k 202, vI a, u] [] 126 (eg_p k none n X (fun z' => FW z z' ∧ WR z' (TXT v) w)) := by
    intro a u y hf hw
    refine eg_iconst dX9_writesAll_126 ?_
    refine eg_istore_n dX9_writesAll_127 rfl rfl rfl ?_
    exact L128 20 0 u y (by omega) (by omega) hf (hw.e (by show _ = _ ++ []; rw [List.append_nil])) (by omega)
  have L68 : ∀ (mm : Nat) (i : Int) (u : Value) (y : eg_Z), (0 ≤ i) → (i ≤ v 1) → (FW z y) → (WR y (LT1 v ++ rpT (ptT v) i.toNat) w) → v 1 - i < (mm : Int) → eg_E k gX9_writesAll 8 0 0 n (enc k y X) [vR k 202, vI i, u] [] 68 (eg_p k none n X (fun z' => FW z z' ∧ WR z' (TXT v) w)) := by
    intro mm
    induction mm with
    | zero => intro i u y h0 h1 hf hw hmm; exfalso; omega
    | succ mm ih =>
      intro i u y h0 h1 hf hw hmm
      have hNy := hf.nw hN
      have lb : (LT1 v ++ rpT (ptT v) i.toNat).length ≤ 1500 := by rw [List.length_append]; have := rp_len (pt_len v) i.toNat; omega
      refine eg_iload_n dX9_writesAll_68 rfl ?_
      refine eg_al_n dX9_writesAll_69 rfl rfl ?_
      refine eg_iconst dX9_writesAll_70 ?_
      refine eg_Vf1 cs_X9_179 dX9_writesAll_71 (many_1 hNy) (by first | exact er202 | exact er203 | exact er204 | exact er205 | exact er206 | exact er207 | exact er208 | exact er209 | exact er210 | exact er211 | exact er212 | exact er213 | exact er214 | exact er215) rfl (Nat.le_of_ble_eq_true rfl) (by decide) ?_
      refine eg_icmp_ge 126 dX9_writesAll_74 ⟨by omega, by omega⟩ ⟨by omega, by omega⟩ rfl (fun h74 => ?_) (fun h74 => ?_)
      · have ei : i = v 1 := by omega
        subst ei
        exact J126 _ u y hf hw
      · have op := hv.P h0 (show i < v 1 by omega)
        unfold okP at op
        refine eg_al_n dX9_writesAll_77 rfl rfl ?_
        refine eg_al_n dX9_writesAll_78 rfl rfl ?_
        refine eg_iload_n dX9_writesAll_79 rfl ?_
        refine eg_iconst dX9_writesAll_80 ?_
        refine eg_Vf2 cs_X9_189 dX9_writesAll_81 (c_pointOf hNy h0 (by omega) (by omega) (by omega)) (by first | exact er202 | exact er203 | exact er204 | exact er205 | exact er206 | exact er207 | exact er208 | exact er209 | exact er210 | exact er211 | exact er212 | exact er213 | exact er214 | exact er215) rfl (Nat.le_of_ble_eq_true rfl) (by decide) ?_
        refine eg_iconst dX9_writesAll_84 ?_
        refine eg_icmp_ne 94 dX9_writesAll_85 ⟨by omega, by omega⟩ ⟨by omega, by omega⟩ rfl (fun h85 => ?_) (fun h85 => ?_)
        · refine eg_ldcwS (i := 32) rfl dX9_writesAll_94 ?_
          refine eg_Vpv1 cs_X9_393 dX9_writesAll_97 (c_writesWord hw rw_ (by decide) (by omega)) (by first | exact er202 | exact er203 | exact er204 | exact er205 | exact er206 | exact er207 | exact er208 | exact er209 | exact er210 | exact er211 | exact er212 | exact er213 | exact er214 | exact er215) rfl (Nat.le_of_ble_eq_true rfl) (by decide) ?_
          rintro y1 ⟨f1, w1⟩
          have hN1 := (hf.tr f1).nw hN
          have w1 : WR y1 (LT1 v ++ rpT (ptT v) i.toNat ++ 59 :: (if gP v i 1 = 1 then wIn else wOut)) w := w1.e (by first | (rw [if_pos (by omega)]; rfl) | (rw [if_neg (by omega)]; rfl))
          have lw : (59 :: (if gP v i 1 = 1 then wIn else wOut)).length ≤ 4 := by split <;> decide
          refine eg_al_n dX9_writesAll_100 rfl rfl ?_
          refine eg_al_n dX9_writesAll_101 rfl rfl ?_
          refine eg_iload_n dX9_writesAll_102 rfl ?_
          refine eg_iconst dX9_writesAll_103 ?_
          refine eg_Vf2 cs_X9_189 dX9_writesAll_104 (c_pointOf hN1 h0 (by omega) (by omega) (by omega)) (by first | exact er202 | exact er203 | exact er204 | exact er205 | exact er206 | exact er207 | exact er208 | exact er209 | exact er210 | exact er211 | exact er212 | exact er213 | exact er214 | exact er215) rfl (Nat.le_of_ble_eq_true rfl) (by decide) ?_
          refine eg_Vpv1 cs_X9_397 dX9_writesAll_107 (c_writesNumber w1 rw_ (by omega) (by rw [List.length_append]; omega)) (by first | exact er202 | exact er203 | exact er204 | exact er205 | exact er206 | exact er207 | exact er208 | exact er209 | exact er210 | exact er211 | exact er212 | exact er213 | exact er214 | exact er215) rfl (Nat.le_of_ble_eq_true rfl) (by decide) ?_
          rintro y2 ⟨f2, w2⟩
          have hN2 := ((hf.tr f1).tr f2).nw hN
          have n5 := nm_len (gP v i 0)
          refine eg_al_n dX9_writesAll_110 rfl rfl ?_
          refine eg_al_n dX9_writesAll_111 rfl rfl ?_
          refine eg_iload_n dX9_writesAll_112 rfl ?_
          refine eg_iconst dX9_writesAll_113 ?_
          refine eg_Vf2 cs_X9_189 dX9_writesAll_114 (c_pointOf hN2 h0 (by omega) (by omega) (by omega)) (by first | exact er202 | exact er203 | exact er204 | exact er205 | exact er206 | exact er207 | exact er208 | exact er209 | exact er210 | exact er211 | exact er212 | exact er213 | exact er214 | exact er215) rfl (Nat.le_of_ble_eq_true rfl) (by decide) ?_
          refine eg_Vpv1 cs_X9_397 dX9_writesAll_117 (c_writesNumber w2 rw_ (by omega) (by rw [List.length_append, List.length_append]; omega)) (by first | exact er202 | exact er203 | exact er204 | exact er205 | exact er206 | exact er207 | exact er208 | exact er209 | exact er210 | exact er211 | exact er212 | exact er213 | exact er214 | exact er215) rfl (Nat.le_of_ble_eq_true rfl) (by decide) ?_
          rintro y3 ⟨f3, w3⟩
          refine eg_iinc dX9_writesAll_120 rfl rfl rfl ?_
          refine eg_goto 68 dX9_writesAll_123 rfl ?_
          exact ih (i + 1) u y3 (by omega) (by omega) (((hf.tr f1).tr f2).tr f3) (w3.e (by rw [rp_s h0]; unfold ptT; simp only [List.append_assoc])) (by omega)
        · refine eg_ldcwS (i := 31) rfl dX9_writesAll_88 ?_
          refine eg_goto 97 dX9_writesAll_91 rfl ?_
          refine eg_Vpv1 cs_X9_393 dX9_writesAll_97 (c_writesWord hw rw_ (by decide) (by omega)) (by first | exact er202 | exact er203 | exact er204 | exact er205 | exact er206 | exact er207 | exact er208 | exact er209 | exact er210 | exact er211 | exact er212 | exact er213 | exact er214 | exact er215) rfl (Nat.le_of_ble_eq_true rfl) (by decide) ?_
          rintro y1 ⟨f1, w1⟩
          have hN1 := (hf.tr f1).nw hN
          have w1 : WR y1 (LT1 v ++ rpT (ptT v) i.toNat ++ 59 :: (if gP v i 1 = 1 then wIn else wOut)) w := w1.e (by first | (rw [if_pos (by omega)]; rfl) | (rw [if_neg (by omega)]; rfl))
          have lw : (59 :: (if gP v i 1 = 1 then wIn else wOut)).length ≤ 4 := by split <;> decide
          refine eg_al_n dX9_writesAll_100 rfl rfl ?_
          refine eg_al_n dX9_writesAll_101 rfl rfl ?_
          refine eg_iload_n dX9_writesAll_102 rfl ?_
          refine eg_iconst dX9_writesAll_103 ?_
          refine eg_Vf2 cs_X9_189 dX9_writesAll_104 (c_pointOf hN1 h0 (by omega) (by omega) (by omega)) (by first | exact er202 | exact er203 | exact er204 | exact er205 | exact er206 | exact er207 | exact er208 | exact er209 | exact er210 | exact er211 | exact er212 | exact er213 | exact er214 | exact er215) rfl (Nat.le_of_ble_eq_true rfl) (by decide) ?_
          refine eg_Vpv1 cs_X9_397 dX9_writesAll_107 (c_writesNumber w1 rw_ (by omega) (by rw [List.length_append]; omega)) (by first | exact er202 | exact er203 | exact er204 | exact er205 | exact er206 | exact er207 | exact er208 | exact er209 | exact er210 | exact er211 | exact er212 | exact er213 | exact er214 | exact er215) rfl (Nat.le_of_ble_eq_true rfl) (by decide) ?_
          rintro y2 ⟨f2, w2⟩
          have hN2 := ((hf.tr f1).tr f2).nw hN
          have n5 := nm_len (gP v i 0)
          refine eg_al_n dX9_writesAll_110 rfl rfl ?_
          refine eg_al_n dX9_writesAll_111 rfl rfl ?_
          refine eg_iload_n dX9_writesAll_112 rfl ?_
          refine eg_iconst dX9_writesAll_113 ?_
          refine eg_Vf2 cs_X9_189 dX9_writesAll_114 (c_pointOf hN2 h0 (by omega) (by omega) (by omega)) (by first | exact er202 | exact er203 | exact er204 | exact er205 | exact er206 | exact er207 | exact er208 | exact er209 | exact er210 | exact er211 | exact er212 | exact er213 | exact er214 | exact er215) rfl (Nat.le_of_ble_eq_true rfl) (by decide) ?_
          refine eg_Vpv1 cs_X9_397 dX9_writesAll_117 (c_writesNumber w2 rw_ (by omega) (by rw [List.length_append, List.length_append]; omega)) (by first | exact er202 | exact er203 | exact er204 | exact er205 | exact er206 | exact er207 | exact er208 | exact er209 | exact er210 | exact er211 | exact er212 | exact er213 | exact er214 | exact er215) rfl (Nat.le_of_ble_eq_true rfl) (by decide) ?_
          rintro y3 ⟨f3, w3⟩
          refine eg_iinc dX9_writesAll_120 rfl rfl rfl ?_
          refine eg_goto 68 dX9_writesAll_123 rfl ?_
          exact ih (i + 1) u y3 (by omega) (by omega) (((hf.tr f1).tr f2).tr f3) (w3.e (by rw [rp_s h0]; unfold ptT; simp only [List.append_assoc])) (by omega)
  have J66 : ∀ (a : Int) (u : Value) (y : eg_Z), FW z y → WR y (LT1 v) w → eg_E k gX9_writesAll 8 0 0 n (enc k y X) [vR k 202, vI a, u] [] 66 (eg_p k none n X (fun z' => FW z z' ∧ WR z' (TXT v) w)) := by
    intro a u y hf hw
    refine eg_iconst dX9_writesAll_66 ?_
    refine eg_istore_n dX9_writesAll_67 rfl rfl rfl ?_
    exact L68 20 0 u y (by omega) (by omega) hf (hw.e (by show _ = _ ++ []; rw [List.append_nil])) (by omega)
  have L17 : ∀ (mm : Nat) (i : Int) (u : Value) (y : eg_Z), (0 ≤ i) → (i ≤ (v 0 - 1)) → (FW z y) → (WR y (LT0 v ++ rpT (sgT v) i.toNat) w) → (v 0 - 1) - i < (mm : Int) → eg_E k gX9_writesAll 8 0 0 n (enc k y X) [vR k 202, vI i, u] [] 17 (eg_p k none n X (fun z' => FW z z' ∧ WR z' (TXT v) w)) := by
    intro mm
    induction mm with
    | zero => intro i u y h0 h1 hf hw hmm; exfalso; omega
    | succ mm ih =>
      intro i u y h0 h1 hf hw hmm
      have hNy := hf.nw hN
      have lb : (LT0 v ++ rpT (sgT v) i.toNat).length ≤ 1500 := by rw [List.length_append]; have := rp_len (sg_len v) i.toNat; omega
      refine eg_iload_n dX9_writesAll_17 rfl ?_
      refine eg_iconst dX9_writesAll_18 ?_
      refine eg_iadd dX9_writesAll_19 ?_
      refine eg_al_n dX9_writesAll_20 rfl rfl ?_
      refine eg_iconst dX9_writesAll_21 ?_
      refine eg_Vf1 cs_X9_179 dX9_writesAll_22 (many_0 hNy) (by first | exact er202 | exact er203 | exact er204 | exact er205 | exact er206 | exact er207 | exact er208 | exact er209 | exact er210 | exact er211 | exact er212 | exact er213 | exact er214 | exact er215) rfl (Nat.le_of_ble_eq_true rfl) (by decide) ?_
      refine eg_icmp_ge 66 dX9_writesAll_25 ⟨by omega, by omega⟩ ⟨by omega, by omega⟩ rfl (fun h25 => ?_) (fun h25 => ?_)
      · have ei : i = v 0 - 1 := by omega
        subst ei
        exact J66 _ u y hf hw
      · have os := hv.S h0 (show i < 7 by omega)
        unfold okS at os
        refine eg_al_n dX9_writesAll_28 rfl rfl ?_
        refine eg_ldcwS (i := 30) rfl dX9_writesAll_29 ?_
        refine eg_Vpv1 cs_X9_393 dX9_writesAll_32 (c_writesWord hw rw_ (by decide) (by omega)) (by first | exact er202 | exact er203 | exact er204 | exact er205 | exact er206 | exact er207 | exact er208 | exact er209 | exact er210 | exact er211 | exact er212 | exact er213 | exact er214 | exact er215) rfl (Nat.le_of_ble_eq_true rfl) (by decide) ?_
        rintro y1 ⟨f1, w1⟩
        have w1 : WR y1 (LT0 v ++ rpT (sgT v) i.toNat ++ 59 :: wSeg) w := w1
        have lw : (59 :: wSeg).length = 8 := rfl
        refine eg_al_n dX9_writesAll_35 rfl rfl ?_
        refine eg_iload_n dX9_writesAll_36 rfl ?_
        refine eg_Vpv1 cs_X9_397 dX9_writesAll_37 (c_writesNumber w1 rw_ (by omega) (by rw [List.length_append]; omega)) (by first | exact er202 | exact er203 | exact er204 | exact er205 | exact er206 | exact er207 | exact er208 | exact er209 | exact er210 | exact er211 | exact er212 | exact er213 | exact er214 | exact er215) rfl (Nat.le_of_ble_eq_true rfl) (by decide) ?_
        rintro y2 ⟨f2, w2⟩
        have hN2 := ((hf.tr f1).tr f2).nw hN
        have n5 := nm_len i
        refine eg_al_n dX9_writesAll_40 rfl rfl ?_
        refine eg_al_n dX9_writesAll_41 rfl rfl ?_
        refine eg_iload_n dX9_writesAll_42 rfl ?_
        refine eg_iconst dX9_writesAll_43 ?_
        refine eg_Vf2 cs_X9_256 dX9_writesAll_44 (c_seg hN2 h0 (by omega) (by omega) (by omega)) (by first | exact er202 | exact er203 | exact er204 | exact er205 | exact er206 | exact er207 | exact er208 | exact er209 | exact er210 | exact er211 | exact er212 | exact er213 | exact er214 | exact er215) rfl (Nat.le_of_ble_eq_true rfl) (by decide) ?_
        refine eg_Vpv1 cs_X9_397 dX9_writesAll_47 (c_writesNumber w2 rw_ (by omega) (by rw [List.length_append, List.length_append]; omega)) (by first | exact er202 | exact er203 | exact er204 | exact er205 | exact er206 | exact er207 | exact er208 | exact er209 | exact er210 | exact er211 | exact er212 | exact er213 | exact er214 | exact er215) rfl (Nat.le_of_ble_eq_true rfl) (by decide) ?_
        rintro y3 ⟨f3, w3⟩
        have hN3 := (((hf.tr f1).tr f2).tr f3).nw hN
        have n6 := nm_len (gS v i 0)
        refine eg_al_n dX9_writesAll_50 rfl rfl ?_
        refine eg_al_n dX9_writesAll_51 rfl rfl ?_
        refine eg_iload_n dX9_writesAll_52 rfl ?_
        refine eg_iconst dX9_writesAll_53 ?_
        refine eg_Vf2 cs_X9_256 dX9_writesAll_54 (c_seg hN3 h0 (by omega) (by omega) (by omega)) (by first | exact er202 | exact er203 | exact er204 | exact er205 | exact er206 | exact er207 | exact er208 | exact er209 | exact er210 | exact er211 | exact er212 | exact er213 | exact er214 | exact er215) rfl (Nat.le_of_ble_eq_true rfl) (by decide) ?_
        refine eg_Vpv1 cs_X9_397 dX9_writesAll_57 (c_writesNumber w3 rw_ (by omega) (by rw [List.length_append, List.length_append, List.length_append]; omega)) (by first | exact er202 | exact er203 | exact er204 | exact er205 | exact er206 | exact er207 | exact er208 | exact er209 | exact er210 | exact er211 | exact er212 | exact er213 | exact er214 | exact er215) rfl (Nat.le_of_ble_eq_true rfl) (by decide) ?_
        rintro y4 ⟨f4, w4⟩
        refine eg_iinc dX9_writesAll_60 rfl rfl rfl ?_
        refine eg_goto 17 dX9_writesAll_63 rfl ?_
        exact ih (i + 1) u y4 (by omega) (by omega) ((((hf.tr f1).tr f2).tr f3).tr f4) (w4.e (by rw [rp_s h0]; unfold sgT; simp only [List.append_assoc])) (by omega)
  refine eg_al_n dX9_writesAll_0 rfl rfl ?_
  refine eg_ldcS (i := 26) rfl dX9_writesAll_1 ?_
  refine eg_Vpv1 cs_X9_393 dX9_writesAll_3 (c_writesWord hW rw_ (by decide) (by decide)) (by first | exact er202 | exact er203 | exact er204 | exact er205 | exact er206 | exact er207 | exact er208 | exact er209 | exact er210 | exact er211 | exact er212 | exact er213 | exact er214 | exact er215) rfl (Nat.le_of_ble_eq_true rfl) (by decide) ?_
  rintro y1 ⟨f1, w1⟩
  have hN1 := f1.nw hN
  have w1 : WR y1 wHub w := w1
  refine eg_al_n dX9_writesAll_6 rfl rfl ?_
  refine eg_al_n dX9_writesAll_7 rfl rfl ?_
  refine eg_iconst dX9_writesAll_8 ?_
  refine eg_Vf1 cs_X9_179 dX9_writesAll_9 (many_0 hN1) (by first | exact er202 | exact er203 | exact er204 | exact er205 | exact er206 | exact er207 | exact er208 | exact er209 | exact er210 | exact er211 | exact er212 | exact er213 | exact er214 | exact er215) rfl (Nat.le_of_ble_eq_true rfl) (by decide) ?_
  refine eg_Vpv1 cs_X9_397 dX9_writesAll_12 (c_writesNumber w1 rw_ (by omega) (by decide)) (by first | exact er202 | exact er203 | exact er204 | exact er205 | exact er206 | exact er207 | exact er208 | exact er209 | exact er210 | exact er211 | exact er212 | exact er213 | exact er214 | exact er215) rfl (Nat.le_of_ble_eq_true rfl) (by decide) ?_
  rintro y2 ⟨f2, w2⟩
  refine eg_iconst dX9_writesAll_15 ?_
  refine eg_istore_n dX9_writesAll_16 rfl rfl rfl ?_
  exact L17 20 0 vU y2 (by omega) (by omega) (f1.tr f2) (w2.e (by show _ = LT0 v ++ []; rw [List.append_nil]; rfl)) (by omega)
theorem m_letter {k : eg_K} {z : eg_Z} {X : eg_M} {n : Nat} {s : eg_S} (hI : IM z s) (hO : OS s) {a : Int} (r_a : iR a) : eg_P k gX9_letter 9 0 0 [vR k 202, vI a] n (enc k z X) (eg_p k (some (vI (A_letter s a))) n X (fun z' => FM z z' ∧ IM z' s)) := by
  refine eg_P.of (by decide) (Nat.le_of_ble_eq_true rfl) ?_
  show eg_E k gX9_letter 9 0 0 n (enc k z X) [vR k 202, vI a] [] 0 _
  have hN := hI.1
  have hv := hO.1.1
  have r1 := r_a.1; have r2 := r_a.2
  have ll : (lT s.1).length ≤ 894 := by unfold lT; split; exact T5_len hv; exact Nat.zero_le _
  have J28 : -1 ≤ a → ∀ y : eg_Z, FW z y → WR y (lT s.1) a → eg_E k gX9_letter 9 0 0 n (enc k y X) [vR k 202, vI a] [] 28 (eg_p k (some (vI (A_letter s a))) n X (fun z' => FM z z' ∧ IM z' s)) := by
    intro a1 y hf hw
    refine eg_iload_n dX9_letter_28 rfl ?_
    refine eg_iconst dX9_letter_29 ?_
    refine eg_icmp_ne 40 dX9_letter_30 ⟨by omega, by omega⟩ ⟨by omega, by omega⟩ rfl (fun h30 => ?_) (fun h30 => ?_)
    · refine eg_iload_n dX9_letter_40 rfl ?_
      refine eg_al_n dX9_letter_41 rfl rfl ?_
      refine eg_get fl_X9_372 dX9_letter_42 (by first | exact er202 | exact er203 | exact er204 | exact er205 | exact er206 | exact er207 | exact er208 | exact er209 | exact er210 | exact er211 | exact er212 | exact er213 | exact er214 | exact er215) rfl ?_
      refine eg_eqI hw.1 ?_
      refine eg_icmp_ge 55 dX9_letter_45 ⟨by omega, by omega⟩ ⟨by omega, by omega⟩ rfl (fun h45 => ?_) (fun h45 => ?_)
      · refine eg_bipush dX9_letter_55 (by decide) ?_
        refine eg_ireturn dX9_letter_57 rfl rfl ?_
        refine ⟨congrArg (fun q => some (vI q)) ?_, rfl, y, rfl, hf.m.1, hI.fm hf.m (hf.nw hN)⟩
        unfold A_letter
        rw [if_neg (by omega), if_neg (by omega), if_neg (by omega)]
      · refine eg_al_n dX9_letter_48 rfl rfl ?_
        refine eg_get fl_X9_378 dX9_letter_49 (by first | exact er202 | exact er203 | exact er204 | exact er205 | exact er206 | exact er207 | exact er208 | exact er209 | exact er210 | exact er211 | exact er212 | exact er213 | exact er214 | exact er215) rfl ?_
        refine eg_eqI (hw.2.2 a.toNat (by omega) (by omega)) ?_
        refine eg_goto 57 dX9_letter_52 rfl ?_
        refine eg_ireturn dX9_letter_57 rfl rfl ?_
        refine ⟨congrArg (fun q => some (vI q)) ?_, rfl, y, rfl, hf.m.1, hI.fm hf.m (hf.nw hN)⟩
        unfold A_letter
        rw [if_neg (by omega), if_neg (by omega), if_pos (by omega)]
    · refine eg_al_n dX9_letter_33 rfl rfl ?_
      refine eg_get fl_X9_372 dX9_letter_34 (by first | exact er202 | exact er203 | exact er204 | exact er205 | exact er206 | exact er207 | exact er208 | exact er209 | exact er210 | exact er211 | exact er212 | exact er213 | exact er214 | exact er215) rfl ?_
      refine eg_eqI hw.1 ?_
      refine eg_goto 57 dX9_letter_37 rfl ?_
      refine eg_ireturn dX9_letter_57 rfl rfl ?_
      refine ⟨congrArg (fun q => some (vI q)) ?_, rfl, y, rfl, hf.m.1, hI.fm hf.m (hf.nw hN)⟩
      unfold A_letter
      rw [if_neg (by omega), if_pos (by omega)]
  refine eg_iload_n dX9_letter_0 rfl ?_
  refine eg_iconst dX9_letter_1 ?_
  refine eg_icmp_ge 7 dX9_letter_2 ⟨by omega, by omega⟩ ⟨by omega, by omega⟩ rfl (fun h2 => ?_) (fun h2 => ?_)
  · refine eg_al_n dX9_letter_7 rfl rfl ?_
    refine eg_iconst dX9_letter_8 ?_
    refine eg_put fl_X9_372 dX9_letter_9 (by first | exact er202 | exact er203 | exact er204 | exact er205 | exact er206 | exact er207 | exact er208 | exact er209 | exact er210 | exact er211 | exact er212 | exact er213 | exact er214 | exact er215) rfl rfl rfl rfl ?_
    refine eg_eqM es202_18 ?_
    refine eg_al_n dX9_letter_12 rfl rfl ?_
    refine eg_iload_n dX9_letter_13 rfl ?_
    refine eg_put fl_X9_375 dX9_letter_14 (by first | exact er202 | exact er203 | exact er204 | exact er205 | exact er206 | exact er207 | exact er208 | exact er209 | exact er210 | exact er211 | exact er212 | exact er213 | exact er214 | exact er215) rfl rfl rfl rfl ?_
    refine eg_eqM es202_19 ?_
    have f0 : FW z (va_up (va_up z 202 (va_up (z 202) 18 0)) 202 (va_up (va_up z 202 (va_up (z 202) 18 0) 202) 19 a)) := ⟨fun c hc => by rw [va_up_n _ _ hc, va_up_n _ _ hc], fun j hj => by rw [va_up_s, va_up_n _ _ (by omega), va_up_s, va_up_n _ _ (by omega)]⟩
    have w0 : WR (va_up (va_up z 202 (va_up (z 202) 18 0)) 202 (va_up (va_up z 202 (va_up (z 202) 18 0) 202) 19 a)) [] a := ⟨by rw [va_up_s, va_up_n _ _ (by decide), va_up_s, va_up_s]; rfl, by rw [va_up_s, va_up_s], fun j _ hj => absurd hj (Nat.not_lt_zero j)⟩
    generalize va_up (va_up z 202 (va_up (z 202) 18 0)) 202 (va_up (va_up z 202 (va_up (z 202) 18 0) 202) 19 a) = y0 at f0 w0 ⊢
    refine eg_al_n dX9_letter_17 rfl rfl ?_
    refine eg_Vf0 cs_X9_315 dX9_letter_18 (c_hasPipe (f0.nw hN) hv) (by first | exact er202 | exact er203 | exact er204 | exact er205 | exact er206 | exact er207 | exact er208 | exact er209 | exact er210 | exact er211 | exact er212 | exact er213 | exact er214 | exact er215) rfl (Nat.le_of_ble_eq_true rfl) (by decide) ?_
    refine eg_bi_eq 28 dX9_letter_21 rfl (fun h21 => ?_) (fun h21 => ?_)
    · exact J28 (by omega) y0 f0 (w0.e (by unfold lT; rw [if_neg (by omega)]))
    · refine eg_al_n dX9_letter_24 rfl rfl ?_
      refine eg_Vpv0 cs_X9_413 dX9_letter_25 (c_writesAll w0 r_a (f0.nw hN) hv (by omega)) (by first | exact er202 | exact er203 | exact er204 | exact er205 | exact er206 | exact er207 | exact er208 | exact er209 | exact er210 | exact er211 | exact er212 | exact er213 | exact er214 | exact er215) rfl (Nat.le_of_ble_eq_true rfl) (by decide) ?_
      rintro y1 ⟨f1, w1⟩
      exact J28 (by omega) y1 (f0.tr f1) (w1.e (by unfold lT; rw [if_pos (by omega)]))
  · refine eg_iconst dX9_letter_5 ?_
    refine eg_ireturn dX9_letter_6 rfl rfl ?_
    refine ⟨congrArg (fun q => some (vI q)) ?_, rfl, z, rfl, FM.rf, hI⟩
    unfold A_letter; rw [if_pos (by omega)]
