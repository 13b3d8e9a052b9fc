theorem c_mn {k : eg_K} {z : eg_Z} {X : eg_M} {n : Nat} {L : Nat} {t : Nat → Int} (hT : TM z L t) {i : Nat} {F lo hi : Int} (hi9 : i ≤ L) (hat : z 202 9 = (i : Int)) (hF : z 202 10 = mf F) (rF : 0 ≤ F ∧ F ≤ 4000) (rlo : iR lo) (rhi : -2 ≤ hi ∧ hi ≤ 9999) : eg_P k gX9_number 2 0 0 [vR k 202, vI lo, vI hi] n (enc k z X) (eg_r k n X (fun r z' => iR r ∧ (∀ c, c ≠ 202 → z' c = z c) ∧ (∀ j, j ≠ 9 → j ≠ 10 → j ≠ 11 → z' 202 j = z 202 j) ∧ (∃ j : Nat, j ≤ L ∧ z' 202 9 = (j : Int)) ∧ z' 202 10 = mf (fnx F (ftR (nmR L t i lo hi))) ∧ ∀ a, F = 0 → nmR L t i lo hi = .inr a → r = a.2 ∧ z' 202 9 = (a.1 : Int) ∧ z' 202 11 = (sk L t i : Int))) := by
  refine eg_P.of (by decide) (Nat.le_of_ble_eq_true rfl) ?_
  show eg_E k gX9_number 2 0 0 n (enc k z X) [vR k 202, vI lo, vI hi, vU] [] 0 _
  have L4 := hT.1
  have sb : sk L t i ≤ L := (rn_b (P := bB) (t := t) hi9).2
  have rlo1 := rlo.1; have rlo2 := rlo.2
  have K : dB (tc L t (sk L t i)) = true → ∀ y : eg_Z, (∀ c, c ≠ 202 → y c = z c) → (∀ j, j ≠ 9 → j ≠ 10 → j ≠ 11 → y 202 j = z 202 j) → y 202 11 = (sk L t i : Int) → y 202 10 = mf F → y 202 9 = (sk L t i : Int) → eg_E k gX9_number 2 0 0 n (enc k y X) [vR k 202, vI lo, vI hi, vI 0] [] 45 (eg_r k n X (fun r z' => iR r ∧ (∀ c, c ≠ 202 → z' c = z c) ∧ (∀ j, j ≠ 9 → j ≠ 10 → j ≠ 11 → z' 202 j = z 202 j) ∧ (∃ j : Nat, j ≤ L ∧ z' 202 9 = (j : Int)) ∧ z' 202 10 = mf (fnx F (ftR (nmR L t i lo hi))) ∧ ∀ a, F = 0 → nmR L t i lo hi = .inr a → r = a.2 ∧ z' 202 9 = (a.1 : Int) ∧ z' 202 11 = (sk L t i : Int))) := by
    intro hd0 y hf hg h4 h5 ha
    have J93 : ∀ (m : Nat) (y : eg_Z), (sk L t i + m ≤ L) → ((∀ c, c ≠ 202 → y c = z c)) → ((∀ j, j ≠ 9 → j ≠ 10 → j ≠ 11 → y 202 j = z 202 j)) → (y 202 11 = (sk L t i : Int)) → (y 202 10 = mf F) → (y 202 9 = ((sk L t i + m : Nat) : Int)) → (0 ≤ evN L t (sk L t i) m) → de L t i = sk L t i + m → eg_E k gX9_number 2 0 0 n (enc k y X) [vR k 202, vI lo, vI hi, vI (cp 100000 (evN L t (sk L t i) m))] [] 93 (eg_r k n X (fun r z' => iR r ∧ (∀ c, c ≠ 202 → z' c = z c) ∧ (∀ j, j ≠ 9 → j ≠ 10 → j ≠ 11 → z' 202 j = z 202 j) ∧ (∃ j : Nat, j ≤ L ∧ z' 202 9 = (j : Int)) ∧ z' 202 10 = mf (fnx F (ftR (nmR L t i lo hi))) ∧ ∀ a, F = 0 → nmR L t i lo hi = .inr a → r = a.2 ∧ z' 202 9 = (a.1 : Int) ∧ z' 202 11 = (sk L t i : Int))) := by
      intro m y hm hf hg h4 h5 ha he ed
      have cb : 0 ≤ cp 100000 (evN L t (sk L t i) m) ∧ cp 100000 (evN L t (sk L t i) m) ≤ 100000 := by unfold cp; split <;> omega
      have en : nmR L t i lo hi = if lo ≤ nv L t i ∧ nv L t i ≤ hi then .inr (de L t i, nv L t i) else .inl (8 * (sk L t i : Int) + 2) := by unfold nmR; rw [if_pos hd0]
      have ev : nv L t i = evN L t (sk L t i) m := by unfold nv; rw [ed, Nat.add_sub_cancel_left]
      refine eg_iload_n dX9_number_93 rfl ?_
      refine eg_i2l dX9_number_94 ⟨by omega, by omega⟩ ?_
      refine eg_iload_n dX9_number_95 rfl ?_
      refine eg_i2l dX9_number_96 ⟨by omega, by omega⟩ ?_
      refine eg_iload_n dX9_number_97 rfl ?_
      refine eg_i2l dX9_number_98 ⟨by omega, by omega⟩ ?_
      refine eg_Sf3 cs_X9_81 dX9_number_99 (c_in ⟨by omega, by omega⟩ ⟨by omega, by omega⟩ ⟨by omega, by omega⟩) (Nat.le_of_ble_eq_true rfl) (by decide) ?_
      refine eg_bi_ne 116 dX9_number_102 rfl (fun h102 => ?_) (fun h102 => ?_)
      · refine eg_iload_n dX9_number_116 rfl ?_
        refine eg_ireturn dX9_number_117 rfl rfl ?_
        have ec : cp 100000 (evN L t (sk L t i) m) = evN L t (sk L t i) m := by unfold cp at h102 ⊢; split at h102 <;> (first | (exfalso; omega) | rw [if_neg (by omega)])
        have hin : lo ≤ nv L t i ∧ nv L t i ≤ hi := by rw [ev]; omega
        rw [if_pos hin] at en
        refine ⟨_, y, rfl, rfl, rfl, ⟨by omega, by omega⟩, hf, hg, ⟨sk L t i + m, hm, ha⟩, by rw [h5, en, ft_r, fnx_z], fun a9 _ h9 => ?_⟩
        rw [en] at h9; injection h9 with h9; subst h9; exact ⟨by rw [ec, ← ev], by rw [ha]; show ((sk L t i + m : Nat) : Int) = ((de L t i : Nat) : Int); omega, h4⟩
      · refine eg_al_n dX9_number_105 rfl rfl ?_
        refine eg_iconst dX9_number_106 ?_
        refine eg_al_n dX9_number_107 rfl rfl ?_
        refine eg_get fl_X9_102 dX9_number_108 (by first | exact er202 | exact er203 | exact er204 | exact er205 | exact er206 | exact er207 | exact er208 | exact er209 | exact er210 | exact er211 | exact er212 | exact er213 | exact er214 | exact er215) rfl ?_
        refine eg_eqI h4 ?_
        refine eg_Vpv2 cs_X9_98 dX9_number_111 (c_fails (F := F) h5 rF (by omega)) (by first | exact er202 | exact er203 | exact er204 | exact er205 | exact er206 | exact er207 | exact er208 | exact er209 | exact er210 | exact er211 | exact er212 | exact er213 | exact er214 | exact er215) rfl (Nat.le_of_ble_eq_true rfl) (by decide) ?_
        rintro y2 ⟨f2, g2, e2⟩
        refine eg_iload_n dX9_number_114 rfl ?_
        refine eg_ireturn dX9_number_115 rfl rfl ?_
        have hin : ¬ (lo ≤ nv L t i ∧ nv L t i ≤ hi) := by rw [ev]; unfold cp at h102; split at h102 <;> omega
        rw [if_neg hin] at en
        refine ⟨lo, y2, rfl, rfl, rfl, rlo, fun c hc => (f2 c hc).trans (hf c hc), fun j j9 j10 j11 => (g2 j j10).trans (hg j j9 j10 j11), ⟨sk L t i + m, hm, by rw [g2 9 (by decide)]; exact ha⟩, by rw [e2, en, ft_l], fun a9 _ h9 => ?_⟩
        rw [en] at h9; cases h9
    have LN : ∀ (mm : Nat) (m : Nat) (y : eg_Z), (sk L t i + m ≤ L) → ((∀ c, c ≠ 202 → y c = z c)) → ((∀ j, j ≠ 9 → j ≠ 10 → j ≠ 11 → y 202 j = z 202 j)) → (y 202 11 = (sk L t i : Int)) → (y 202 10 = mf F) → (y 202 9 = ((sk L t i + m : Nat) : Int)) → (0 ≤ evN L t (sk L t i) m) → (rn dB L t (sk L t i + m) = de L t i) → (L : Int) - ((sk L t i + m : Nat) : Int) < (mm : Int) → eg_E k gX9_number 2 0 0 n (enc k y X) [vR k 202, vI lo, vI hi, vI (cp 100000 (evN L t (sk L t i) m))] [] 45 (eg_r k n X (fun r z' => iR r ∧ (∀ c, c ≠ 202 → z' c = z c) ∧ (∀ j, j ≠ 9 → j ≠ 10 → j ≠ 11 → z' 202 j = z 202 j) ∧ (∃ j : Nat, j ≤ L ∧ z' 202 9 = (j : Int)) ∧ z' 202 10 = mf (fnx F (ftR (nmR L t i lo hi))) ∧ ∀ a, F = 0 → nmR L t i lo hi = .inr a → r = a.2 ∧ z' 202 9 = (a.1 : Int) ∧ z' 202 11 = (sk L t i : Int))) := by
      intro mm
      induction mm with
      | zero => intro m y hm hf hg h4 h5 ha he hr9 hmm; exfalso; omega
      | succ mm ih =>
        intro m y hm hf hg h4 h5 ha he hr9 hmm
        have hTy : TM y L t := hT.c (hg 8 (by decide) (by decide) (by decide)) (hf 209 (by decide))
        refine eg_al_n dX9_number_45 rfl rfl ?_
        refine eg_Vf0 cs_X9_63 dX9_number_46 (c_sign hTy hm ha) (by first | exact er202 | exact er203 | exact er204 | exact er205 | exact er206 | exact er207 | exact er208 | exact er209 | exact er210 | exact er211 | exact er212 | exact er213 | exact er214 | exact er215) rfl (Nat.le_of_ble_eq_true rfl) (by decide) ?_
        have tb := tc_b (L := L) (t := t) (i := sk L t i + m)
        refine eg_i2l dX9_number_49 ⟨by omega, by omega⟩ ?_
        refine eg_ldc2 kw_X9_94 dX9_number_50 ?_
        refine eg_ldc2 kw_X9_96 dX9_number_53 ?_
        refine eg_Sf3 cs_X9_81 dX9_number_56 (c_in ⟨by omega, by omega⟩ ⟨by omega, by omega⟩ ⟨by omega, by omega⟩) (Nat.le_of_ble_eq_true rfl) (by decide) ?_
        refine eg_bi_eq 93 dX9_number_59 rfl (fun h59 => ?_) (fun h59 => ?_)
        · exact J93 m y hm hf hg h4 h5 ha he (hr9.symm.trans (rn_n (fun _ hh => h59 (by have := of_decide_eq_true hh; omega))))
        · have cb : 0 ≤ cp 100000 (evN L t (sk L t i) m) ∧ cp 100000 (evN L t (sk L t i) m) ≤ 100000 := by unfold cp; split <;> omega
          have mL : sk L t i + m < L := tc_n (t := t) (by omega)
          refine eg_ldc kw_X9_105 dX9_number_62 ?_
          refine eg_bipush dX9_number_64 (by decide) ?_
          refine eg_iload_n dX9_number_66 rfl ?_
          refine eg_imul dX9_number_67 ?_
          refine eg_al_n dX9_number_68 rfl rfl ?_
          refine eg_Vf0 cs_X9_63 dX9_number_69 (c_sign hTy hm ha) (by first | exact er202 | exact er203 | exact er204 | exact er205 | exact er206 | exact er207 | exact er208 | exact er209 | exact er210 | exact er211 | exact er212 | exact er213 | exact er214 | exact er215) rfl (Nat.le_of_ble_eq_true rfl) (by decide) ?_
          refine eg_iadd dX9_number_72 ?_
          refine eg_bipush dX9_number_73 (by decide) ?_
          refine eg_isub dX9_number_75 ?_
          refine eg_mmin cs_X9_106 dX9_number_76 ⟨by omega, by omega⟩ ⟨by omega, by omega⟩ (Nat.le_of_ble_eq_true rfl) (by decide) ?_
          refine eg_eqI (y := cp 100000 (evN L t (sk L t i) (m + 1))) (by show _ = cp 100000 (evN L t (sk L t i) m * 10 + (tc L t (sk L t i + m) - 48)); rw [← cp_s (by omega) he (by omega) (by omega) (by omega)]; split <;> split <;> omega) ?_
          refine eg_istore_n dX9_number_79 rfl rfl rfl ?_
          refine eg_al_n dX9_number_80 rfl rfl ?_
          refine eg_dup dX9_number_81 rfl ?_
          refine eg_get fl_X9_60 dX9_number_82 (by first | exact er202 | exact er203 | exact er204 | exact er205 | exact er206 | exact er207 | exact er208 | exact er209 | exact er210 | exact er211 | exact er212 | exact er213 | exact er214 | exact er215) rfl ?_
          refine eg_eqI ha ?_
          refine eg_iconst dX9_number_85 ?_
          refine eg_iadd dX9_number_86 ?_
          refine eg_put fl_X9_60 dX9_number_87 (by first | exact er202 | exact er203 | exact er204 | exact er205 | exact er206 | exact er207 | exact er208 | exact er209 | exact er210 | exact er211 | exact er212 | exact er213 | exact er214 | exact er215) rfl rfl rfl rfl ?_
          refine eg_eqM es202_9 ?_
          refine eg_goto 45 dX9_number_90 rfl ?_
          refine ih (m + 1) _ (by omega) (fun c hc => by rw [va_up_n _ _ hc]; exact hf c hc) (fun j j9 j10 j11 => by rw [va_up_s, va_up_n _ _ j9]; exact hg j j9 j10 j11) (by rw [va_up_s, va_up_n _ _ (by decide)]; exact h4) (by rw [va_up_s, va_up_n _ _ (by decide)]; exact h5) (by rw [va_up_s, va_up_s]; omega) ?_ ?_ (by omega)
          · show 0 ≤ evN L t (sk L t i) m * 10 + (tc L t (sk L t i + m) - 48); omega
          · exact (rn_y mL (decide_eq_true (by omega))).symm.trans hr9
    exact LN (L + 1) 0 y sb hf hg h4 h5 ha (Int.le_refl _) rfl (by omega)
  refine eg_al_n dX9_number_0 rfl rfl ?_
  refine eg_Vf0 cs_X9_70 dX9_number_1 (c_isRight hF rF) (by first | exact er202 | exact er203 | exact er204 | exact er205 | exact er206 | exact er207 | exact er208 | exact er209 | exact er210 | exact er211 | exact er212 | exact er213 | exact er214 | exact er215) rfl (Nat.le_of_ble_eq_true rfl) (by decide) ?_
  refine eg_bi_eq 24 dX9_number_4 rfl (fun h4 => ?_) (fun h4 => ?_)
  · refine eg_al_n dX9_number_24 rfl rfl ?_
    refine eg_iconst dX9_number_25 ?_
    refine eg_al_n dX9_number_26 rfl rfl ?_
    refine eg_get fl_X9_60 dX9_number_27 (by first | exact er202 | exact er203 | exact er204 | exact er205 | exact er206 | exact er207 | exact er208 | exact er209 | exact er210 | exact er211 | exact er212 | exact er213 | exact er214 | exact er215) rfl ?_
    refine eg_eqI hat ?_
    refine eg_Vpv2 cs_X9_98 dX9_number_30 (c_fails (F := F) hF rF (by omega)) (by first | exact er202 | exact er203 | exact er204 | exact er205 | exact er206 | exact er207 | exact er208 | exact er209 | exact er210 | exact er211 | exact er212 | exact er213 | exact er214 | exact er215) rfl (Nat.le_of_ble_eq_true rfl) (by decide) ?_
    rintro y2 ⟨f2, g2, e2⟩
    refine eg_iload_n dX9_number_33 rfl ?_
    refine eg_ireturn dX9_number_34 rfl rfl ?_
    refine ⟨lo, y2, rfl, rfl, rfl, rlo, f2, fun j _ j10 _ => g2 j j10, ⟨i, hi9, by rw [g2 9 (by decide)]; exact hat⟩, by rw [e2, fnx_n h4, fnx_n h4], fun a9 hF0 _ => absurd hF0 h4⟩
  · refine eg_al_n dX9_number_7 rfl rfl ?_
    refine eg_Vpf0 cs_X9_74 dX9_number_8 (c_next hT hi9 hat) (by first | exact er202 | exact er203 | exact er204 | exact er205 | exact er206 | exact er207 | exact er208 | exact er209 | exact er210 | exact er211 | exact er212 | exact er213 | exact er214 | exact er215) rfl (Nat.le_of_ble_eq_true rfl) (by decide) ?_
    rintro y1 ⟨f1, g1, a1⟩
    have tb := tc_b (L := L) (t := t) (i := sk L t i)
    refine eg_i2l dX9_number_11 ⟨by omega, by omega⟩ ?_
    refine eg_ldc2 kw_X9_94 dX9_number_12 ?_
    refine eg_ldc2 kw_X9_96 dX9_number_15 ?_
    refine eg_Sf3 cs_X9_81 dX9_number_18 (c_in ⟨by omega, by omega⟩ ⟨by omega, by omega⟩ ⟨by omega, by omega⟩) (Nat.le_of_ble_eq_true rfl) (by decide) ?_
    refine eg_bi_ne 35 dX9_number_21 rfl (fun h21 => ?_) (fun h21 => ?_)
    · refine eg_al_n dX9_number_35 rfl rfl ?_
      refine eg_al_n dX9_number_36 rfl rfl ?_
      refine eg_get fl_X9_60 dX9_number_37 (by first | exact er202 | exact er203 | exact er204 | exact er205 | exact er206 | exact er207 | exact er208 | exact er209 | exact er210 | exact er211 | exact er212 | exact er213 | exact er214 | exact er215) rfl ?_
      refine eg_eqI a1 ?_
      refine eg_put fl_X9_102 dX9_number_40 (by first | exact er202 | exact er203 | exact er204 | exact er205 | exact er206 | exact er207 | exact er208 | exact er209 | exact er210 | exact er211 | exact er212 | exact er213 | exact er214 | exact er215) rfl rfl rfl rfl ?_
      refine eg_eqM es202_11 ?_
      refine eg_iconst dX9_number_43 ?_
      refine eg_istore_n dX9_number_44 rfl rfl rfl ?_
      exact K (decide_eq_true (by omega)) _ (fun c hc => by rw [va_up_n _ _ hc]; exact f1 c hc) (fun j j9 j10 j11 => by rw [va_up_s, va_up_n _ _ j11]; exact g1 j j9) (by rw [va_up_s, va_up_s]) (by rw [va_up_s, va_up_n _ _ (by decide), g1 10 (by decide)]; exact hF) (by rw [va_up_s, va_up_n _ _ (by decide)]; exact a1)
    · refine eg_al_n dX9_number_24 rfl rfl ?_
      refine eg_iconst dX9_number_25 ?_
      refine eg_al_n dX9_number_26 rfl rfl ?_
      refine eg_get fl_X9_60 dX9_number_27 (by first | exact er202 | exact er203 | exact er204 | exact er205 | exact er206 | exact er207 | exact er208 | exact er209 | exact er210 | exact er211 | exact er212 | exact er213 | exact er214 | exact er215) rfl ?_
      refine eg_eqI a1 ?_
      refine eg_Vpv2 cs_X9_98 dX9_number_30 (c_fails (F := F) (by rw [g1 10 (by decide)]; exact hF) rF (by omega)) (by first | exact er202 | exact er203 | exact er204 | exact er205 | exact er206 | exact er207 | exact er208 | exact er209 | exact er210 | exact er211 | exact er212 | exact er213 | exact er214 | exact er215) rfl (Nat.le_of_ble_eq_true rfl) (by decide) ?_
      rintro y2 ⟨f2, g2, e2⟩
      refine eg_iload_n dX9_number_33 rfl ?_
      refine eg_ireturn dX9_number_34 rfl rfl ?_
      have en : nmR L t i lo hi = .inl (8 * (sk L t i : Int) + 1) := by unfold nmR; rw [if_neg (fun hh => h21 (by have := of_decide_eq_true hh; omega))]
      refine ⟨lo, y2, rfl, rfl, rfl, rlo, fun c hc => (f2 c hc).trans (f1 c hc), fun j j9 j10 _ => (g2 j j10).trans (g1 j j9), ⟨sk L t i, sb, by rw [g2 9 (by decide)]; exact a1⟩, by rw [e2, en, ft_l], fun a9 _ h9 => ?_⟩
      rw [en] at h9; cases h9
theorem c_most {k : eg_K} {z : eg_Z} {X : eg_M} {n : Nat} {L : Nat} {t : Nat → Int} (hT : TM z L t) {i : Nat} {F : Int} (hi9 : i ≤ L) (hat : z 202 9 = (i : Int)) (hF : z 202 10 = mf F) (rF : 0 ≤ F ∧ F ≤ 4000) : eg_P k gX9_most 3 0 0 [vR k 202] n (enc k z X) (eg_r k n X (fun r z' => iR r ∧ (∀ c, c ≠ 202 → z' c = z c) ∧ (∀ j, j ≠ 9 → j ≠ 10 → j ≠ 11 → z' 202 j = z 202 j) ∧ (∃ j : Nat, j ≤ L ∧ z' 202 9 = (j : Int)) ∧ z' 202 10 = mf (fnx F (ftR (nmR L t i 0 9999))) ∧ ∀ a, F = 0 → nmR L t i 0 9999 = .inr a → r = a.2 ∧ z' 202 9 = (a.1 : Int) ∧ z' 202 11 = (sk L t i : Int))) := by
  refine eg_P.of (by decide) (Nat.le_of_ble_eq_true rfl) ?_
  show eg_E k gX9_most 3 0 0 n (enc k z X) [vR k 202] [] 0 _
  refine eg_al_n dX9_most_0 rfl rfl ?_
  refine eg_iconst dX9_most_1 ?_
  refine eg_sipush dX9_most_2 (by decide) ?_
  refine eg_Vr2 cs_X9_112 dX9_most_5 (c_mn (lo := 0) (hi := 9999) hT hi9 hat hF rF ⟨by decide, by decide⟩ ⟨by omega, by omega⟩) (by first | exact er202 | exact er203 | exact er204 | exact er205 | exact er206 | exact er207 | exact er208 | exact er209 | exact er210 | exact er211 | exact er212 | exact er213 | exact er214 | exact er215) rfl (Nat.le_of_ble_eq_true rfl) (by decide) ?_
  rintro r1 y1 h1
  refine eg_ireturn dX9_most_8 rfl rfl ?_
  exact ⟨r1, y1, rfl, rfl, rfl, h1⟩
theorem c_readsSegment {k : eg_K} {z : eg_Z} {X : eg_M} {n : Nat} {L : Nat} {t : Nat → Int} (hT : TM z L t) {v : eg_v} {i : Nat} (hR : hr z v) (ht : tv v) (hi9 : i ≤ L) (hat : z 202 9 = (i : Int)) (hF : z 202 10 = mf 0) : eg_P k gX9_readsSegment 4 0 0 [vR k 202] n (enc k z X) (eg_p k none n X (fun z' => (∃ j : Nat, j ≤ L ∧ z' 202 9 = (j : Int)) ∧ z' 202 10 = mf (ftR (sgR L t i v)) ∧ (∀ c, c ≠ 202 → c ≠ 204 → z' c = z c) ∧ (∀ j, j ≠ 9 → j ≠ 10 → j ≠ 11 → z' 202 j = z 202 j) ∧ ∀ a, (sgR L t i v) = .inr a → z' 202 9 = (a.1 : Int) ∧ hr z' a.2)) := by
  refine eg_P.of (by decide) (Nat.le_of_ble_eq_true rfl) ?_
  show eg_E k gX9_readsSegment 4 0 0 n (enc k z X) [vR k 202, vU, vU, vU] [] 0 _
  have hv := ht.1
  have q := hv.r.2
  have v02 := ht.2.1
  have L4 := hT.1
  have rF : (0 : Int) ≤ 0 ∧ (0 : Int) ≤ 4000 := by omega
  refine eg_al_n dX9_readsSegment_0 rfl rfl ?_
  refine eg_iconst dX9_readsSegment_1 ?_
  refine eg_al_n dX9_readsSegment_2 rfl rfl ?_
  refine eg_get fl_X9_13 dX9_readsSegment_3 (by first | exact er202 | exact er203 | exact er204 | exact er205 | exact er206 | exact er207 | exact er208 | exact er209 | exact er210 | exact er211 | exact er212 | exact er213 | exact er214 | exact er215) rfl ?_
  refine eg_iconst dX9_readsSegment_6 ?_
  first | refine eg_nowL dX9_readsSegment_7 hN (by omega) (by omega) ?_ | refine eg_hrdL dX9_readsSegment_7 hR (by omega) (by omega) ?_
  refine eg_eqL (y := v 0) rfl ?_
  refine eg_l2i dX9_readsSegment_8 ?_
  refine eg_iconst dX9_readsSegment_9 ?_
  refine eg_isub dX9_readsSegment_10 ?_
  refine eg_Vr2 cs_X9_112 dX9_readsSegment_11 (c_mn (lo := 0) (hi := (v 0 - 2)) hT hi9 hat hF rF ⟨by decide, by decide⟩ ⟨by omega, by omega⟩) (by first | exact er202 | exact er203 | exact er204 | exact er205 | exact er206 | exact er207 | exact er208 | exact er209 | exact er210 | exact er211 | exact er212 | exact er213 | exact er214 | exact er215) rfl (Nat.le_of_ble_eq_true rfl) (by decide) ?_
  rintro r1 y1 ⟨q1, f1, g1, ⟨j1, l1, p1⟩, e1, s1⟩
  have hT1 : TM y1 L t := hT.c (g1 8 (by decide) (by decide) (by decide)) (f1 209 (by decide))
  have rF1 := fnx_b rF (ft_b (t := t) (lo := 0) (hi := (v 0 - 2)) hT.1 hi9)
  refine eg_istore_n dX9_readsSegment_14 rfl rfl rfl ?_
  refine eg_al_n dX9_readsSegment_15 rfl rfl ?_
  refine eg_Vr0 cs_X9_115 dX9_readsSegment_16 (c_most hT1 l1 p1 e1 rF1) (by first | exact er202 | exact er203 | exact er204 | exact er205 | exact er206 | exact er207 | exact er208 | exact er209 | exact er210 | exact er211 | exact er212 | exact er213 | exact er214 | exact er215) rfl (Nat.le_of_ble_eq_true rfl) (by decide) ?_
  rintro r2 y2 ⟨q2, f2, g2, ⟨j2, l2, p2⟩, e2, s2⟩
  have hT2 : TM y2 L t := hT1.c (g2 8 (by decide) (by decide) (by decide)) (f2 209 (by decide))
  have rF2 := fnx_b rF1 (ft_b (t := t) (lo := 0) (hi := 9999) hT.1 l1)
  refine eg_istore_n dX9_readsSegment_19 rfl rfl rfl ?_
  refine eg_al_n dX9_readsSegment_20 rfl rfl ?_
  refine eg_iconst dX9_readsSegment_21 ?_
  refine eg_bipush dX9_readsSegment_22 (by decide) ?_
  refine eg_Vr2 cs_X9_112 dX9_readsSegment_24 (c_mn (lo := 0) (hi := 50) hT2 l2 p2 e2 rF2 ⟨by decide, by decide⟩ ⟨by omega, by omega⟩) (by first | exact er202 | exact er203 | exact er204 | exact er205 | exact er206 | exact er207 | exact er208 | exact er209 | exact er210 | exact er211 | exact er212 | exact er213 | exact er214 | exact er215) rfl (Nat.le_of_ble_eq_true rfl) (by decide) ?_
  rintro r3 y3 ⟨q3, f3, g3, ⟨j3, l3, p3⟩, e3, s3⟩
  have hT3 : TM y3 L t := hT2.c (g3 8 (by decide) (by decide) (by decide)) (f3 209 (by decide))
  have rF3 := fnx_b rF2 (ft_b (t := t) (lo := 0) (hi := 50) hT.1 l2)
  refine eg_istore_n dX9_readsSegment_27 rfl rfl rfl ?_
  refine eg_al_n dX9_readsSegment_28 rfl rfl ?_
  refine eg_Vf0 cs_X9_70 dX9_readsSegment_29 (c_isRight e3 rF3) (by first | exact er202 | exact er203 | exact er204 | exact er205 | exact er206 | exact er207 | exact er208 | exact er209 | exact er210 | exact er211 | exact er212 | exact er213 | exact er214 | exact er215) rfl (Nat.le_of_ble_eq_true rfl) (by decide) ?_
  refine eg_bi_eq 63 dX9_readsSegment_32 rfl (fun h32 => ?_) (fun h32 => ?_)
  · refine eg_return dX9_readsSegment_63 rfl ?_
    have eS : fnx 0 (ftR (sgR L t i v)) = fnx (fnx (fnx (0) (ftR (nmR L t i 0 (v 0 - 2)))) (ftR (nmR L t j1 0 9999))) (ftR (nmR L t j2 0 50)) := by
      unfold sgR
      cases hx1 : nmR L t i 0 (v 0 - 2) with
      | inl e =>
        have ne := nm_ne e hx1
        rw [bd_l, ft_l, ft_l, fnx_k ne, fnx_k ne]
      | inr a1 =>
        have k1 : j1 = a1.1 := by have := (s1 a1 rfl hx1).2.1; omega
        subst k1
        rw [bd_r, ft_r, fnx_z]
        cases hx2 : nmR L t a1.1 0 9999 with
        | inl e =>
          have ne := nm_ne e hx2
          rw [bd_l, ft_l, ft_l, fnx_k ne]
        | inr a2 =>
          have k2 : j2 = a2.1 := by have := (s2 a2 (by rw [hx1]; rfl) hx2).2.1; omega
          subst k2
          rw [bd_r, ft_r, fnx_z]
          cases hx3 : nmR L t a2.1 0 50 with
          | inl e =>
            have ne := nm_ne e hx3
            rw [bd_l, ft_l, ft_l]
          | inr a3 =>
            have k3 : j3 = a3.1 := by have := (s3 a3 (by rw [hx1, hx2]; rfl) hx3).2.1; omega
            subst k3
            rw [bd_r, ft_r, ft_r]
    rw [fnx_0] at eS
    refine ⟨rfl, rfl, y3, rfl, ⟨j3, l3, p3⟩, by rw [eS]; exact e3, fun c9 h9 _ => (fun c9 h9 => (((f3 c9 h9).trans (f2 c9 h9)).trans (f1 c9 h9))) c9 h9, fun c9 x9 x10 x11 => (((g3 c9 x9 x10 x11).trans (g2 c9 x9 x10 x11)).trans (g1 c9 x9 x10 x11)), fun a9 h8 => ?_⟩
    rw [h8, ft_r] at eS
    exact absurd eS.symm h32
  · obtain ⟨F20, A3, h3⟩ := fx_0 nm_ne h32
    obtain ⟨F10, A2, h2⟩ := fx_0 nm_ne F20
    obtain ⟨F00, A1, h1⟩ := fx_0 nm_ne F10
    obtain ⟨v1, u1, -⟩ := s1 A1 F00 h1
    obtain ⟨v2, u2, -⟩ := s2 A2 F10 h2
    obtain ⟨v3, u3, -⟩ := s3 A3 F20 h3
    have b1 := nmR_r hi9 h1
    have b2 := nmR_r l1 h2
    have b3 := nmR_r l2 h3
    have frn : ∀ c, c ≠ 202 → y3 c = z c := fun c9 h9 => (((f3 c9 h9).trans (f2 c9 h9)).trans (f1 c9 h9))
    have grn : ∀ j, j ≠ 9 → j ≠ 10 → j ≠ 11 → y3 202 j = z 202 j := fun c9 x9 x10 x11 => (((g3 c9 x9 x10 x11).trans (g2 c9 x9 x10 x11)).trans (g1 c9 x9 x10 x11))
    have hR : hr y3 v := hr_c (frn 204 (by decide)) hR
    have hF : ∀ c, c ≠ 204 → y3 c = y3 c := fun _ _ => rfl
    refine eg_al_n dX9_readsSegment_35 rfl rfl ?_
    refine eg_get fl_X9_13 dX9_readsSegment_36 (by first | exact er202 | exact er203 | exact er204 | exact er205 | exact er206 | exact er207 | exact er208 | exact er209 | exact er210 | exact er211 | exact er212 | exact er213 | exact er214 | exact er215) rfl ?_
    refine eg_bipush dX9_readsSegment_39 (by decide) ?_
    refine eg_iconst dX9_readsSegment_41 ?_
    refine eg_iload_n dX9_readsSegment_42 rfl ?_
    refine eg_imul dX9_readsSegment_43 ?_
    refine eg_iadd dX9_readsSegment_44 ?_
    refine eg_iload_n dX9_readsSegment_45 rfl ?_
    refine eg_i2l dX9_readsSegment_46 ⟨by omega, by omega⟩ ?_
    refine eg_hrdS dX9_readsSegment_47 hR (by omega) (by omega) (fun y f1 hR => ?_)
    have hF := fun c hc => (f1 c hc).trans (hF c hc)
    refine eg_al_n dX9_readsSegment_48 rfl rfl ?_
    refine eg_get fl_X9_13 dX9_readsSegment_49 (by first | exact er202 | exact er203 | exact er204 | exact er205 | exact er206 | exact er207 | exact er208 | exact er209 | exact er210 | exact er211 | exact er212 | exact er213 | exact er214 | exact er215) rfl ?_
    refine eg_bipush dX9_readsSegment_52 (by decide) ?_
    refine eg_iconst dX9_readsSegment_54 ?_
    refine eg_iload_n dX9_readsSegment_55 rfl ?_
    refine eg_imul dX9_readsSegment_56 ?_
    refine eg_iadd dX9_readsSegment_57 ?_
    refine eg_iconst dX9_readsSegment_58 ?_
    refine eg_iadd dX9_readsSegment_59 ?_
    refine eg_iload_n dX9_readsSegment_60 rfl ?_
    refine eg_i2l dX9_readsSegment_61 ⟨by omega, by omega⟩ ?_
    refine eg_hrdS dX9_readsSegment_62 hR (by omega) (by omega) (fun y f1 hR => ?_)
    have hF := fun c hc => (f1 c hc).trans (hF c hc)
    refine eg_return dX9_readsSegment_63 rfl ?_
    have k1 : j1 = A1.1 := by omega
    have k2 : j2 = A2.1 := by omega
    subst k1; subst k2
    have eR : sgR L t i v = .inr (A3.1, va_up (va_up v (12 + 2 * r1).toNat r2) (12 + 2 * r1 + 1).toNat r3) := by unfold sgR; rw [h1, bd_r, h2, bd_r, h3, bd_r, ← v1, ← v2, ← v3]
    have e202 : y 202 = y3 202 := hF 202 (by decide)
    refine ⟨rfl, rfl, y, rfl, ⟨A3.1, b3.1, by rw [e202]; exact u3⟩, by rw [e202, e3, h32, eR, ft_r], fun c9 h9 h8 => (hF c9 h8).trans (frn c9 h9), fun c9 x9 x10 x11 => by rw [e202]; exact grn c9 x9 x10 x11, fun a9 h8 => ?_⟩
    rw [eR] at h8; injection h8 with h8; subst h8; exact ⟨by rw [e202]; exact u3, hR⟩
theorem c_readsPoint {k : eg_K} {z : eg_Z} {X : eg_M} {n : Nat} {L : Nat} {t : Nat → Int} (hT : TM z L t) {v : eg_v} {i : Nat} (hR : hr z v) (ht : tv v) (hi9 : i ≤ L) (hat : z 202 9 = (i : Int)) (hF : z 202 10 = mf 0) {w : Int} (hw : w = 0 ∨ w = 1) (h1 : v 1 < 10) : eg_P k gX9_readsPoint 4 0 0 [vR k 202, vI w] n (enc k z X) (eg_p k none n X (fun z' => (∃ j : Nat, j ≤ L ∧ z' 202 9 = (j : Int)) ∧ z' 202 10 = mf (ftR (ptR L t i v w)) ∧ (∀ c, c ≠ 202 → c ≠ 204 → z' c = z c) ∧ (∀ j, j ≠ 9 → j ≠ 10 → j ≠ 11 → z' 202 j = z 202 j) ∧ ∀ a, (ptR L t i v w) = .inr a → z' 202 9 = (a.1 : Int) ∧ hr z' a.2)) := by
  refine eg_P.of (by decide) (Nat.le_of_ble_eq_true rfl) ?_
  show eg_E k gX9_readsPoint 4 0 0 n (enc k z X) [vR k 202, vI w, vU, vU, vU] [] 0 _
  have hv := ht.1
  have q := hv.r.2
  have v02 := ht.2.1
  have L4 := hT.1
  have rF : (0 : Int) ≤ 0 ∧ (0 : Int) ≤ 4000 := by omega
  refine eg_al_n dX9_readsPoint_0 rfl rfl ?_
  refine eg_iconst dX9_readsPoint_1 ?_
  refine eg_al_n dX9_readsPoint_2 rfl rfl ?_
  refine eg_get fl_X9_13 dX9_readsPoint_3 (by first | exact er202 | exact er203 | exact er204 | exact er205 | exact er206 | exact er207 | exact er208 | exact er209 | exact er210 | exact er211 | exact er212 | exact er213 | exact er214 | exact er215) rfl ?_
  refine eg_iconst dX9_readsPoint_6 ?_
  first | refine eg_nowL dX9_readsPoint_7 hN (by omega) (by omega) ?_ | refine eg_hrdL dX9_readsPoint_7 hR (by omega) (by omega) ?_
  refine eg_eqL (y := v 0) rfl ?_
  refine eg_l2i dX9_readsPoint_8 ?_
  refine eg_iconst dX9_readsPoint_9 ?_
  refine eg_isub dX9_readsPoint_10 ?_
  refine eg_Vr2 cs_X9_112 dX9_readsPoint_11 (c_mn (lo := 0) (hi := (v 0 - 1)) hT hi9 hat hF rF ⟨by decide, by decide⟩ ⟨by omega, by omega⟩) (by first | exact er202 | exact er203 | exact er204 | exact er205 | exact er206 | exact er207 | exact er208 | exact er209 | exact er210 | exact er211 | exact er212 | exact er213 | exact er214 | exact er215) rfl (Nat.le_of_ble_eq_true rfl) (by decide) ?_
  rintro r1 y1 ⟨q1, f1, g1, ⟨j1, l1, p1⟩, e1, s1⟩
  have hT1 : TM y1 L t := hT.c (g1 8 (by decide) (by decide) (by decide)) (f1 209 (by decide))
  have rF1 := fnx_b rF (ft_b (t := t) (lo := 0) (hi := (v 0 - 1)) hT.1 hi9)
  refine eg_istore_n dX9_readsPoint_14 rfl rfl rfl ?_
  refine eg_al_n dX9_readsPoint_15 rfl rfl ?_
  refine eg_Vr0 cs_X9_115 dX9_readsPoint_16 (c_most hT1 l1 p1 e1 rF1) (by first | exact er202 | exact er203 | exact er204 | exact er205 | exact er206 | exact er207 | exact er208 | exact er209 | exact er210 | exact er211 | exact er212 | exact er213 | exact er214 | exact er215) rfl (Nat.le_of_ble_eq_true rfl) (by decide) ?_
  rintro r2 y2 ⟨q2, f2, g2, ⟨j2, l2, p2⟩, e2, s2⟩
  have hT2 : TM y2 L t := hT1.c (g2 8 (by decide) (by decide) (by decide)) (f2 209 (by decide))
  have rF2 := fnx_b rF1 (ft_b (t := t) (lo := 0) (hi := 9999) hT.1 l1)
  refine eg_istore_n dX9_readsPoint_19 rfl rfl rfl ?_
  refine eg_al_n dX9_readsPoint_20 rfl rfl ?_
  refine eg_Vf0 cs_X9_70 dX9_readsPoint_21 (c_isRight e2 rF2) (by first | exact er202 | exact er203 | exact er204 | exact er205 | exact er206 | exact er207 | exact er208 | exact er209 | exact er210 | exact er211 | exact er212 | exact er213 | exact er214 | exact er215) rfl (Nat.le_of_ble_eq_true rfl) (by decide) ?_
  refine eg_bi_ne 28 dX9_readsPoint_24 rfl (fun h24 => ?_) (fun h24 => ?_)
  · obtain ⟨F10, A2, h2⟩ := fx_0 nm_ne h24
    obtain ⟨F00, A1, h1⟩ := fx_0 nm_ne F10
    obtain ⟨v1, u1, -⟩ := s1 A1 F00 h1
    obtain ⟨v2, u2, -⟩ := s2 A2 F10 h2
    have b1 := nmR_r hi9 h1
    have b2 := nmR_r l1 h2
    have frn : ∀ c, c ≠ 202 → y2 c = z c := fun c9 h9 => ((f2 c9 h9).trans (f1 c9 h9))
    have grn : ∀ j, j ≠ 9 → j ≠ 10 → j ≠ 11 → y2 202 j = z 202 j := fun c9 x9 x10 x11 => ((g2 c9 x9 x10 x11).trans (g1 c9 x9 x10 x11))
    have hR : hr y2 v := hr_c (frn 204 (by decide)) hR
    have hF : ∀ c, c ≠ 204 → y2 c = y2 c := fun _ _ => rfl
    refine eg_bipush dX9_readsPoint_28 (by decide) ?_
    refine eg_iconst dX9_readsPoint_30 ?_
    refine eg_al_n dX9_readsPoint_31 rfl rfl ?_
    refine eg_get fl_X9_13 dX9_readsPoint_32 (by first | exact er202 | exact er203 | exact er204 | exact er205 | exact er206 | exact er207 | exact er208 | exact er209 | exact er210 | exact er211 | exact er212 | exact er213 | exact er214 | exact er215) rfl ?_
    refine eg_iconst dX9_readsPoint_35 ?_
    first | refine eg_nowL dX9_readsPoint_36 hN (by omega) (by omega) ?_ | refine eg_hrdL dX9_readsPoint_36 hR (by omega) (by omega) ?_
    refine eg_eqL (y := v 1) rfl ?_
    refine eg_l2i dX9_readsPoint_37 ?_
    refine eg_imul dX9_readsPoint_38 ?_
    refine eg_iadd dX9_readsPoint_39 ?_
    refine eg_istore dX9_readsPoint_40 rfl rfl rfl ?_
    refine eg_al_n dX9_readsPoint_42 rfl rfl ?_
    refine eg_get fl_X9_13 dX9_readsPoint_43 (by first | exact er202 | exact er203 | exact er204 | exact er205 | exact er206 | exact er207 | exact er208 | exact er209 | exact er210 | exact er211 | exact er212 | exact er213 | exact er214 | exact er215) rfl ?_
    refine eg_iload dX9_readsPoint_46 rfl ?_
    refine eg_iload_n dX9_readsPoint_48 rfl ?_
    refine eg_i2l dX9_readsPoint_49 ⟨by omega, by omega⟩ ?_
    refine eg_hrdS dX9_readsPoint_50 hR (by omega) (by omega) (fun y f1 hR => ?_)
    have hF := fun c hc => (f1 c hc).trans (hF c hc)
    refine eg_al_n dX9_readsPoint_51 rfl rfl ?_
    refine eg_get fl_X9_13 dX9_readsPoint_52 (by first | exact er202 | exact er203 | exact er204 | exact er205 | exact er206 | exact er207 | exact er208 | exact er209 | exact er210 | exact er211 | exact er212 | exact er213 | exact er214 | exact er215) rfl ?_
    refine eg_iload dX9_readsPoint_55 rfl ?_
    refine eg_iconst dX9_readsPoint_57 ?_
    refine eg_iadd dX9_readsPoint_58 ?_
    refine eg_iload_n dX9_readsPoint_59 rfl ?_
    refine eg_Sf1 cs_X9_118 dX9_readsPoint_60 (c_truth hw) (Nat.le_of_ble_eq_true rfl) (by decide) ?_
    refine eg_i2l dX9_readsPoint_63 ⟨by omega, by omega⟩ ?_
    refine eg_hrdS dX9_readsPoint_64 hR (by omega) (by omega) (fun y f1 hR => ?_)
    have hF := fun c hc => (f1 c hc).trans (hF c hc)
    refine eg_al_n dX9_readsPoint_65 rfl rfl ?_
    refine eg_get fl_X9_13 dX9_readsPoint_66 (by first | exact er202 | exact er203 | exact er204 | exact er205 | exact er206 | exact er207 | exact er208 | exact er209 | exact er210 | exact er211 | exact er212 | exact er213 | exact er214 | exact er215) rfl ?_
    refine eg_iload dX9_readsPoint_69 rfl ?_
    refine eg_iconst dX9_readsPoint_71 ?_
    refine eg_iadd dX9_readsPoint_72 ?_
    refine eg_iload_n dX9_readsPoint_73 rfl ?_
    refine eg_i2l dX9_readsPoint_74 ⟨by omega, by omega⟩ ?_
    refine eg_hrdS dX9_readsPoint_75 hR (by omega) (by omega) (fun y f1 hR => ?_)
    have hF := fun c hc => (f1 c hc).trans (hF c hc)
    refine eg_al_n dX9_readsPoint_76 rfl rfl ?_
    refine eg_get fl_X9_13 dX9_readsPoint_77 (by first | exact er202 | exact er203 | exact er204 | exact er205 | exact er206 | exact er207 | exact er208 | exact er209 | exact er210 | exact er211 | exact er212 | exact er213 | exact er214 | exact er215) rfl ?_
    refine eg_iconst dX9_readsPoint_80 ?_
    refine eg_dup2 dX9_readsPoint_81 rfl rfl ?_
    first | refine eg_nowL dX9_readsPoint_82 hN (by omega) (by omega) ?_ | refine eg_hrdL dX9_readsPoint_82 hR (by omega) (by omega) ?_
    refine eg_eqL (y := v 1) (by rw [va_up_n _ _ (by omega), va_up_n _ _ (by omega), va_up_n _ _ (by omega)]; rfl) ?_
    refine eg_lk1 dX9_readsPoint_83 ?_
    refine eg_ladd dX9_readsPoint_84 ?_
    refine eg_hrdS dX9_readsPoint_85 hR (by omega) (by omega) (fun y f1 hR => ?_)
    have hF := fun c hc => (f1 c hc).trans (hF c hc)
    refine eg_return dX9_readsPoint_86 rfl ?_
    have k1 : j1 = A1.1 := by omega
    subst k1
    have eR : ptR L t i v w = .inr (A2.1, ptV v r1 w r2) := by unfold ptR; rw [h1, bd_r, h2, bd_r, ← v1, ← v2]
    have e202 : y 202 = y2 202 := hF 202 (by decide)
    refine ⟨rfl, rfl, y, rfl, ⟨A2.1, b2.1, by rw [e202]; exact u2⟩, by rw [e202, e2, h24, eR, ft_r], fun c9 h9 h8 => (hF c9 h8).trans (frn c9 h9), fun c9 x9 x10 x11 => by rw [e202]; exact grn c9 x9 x10 x11, fun a9 h8 => ?_⟩
    rw [eR] at h8; injection h8 with h8; subst h8; exact ⟨by rw [e202]; exact u2, hR⟩
  · refine eg_return dX9_readsPoint_27 rfl ?_
    have eS : fnx 0 (ftR (ptR L t i v w)) = fnx (fnx (0) (ftR (nmR L t i 0 (v 0 - 1)))) (ftR (nmR L t j1 0 9999)) := by
      unfold ptR
      cases hx1 : nmR L t i 0 (v 0 - 1) with
      | inl e =>
        have ne := nm_ne e hx1
        rw [bd_l, ft_l, ft_l, fnx_k ne]
      | inr a1 =>
        have k1 : j1 = a1.1 := by have := (s1 a1 rfl hx1).2.1; omega
        subst k1
        rw [bd_r, ft_r, fnx_z]
        cases hx2 : nmR L t a1.1 0 9999 with
        | inl e =>
          have ne := nm_ne e hx2
          rw [bd_l, ft_l, ft_l]
        | inr a2 =>
          have k2 : j2 = a2.1 := by have := (s2 a2 (by rw [hx1]; rfl) hx2).2.1; omega
          subst k2
          rw [bd_r, ft_r, ft_r]
    rw [fnx_0] at eS
    refine ⟨rfl, rfl, y2, rfl, ⟨j2, l2, p2⟩, by rw [eS]; exact e2, fun c9 h9 _ => (fun c9 h9 => ((f2 c9 h9).trans (f1 c9 h9))) c9 h9, fun c9 x9 x10 x11 => ((g2 c9 x9 x10 x11).trans (g1 c9 x9 x10 x11)), fun a9 h8 => ?_⟩
    rw [h8, ft_r] at eS
    exact absurd eS.symm h24
theorem c_readsShipper {k : eg_K} {z : eg_Z} {X : eg_M} {n : Nat} {L : Nat} {t : Nat → Int} (hT : TM z L t) {v : eg_v} {i : Nat} (hR : hr z v) (ht : tv v) (hi9 : i ≤ L) (hat : z 202 9 = (i : Int)) (hF : z 202 10 = mf 0) (h2 : v 2 < 6) : eg_P k gX9_readsShipper 4 0 0 [vR k 202] n (enc k z X) (eg_p k none n X (fun z' => (∃ j : Nat, j ≤ L ∧ z' 202 9 = (j : Int)) ∧ z' 202 10 = mf (ftR (shR_ L t i v)) ∧ (∀ c, c ≠ 202 → c ≠ 204 → z' c = z c) ∧ (∀ j, j ≠ 9 → j ≠ 10 → j ≠ 11 → z' 202 j = z 202 j) ∧ ∀ a, (shR_ L t i v) = .inr a → z' 202 9 = (a.1 : Int) ∧ hr z' a.2)) := by
  refine eg_P.of (by decide) (Nat.le_of_ble_eq_true rfl) ?_
  show eg_E k gX9_readsShipper 4 0 0 n (enc k z X) [vR k 202, vU, vU, vU, vU, vU] [] 0 _
  have hv := ht.1
  have q := hv.r.2
  have v02 := ht.2.1
  have L4 := hT.1
  have rF : (0 : Int) ≤ 0 ∧ (0 : Int) ≤ 4000 := by omega
  refine eg_al_n dX9_readsShipper_0 rfl rfl ?_
  refine eg_Vr0 cs_X9_115 dX9_readsShipper_1 (c_most hT hi9 hat hF rF) (by first | exact er202 | exact er203 | exact er204 | exact er205 | exact er206 | exact er207 | exact er208 | exact er209 | exact er210 | exact er211 | exact er212 | exact er213 | exact er214 | exact er215) rfl (Nat.le_of_ble_eq_true rfl) (by decide) ?_
  rintro r1 y1 ⟨q1, f1, g1, ⟨j1, l1, p1⟩, e1, s1⟩
  have hT1 : TM y1 L t := hT.c (g1 8 (by decide) (by decide) (by decide)) (f1 209 (by decide))
  have rF1 := fnx_b rF (ft_b (t := t) (lo := 0) (hi := 9999) hT.1 hi9)
  refine eg_istore_n dX9_readsShipper_4 rfl rfl rfl ?_
  refine eg_al_n dX9_readsShipper_5 rfl rfl ?_
  refine eg_iconst dX9_readsShipper_6 ?_
  refine eg_bipush dX9_readsShipper_7 (by decide) ?_
  refine eg_Vr2 cs_X9_112 dX9_readsShipper_9 (c_mn (lo := 1) (hi := 9) hT1 l1 p1 e1 rF1 ⟨by decide, by decide⟩ ⟨by omega, by omega⟩) (by first | exact er202 | exact er203 | exact er204 | exact er205 | exact er206 | exact er207 | exact er208 | exact er209 | exact er210 | exact er211 | exact er212 | exact er213 | exact er214 | exact er215) rfl (Nat.le_of_ble_eq_true rfl) (by decide) ?_
  rintro r2 y2 ⟨q2, f2, g2, ⟨j2, l2, p2⟩, e2, s2⟩
  have hT2 : TM y2 L t := hT1.c (g2 8 (by decide) (by decide) (by decide)) (f2 209 (by decide))
  have rF2 := fnx_b rF1 (ft_b (t := t) (lo := 1) (hi := 9) hT.1 l1)
  refine eg_istore_n dX9_readsShipper_12 rfl rfl rfl ?_
  refine eg_al_n dX9_readsShipper_13 rfl rfl ?_
  refine eg_Vr0 cs_X9_115 dX9_readsShipper_14 (c_most hT2 l2 p2 e2 rF2) (by first | exact er202 | exact er203 | exact er204 | exact er205 | exact er206 | exact er207 | exact er208 | exact er209 | exact er210 | exact er211 | exact er212 | exact er213 | exact er214 | exact er215) rfl (Nat.le_of_ble_eq_true rfl) (by decide) ?_
  rintro r3 y3 ⟨q3, f3, g3, ⟨j3, l3, p3⟩, e3, s3⟩
  have hT3 : TM y3 L t := hT2.c (g3 8 (by decide) (by decide) (by decide)) (f3 209 (by decide))
  have rF3 := fnx_b rF2 (ft_b (t := t) (lo := 0) (hi := 9999) hT.1 l2)
  refine eg_istore_n dX9_readsShipper_17 rfl rfl rfl ?_
  refine eg_al_n dX9_readsShipper_18 rfl rfl ?_
  refine eg_Vr0 cs_X9_115 dX9_readsShipper_19 (c_most hT3 l3 p3 e3 rF3) (by first | exact er202 | exact er203 | exact er204 | exact er205 | exact er206 | exact er207 | exact er208 | exact er209 | exact er210 | exact er211 | exact er212 | exact er213 | exact er214 | exact er215) rfl (Nat.le_of_ble_eq_true rfl) (by decide) ?_
  rintro r4 y4 ⟨q4, f4, g4, ⟨j4, l4, p4⟩, e4, s4⟩
  have hT4 : TM y4 L t := hT3.c (g4 8 (by decide) (by decide) (by decide)) (f4 209 (by decide))
  have rF4 := fnx_b rF3 (ft_b (t := t) (lo := 0) (hi := 9999) hT.1 l3)
  refine eg_istore dX9_readsShipper_22 rfl rfl rfl ?_
  refine eg_al_n dX9_readsShipper_24 rfl rfl ?_
  refine eg_Vf0 cs_X9_70 dX9_readsShipper_25 (c_isRight e4 rF4) (by first | exact er202 | exact er203 | exact er204 | exact er205 | exact er206 | exact er207 | exact er208 | exact er209 | exact er210 | exact er211 | exact er212 | exact er213 | exact er214 | exact er215) rfl (Nat.le_of_ble_eq_true rfl) (by decide) ?_
  refine eg_bi_ne 32 dX9_readsShipper_28 rfl (fun h28 => ?_) (fun h28 => ?_)
  · obtain ⟨F30, A4, h4⟩ := fx_0 nm_ne h28
    obtain ⟨F20, A3, h3⟩ := fx_0 nm_ne F30
    obtain ⟨F10, A2, h2⟩ := fx_0 nm_ne F20
    obtain ⟨F00, A1, h1⟩ := fx_0 nm_ne F10
    obtain ⟨v1, u1, -⟩ := s1 A1 F00 h1
    obtain ⟨v2, u2, -⟩ := s2 A2 F10 h2
    obtain ⟨v3, u3, -⟩ := s3 A3 F20 h3
    obtain ⟨v4, u4, -⟩ := s4 A4 F30 h4
    have b1 := nmR_r hi9 h1
    have b2 := nmR_r l1 h2
    have b3 := nmR_r l2 h3
    have b4 := nmR_r l3 h4
    have frn : ∀ c, c ≠ 202 → y4 c = z c := fun c9 h9 => ((((f4 c9 h9).trans (f3 c9 h9)).trans (f2 c9 h9)).trans (f1 c9 h9))
    have grn : ∀ j, j ≠ 9 → j ≠ 10 → j ≠ 11 → y4 202 j = z 202 j := fun c9 x9 x10 x11 => ((((g4 c9 x9 x10 x11).trans (g3 c9 x9 x10 x11)).trans (g2 c9 x9 x10 x11)).trans (g1 c9 x9 x10 x11))
    have hR : hr y4 v := hr_c (frn 204 (by decide)) hR
    have hF : ∀ c, c ≠ 204 → y4 c = y4 c := fun _ _ => rfl
    refine eg_bipush dX9_readsShipper_32 (by decide) ?_
    refine eg_bipush dX9_readsShipper_34 (by decide) ?_
    refine eg_al_n dX9_readsShipper_36 rfl rfl ?_
    refine eg_get fl_X9_13 dX9_readsShipper_37 (by first | exact er202 | exact er203 | exact er204 | exact er205 | exact er206 | exact er207 | exact er208 | exact er209 | exact er210 | exact er211 | exact er212 | exact er213 | exact er214 | exact er215) rfl ?_
    refine eg_iconst dX9_readsShipper_40 ?_
    first | refine eg_nowL dX9_readsShipper_41 hN (by omega) (by omega) ?_ | refine eg_hrdL dX9_readsShipper_41 hR (by omega) (by omega) ?_
    refine eg_eqL (y := v 2) rfl ?_
    refine eg_l2i dX9_readsShipper_42 ?_
    refine eg_imul dX9_readsShipper_43 ?_
    refine eg_iadd dX9_readsShipper_44 ?_
    refine eg_istore dX9_readsShipper_45 rfl rfl rfl ?_
    refine eg_al_n dX9_readsShipper_47 rfl rfl ?_
    refine eg_get fl_X9_13 dX9_readsShipper_48 (by first | exact er202 | exact er203 | exact er204 | exact er205 | exact er206 | exact er207 | exact er208 | exact er209 | exact er210 | exact er211 | exact er212 | exact er213 | exact er214 | exact er215) rfl ?_
    refine eg_iload dX9_readsShipper_51 rfl ?_
    refine eg_iconst dX9_readsShipper_53 ?_
    refine eg_iadd dX9_readsShipper_54 ?_
    refine eg_iload_n dX9_readsShipper_55 rfl ?_
    refine eg_i2l dX9_readsShipper_56 ⟨by omega, by omega⟩ ?_
    refine eg_hrdS dX9_readsShipper_57 hR (by omega) (by omega) (fun y f1 hR => ?_)
    have hF := fun c hc => (f1 c hc).trans (hF c hc)
    refine eg_al_n dX9_readsShipper_58 rfl rfl ?_
    refine eg_get fl_X9_13 dX9_readsShipper_59 (by first | exact er202 | exact er203 | exact er204 | exact er205 | exact er206 | exact er207 | exact er208 | exact er209 | exact er210 | exact er211 | exact er212 | exact er213 | exact er214 | exact er215) rfl ?_
    refine eg_iload dX9_readsShipper_62 rfl ?_
    refine eg_iconst dX9_readsShipper_64 ?_
    refine eg_iadd dX9_readsShipper_65 ?_
    refine eg_iload_n dX9_readsShipper_66 rfl ?_
    refine eg_i2l dX9_readsShipper_67 ⟨by omega, by omega⟩ ?_
    refine eg_hrdS dX9_readsShipper_68 hR (by omega) (by omega) (fun y f1 hR => ?_)
    have hF := fun c hc => (f1 c hc).trans (hF c hc)
    refine eg_al_n dX9_readsShipper_69 rfl rfl ?_
    refine eg_get fl_X9_13 dX9_readsShipper_70 (by first | exact er202 | exact er203 | exact er204 | exact er205 | exact er206 | exact er207 | exact er208 | exact er209 | exact er210 | exact er211 | exact er212 | exact er213 | exact er214 | exact er215) rfl ?_
    refine eg_iload dX9_readsShipper_73 rfl ?_
    refine eg_iconst dX9_readsShipper_75 ?_
    refine eg_iadd dX9_readsShipper_76 ?_
    refine eg_iload_n dX9_readsShipper_77 rfl ?_
    refine eg_i2l dX9_readsShipper_78 ⟨by omega, by omega⟩ ?_
    refine eg_hrdS dX9_readsShipper_79 hR (by omega) (by omega) (fun y f1 hR => ?_)
    have hF := fun c hc => (f1 c hc).trans (hF c hc)
    refine eg_al_n dX9_readsShipper_80 rfl rfl ?_
    refine eg_get fl_X9_13 dX9_readsShipper_81 (by first | exact er202 | exact er203 | exact er204 | exact er205 | exact er206 | exact er207 | exact er208 | exact er209 | exact er210 | exact er211 | exact er212 | exact er213 | exact er214 | exact er215) rfl ?_
    refine eg_iload dX9_readsShipper_84 rfl ?_
    refine eg_iconst dX9_readsShipper_86 ?_
    refine eg_iadd dX9_readsShipper_87 ?_
    refine eg_iload dX9_readsShipper_88 rfl ?_
    refine eg_i2l dX9_readsShipper_90 ⟨by omega, by omega⟩ ?_
    refine eg_hrdS dX9_readsShipper_91 hR (by omega) (by omega) (fun y f1 hR => ?_)
    have hF := fun c hc => (f1 c hc).trans (hF c hc)
    refine eg_al_n dX9_readsShipper_92 rfl rfl ?_
    refine eg_get fl_X9_13 dX9_readsShipper_93 (by first | exact er202 | exact er203 | exact er204 | exact er205 | exact er206 | exact er207 | exact er208 | exact er209 | exact er210 | exact er211 | exact er212 | exact er213 | exact er214 | exact er215) rfl ?_
    refine eg_iconst dX9_readsShipper_96 ?_
    refine eg_dup2 dX9_readsShipper_97 rfl rfl ?_
    first | refine eg_nowL dX9_readsShipper_98 hN (by omega) (by omega) ?_ | refine eg_hrdL dX9_readsShipper_98 hR (by omega) (by omega) ?_
    refine eg_eqL (y := v 2) (by rw [va_up_n _ _ (by omega), va_up_n _ _ (by omega), va_up_n _ _ (by omega), va_up_n _ _ (by omega)]; rfl) ?_
    refine eg_lk1 dX9_readsShipper_99 ?_
    refine eg_ladd dX9_readsShipper_100 ?_
    refine eg_hrdS dX9_readsShipper_101 hR (by omega) (by omega) (fun y f1 hR => ?_)
    have hF := fun c hc => (f1 c hc).trans (hF c hc)
    refine eg_return dX9_readsShipper_102 rfl ?_
    have k1 : j1 = A1.1 := by omega
    have k2 : j2 = A2.1 := by omega
    have k3 : j3 = A3.1 := by omega
    subst k1; subst k2; subst k3
    have eR : shR_ L t i v = .inr (A4.1, shV v r1 r2 r3 r4) := by unfold shR_; rw [h1, bd_r, h2, bd_r, h3, bd_r, h4, bd_r, ← v1, ← v2, ← v3, ← v4]
    have e202 : y 202 = y4 202 := hF 202 (by decide)
    refine ⟨rfl, rfl, y, rfl, ⟨A4.1, b4.1, by rw [e202]; exact u4⟩, by rw [e202, e4, h28, eR, ft_r], fun c9 h9 h8 => (hF c9 h8).trans (frn c9 h9), fun c9 x9 x10 x11 => by rw [e202]; exact grn c9 x9 x10 x11, fun a9 h8 => ?_⟩
    rw [eR] at h8; injection h8 with h8; subst h8; exact ⟨by rw [e202]; exact u4, hR⟩
  · refine eg_return dX9_readsShipper_31 rfl ?_
    have eS : fnx 0 (ftR (shR_ L t i v)) = fnx (fnx (fnx (fnx (0) (ftR (nmR L t i 0 9999))) (ftR (nmR L t j1 1 9))) (ftR (nmR L t j2 0 9999))) (ftR (nmR L t j3 0 9999)) := by
      unfold shR_
      cases hx1 : nmR L t i 0 9999 with
      | inl e =>
        have ne := nm_ne e hx1
        rw [bd_l, ft_l, ft_l, fnx_k ne, fnx_k ne, fnx_k ne]
      | inr a1 =>
        have k1 : j1 = a1.1 := by have := (s1 a1 rfl hx1).2.1; omega
        subst k1
        rw [bd_r, ft_r, fnx_z]
        cases hx2 : nmR L t a1.1 1 9 with
        | inl e =>
          have ne := nm_ne e hx2
          rw [bd_l, ft_l, ft_l, fnx_k ne, fnx_k ne]
        | inr a2 =>
          have k2 : j2 = a2.1 := by have := (s2 a2 (by rw [hx1]; rfl) hx2).2.1; omega
          subst k2
          rw [bd_r, ft_r, fnx_z]
          cases hx3 : nmR L t a2.1 0 9999 with
          | inl e =>
            have ne := nm_ne e hx3
            rw [bd_l, ft_l, ft_l, fnx_k ne]
          | inr a3 =>
            have k3 : j3 = a3.1 := by have := (s3 a3 (by rw [hx1, hx2]; rfl) hx3).2.1; omega
            subst k3
            rw [bd_r, ft_r, fnx_z]
            cases hx4 : nmR L t a3.1 0 9999 with
            | inl e =>
              have ne := nm_ne e hx4
              rw [bd_l, ft_l, ft_l]
            | inr a4 =>
              have k4 : j4 = a4.1 := by have := (s4 a4 (by rw [hx1, hx2, hx3]; rfl) hx4).2.1; omega
              subst k4
              rw [bd_r, ft_r, ft_r]
    rw [fnx_0] at eS
    refine ⟨rfl, rfl, y4, rfl, ⟨j4, l4, p4⟩, by rw [eS]; exact e4, fun c9 h9 _ => (fun c9 h9 => ((((f4 c9 h9).trans (f3 c9 h9)).trans (f2 c9 h9)).trans (f1 c9 h9))) c9 h9, fun c9 x9 x10 x11 => ((((g4 c9 x9 x10 x11).trans (g3 c9 x9 x10 x11)).trans (g2 c9 x9 x10 x11)).trans (g1 c9 x9 x10 x11)), fun a9 h8 => ?_⟩
    rw [h8, ft_r] at eS
    exact absurd eS.symm h28
