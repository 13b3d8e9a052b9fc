def cp (M x : Int) : Int := if M < x then M else x
theorem cp_s {M x d : Int} (hM : 0 ≤ M) (hx : 0 ≤ x) (h0 : 0 ≤ d) (h9 : d ≤ 9) (h1 : 1 ≤ M) : (if M < cp M x * 10 + d then M else cp M x * 10 + d) = cp M (x * 10 + d) := by
  unfold cp
  by_cases a : M < x
  · rw [if_pos a, if_pos (by omega), if_pos (by omega)]
  · rw [if_neg a]
theorem bi_z {p : Prop} [Decidable p] : bi p = 0 ∨ bi p = 1 := by unfold bi; split <;> omega
theorem ft_b {L : Nat} {t : Nat → Int} {i : Nat} {lo hi : Int} (hL : L ≤ 400) (h : i ≤ L) : 0 ≤ ftR (nmR L t i lo hi) ∧ ftR (nmR L t i lo hi) ≤ 4000 := by
  have s1 := rn_b (P := bB) (t := t) h
  have s2 : sk L t i ≤ L := s1.2
  unfold nmR
  split
  · split
    · show (0 : Int) ≤ 0 ∧ (0 : Int) ≤ 4000; omega
    · show 0 ≤ 8 * (sk L t i : Int) + 2 ∧ 8 * (sk L t i : Int) + 2 ≤ 4000; omega
  · show 0 ≤ 8 * (sk L t i : Int) + 1 ∧ 8 * (sk L t i : Int) + 1 ≤ 4000; omega
theorem fnx_b {F x : Int} (h : 0 ≤ F ∧ F ≤ 4000) (h2 : 0 ≤ x ∧ x ≤ 4000) : 0 ≤ fnx F x ∧ fnx F x ≤ 4000 := by unfold fnx; split <;> omega
theorem fnx_z {F : Int} : fnx F 0 = F := by unfold fnx; split <;> omega
theorem fx_0 {α : Type} {F : Int} {x : Int ⊕ α} (hx : ∀ e, x = .inl e → e ≠ 0) (h : fnx F (ftR x) = 0) : F = 0 ∧ ∃ a, x = .inr a := by
  by_cases f : F = 0
  · rw [f, fnx_0] at h
    cases x with
    | inl e => exact absurd h (hx e rfl)
    | inr a => exact ⟨f, a, rfl⟩
  · rw [fnx_n f] at h; exact absurd h f
theorem fx_bd {α β : Type} {F y : Int} {x : Int ⊕ α} {f : α → Int ⊕ β} (hx : ∀ e, x = .inl e → e ≠ 0) (hy : ∀ a, x = .inr a → y = ftR (f a)) : fnx (fnx F (ftR x)) y = fnx F (ftR (bd x f)) := by
  cases x with
  | inl e =>
    have h0 := hx e rfl
    show fnx (fnx F e) y = fnx F e
    by_cases f : F = 0
    · rw [f, fnx_0, fnx_n h0]
    · rw [fnx_n f, fnx_n f]
  | inr a =>
    show fnx (fnx F 0) y = fnx F (ftR (f a))
    rw [fnx_z, hy a rfl]
theorem ft_in {α β : Type} {x : Int ⊕ α} {g : α → β} : ftR (bd x (fun a => (.inr (g a) : Int ⊕ β))) = ftR x := by cases x <;> rfl
theorem nm_ne {L : Nat} {t : Nat → Int} {i : Nat} {lo hi : Int} : ∀ e, nmR L t i lo hi = .inl e → e ≠ 0 := fun e h => by have := nmR_e h; omega
theorem c_rn {k : eg_K} {z : eg_Z} {X : eg_M} {n : Nat} {L : Nat} {t : Nat → Int} (hT : TP z L t) {i : Nat} {F lo hi : Int} (hi9 : i ≤ L) (hat : z 181 2 = (i : Int)) (hF : z 181 5 = F) (rF : 0 ≤ F ∧ F ≤ 4000) (rlo : iR lo) (rhi : -2 ≤ hi ∧ hi ≤ 9999) : eg_P k gX3_readNumber 2 0 0 [vR k 181, vI lo, vI hi] n (enc k z X) (eg_r k n X (fun r z' => iR r ∧ (∀ c, c ≠ 181 → z' c = z c) ∧ z' 181 3 = z 181 3 ∧ (∃ j : Nat, j ≤ L ∧ z' 181 2 = (j : Int)) ∧ z' 181 5 = fnx F (ftR (nmR L t i lo hi)) ∧ ∀ a, nmR L t i lo hi = .inr a → r = a.2 ∧ z' 181 2 = (a.1 : Int) ∧ z' 181 4 = (sk L t i : Int))) := by
  refine eg_P.of (by decide) (Nat.le_of_ble_eq_true rfl) ?_
  show eg_E k gX3_readNumber 2 0 0 n (enc k z X) [vR k 181, vI lo, vI hi, vU] [] 0 _
  have L4 := hT.1
  have sb : sk L t i ≤ L := (rn_b (P := bB) (t := t) hi9).2
  have rlo1 := rlo.1; have rlo2 := rlo.2
  have K : dB (tc L t (sk L t i)) = true → ∀ y : eg_Z, (∀ c, c ≠ 181 → y c = z c) → y 181 3 = z 181 3 → y 181 4 = (sk L t i : Int) → y 181 5 = F → y 181 2 = (sk L t i : Int) → eg_E k gX3_readNumber 2 0 0 n (enc k y X) [vR k 181, vI lo, vI hi, vI 0] [] 42 (eg_r k n X (fun r z' => iR r ∧ (∀ c, c ≠ 181 → z' c = z c) ∧ z' 181 3 = z 181 3 ∧ (∃ j : Nat, j ≤ L ∧ z' 181 2 = (j : Int)) ∧ z' 181 5 = fnx F (ftR (nmR L t i lo hi)) ∧ ∀ a, nmR L t i lo hi = .inr a → r = a.2 ∧ z' 181 2 = (a.1 : Int) ∧ z' 181 4 = (sk L t i : Int))) := by
    intro hd0 y hf h3 h4 h5 ha
    have J111 : ∀ (m : Nat) (y : eg_Z), (sk L t i + m ≤ L) → ((∀ c, c ≠ 181 → y c = z c)) → (y 181 3 = z 181 3) → (y 181 4 = (sk L t i : Int)) → (y 181 5 = F) → (y 181 2 = ((sk L t i + m : Nat) : Int)) → (0 ≤ evN L t (sk L t i) m) → de L t i = sk L t i + m → eg_E k gX3_readNumber 2 0 0 n (enc k y X) [vR k 181, vI lo, vI hi, vI (cp 1000000 (evN L t (sk L t i) m))] [] 111 (eg_r k n X (fun r z' => iR r ∧ (∀ c, c ≠ 181 → z' c = z c) ∧ z' 181 3 = z 181 3 ∧ (∃ j : Nat, j ≤ L ∧ z' 181 2 = (j : Int)) ∧ z' 181 5 = fnx F (ftR (nmR L t i lo hi)) ∧ ∀ a, nmR L t i lo hi = .inr a → r = a.2 ∧ z' 181 2 = (a.1 : Int) ∧ z' 181 4 = (sk L t i : Int))) := by
      intro m y hm hf h3 h4 h5 ha he ed
      have cb : 0 ≤ cp 1000000 (evN L t (sk L t i) m) ∧ cp 1000000 (evN L t (sk L t i) m) ≤ 1000000 := by unfold cp; split <;> omega
      have en : nmR L t i lo hi = if lo ≤ nv L t i ∧ nv L t i ≤ hi then .inr (de L t i, nv L t i) else .inl (8 * (sk L t i : Int) + 2) := by unfold nmR; rw [if_pos hd0]
      have ev : nv L t i = evN L t (sk L t i) m := by unfold nv; rw [ed, Nat.add_sub_cancel_left]
      refine eg_al_n dX3_readNumber_111 rfl rfl ?_
      refine eg_iload_n dX3_readNumber_112 rfl ?_
      refine eg_iload_n dX3_readNumber_113 rfl ?_
      refine eg_iload_n dX3_readNumber_114 rfl ?_
      refine eg_SNf3 cs_X3_83 dX3_readNumber_115 (c_X8_within ⟨by omega, by omega⟩ rlo ⟨by omega, by omega⟩) (Nat.le_of_ble_eq_true rfl) (by decide) ?_
      refine eg_Vpv1 cs_X3_87 dX3_readNumber_118 (c_mustBe (F := F) h5 ⟨by omega, by omega⟩ h4 bi_z) (by first | exact er181 | exact er182 | exact er183 | exact ep0 hb | exact ep1 hb | exact ep3 hb | exact ep5 hb | exact ep7 hb) rfl (Nat.le_of_ble_eq_true rfl) (by decide) ?_
      rintro y2 ⟨f2, g2, e2⟩
      refine eg_iload_n dX3_readNumber_121 rfl ?_
      refine eg_ireturn dX3_readNumber_122 rfl rfl ?_
      by_cases hin : lo ≤ nv L t i ∧ nv L t i ≤ hi
      · rw [if_pos hin] at en
        have ec : cp 1000000 (evN L t (sk L t i) m) = evN L t (sk L t i) m := by unfold cp; rw [if_neg (by omega)]
        refine ⟨_, y2, rfl, rfl, rfl, ⟨by omega, by omega⟩, fun c hc => (f2 c hc).trans (hf c hc), by rw [g2 3 (by decide)]; exact h3, ⟨sk L t i + m, hm, by rw [g2 2 (by decide)]; exact ha⟩, ?_, fun a9 h9 => ?_⟩
        · rw [e2, if_neg (fun hh => by rw [bi_0] at hh; rw [ec] at hh; omega), en]; exact fnx_z.symm
        · rw [en] at h9; injection h9 with h9; subst h9; exact ⟨by rw [ec, ← ev], by rw [g2 2 (by decide), ha]; show ((sk L t i + m : Nat) : Int) = ((de L t i : Nat) : Int); omega, by rw [g2 4 (by decide)]; exact h4⟩
      · rw [if_neg hin] at en
        refine ⟨_, y2, rfl, rfl, rfl, ⟨by omega, by omega⟩, fun c hc => (f2 c hc).trans (hf c hc), by rw [g2 3 (by decide)]; exact h3, ⟨sk L t i + m, hm, by rw [g2 2 (by decide)]; exact ha⟩, ?_, fun a9 h9 => ?_⟩
        · rw [e2, if_pos (by rw [bi_0]; intro hh; apply hin; unfold cp at hh; split at hh <;> omega), en]; rfl
        · rw [en] at h9; cases h9
    have LN : ∀ (mm : Nat) (m : Nat) (y : eg_Z), (sk L t i + m ≤ L) → ((∀ c, c ≠ 181 → y c = z c)) → (y 181 3 = z 181 3) → (y 181 4 = (sk L t i : Int)) → (y 181 5 = F) → (y 181 2 = ((sk L t i + m : Nat) : Int)) → (0 ≤ evN L t (sk L t i) m) → (rn dB L t (sk L t i + m) = de L t i) → (L : Int) - ((sk L t i + m : Nat) : Int) < (mm : Int) → eg_E k gX3_readNumber 2 0 0 n (enc k y X) [vR k 181, vI lo, vI hi, vI (cp 1000000 (evN L t (sk L t i) m))] [] 42 (eg_r k n X (fun r z' => iR r ∧ (∀ c, c ≠ 181 → z' c = z c) ∧ z' 181 3 = z 181 3 ∧ (∃ j : Nat, j ≤ L ∧ z' 181 2 = (j : Int)) ∧ z' 181 5 = fnx F (ftR (nmR L t i lo hi)) ∧ ∀ a, nmR L t i lo hi = .inr a → r = a.2 ∧ z' 181 2 = (a.1 : Int) ∧ z' 181 4 = (sk L t i : Int))) := by
      intro mm
      induction mm with
      | zero => intro m y hm hf h3 h4 h5 ha he hr hmm; exfalso; omega
      | succ mm ih =>
        intro m y hm hf h3 h4 h5 ha he hr hmm
        have hTy : TP y L t := hT.c (hf 182 (by decide)) (hf 183 (by decide))
        refine eg_al_n dX3_readNumber_42 rfl rfl ?_
        refine eg_get fl_X3_25 dX3_readNumber_43 (by first | exact er181 | exact er182 | exact er183 | exact ep0 hb | exact ep1 hb | exact ep3 hb | exact ep5 hb | exact ep7 hb) rfl ?_
        refine eg_eqI ha ?_
        refine eg_al_n dX3_readNumber_46 rfl rfl ?_
        refine eg_get fl_X3_12 dX3_readNumber_47 (by first | exact er181 | exact er182 | exact er183 | exact ep0 hb | exact ep1 hb | exact ep3 hb | exact ep5 hb | exact ep7 hb) rfl ?_
        refine eg_get fl_X3_47 dX3_readNumber_50 (by first | exact er181 | exact er182 | exact er183 | exact ep0 hb | exact ep1 hb | exact ep3 hb | exact ep5 hb | exact ep7 hb) rfl ?_
        refine eg_eqI hTy.2.1 ?_
        refine eg_icmp_ge 111 dX3_readNumber_53 ⟨by omega, by omega⟩ ⟨by omega, by omega⟩ rfl (fun h53 => ?_) (fun h53 => ?_)
        · exact J111 m y hm hf h3 h4 h5 ha he (hr.symm.trans (rn_n (fun hj => absurd hj (by omega))))
        · have tb := tc_b (L := L) (t := t) (i := sk L t i + m)
          refine eg_al_n dX3_readNumber_56 rfl rfl ?_
          refine eg_get fl_X3_12 dX3_readNumber_57 (by first | exact er181 | exact er182 | exact er183 | exact ep0 hb | exact ep1 hb | exact ep3 hb | exact ep5 hb | exact ep7 hb) rfl ?_
          refine eg_al_n dX3_readNumber_60 rfl rfl ?_
          refine eg_get fl_X3_25 dX3_readNumber_61 (by first | exact er181 | exact er182 | exact er183 | exact ep0 hb | exact ep1 hb | exact ep3 hb | exact ep5 hb | exact ep7 hb) rfl ?_
          refine eg_eqI ha ?_
          refine eg_Vf1 cs_X3_56 dX3_readNumber_64 (c_tat hTy (by omega)) (by first | exact er181 | exact er182 | exact er183 | exact ep0 hb | exact ep1 hb | exact ep3 hb | exact ep5 hb | exact ep7 hb) rfl (Nat.le_of_ble_eq_true rfl) (by decide) ?_
          refine eg_Sf1 cs_X3_68 dX3_readNumber_67 (c_isDigit ⟨by omega, by omega⟩) (Nat.le_of_ble_eq_true rfl) (by decide) ?_
          refine eg_bi_eq 111 dX3_readNumber_70 rfl (fun h70 => ?_) (fun h70 => ?_)
          · exact J111 m y hm hf h3 h4 h5 ha he (hr.symm.trans (rn_n (fun _ => h70)))
          · have dg := of_decide_eq_true h70
            have cb : 0 ≤ cp 1000000 (evN L t (sk L t i) m) ∧ cp 1000000 (evN L t (sk L t i) m) ≤ 1000000 := by unfold cp; split <;> omega
            refine eg_iload_n dX3_readNumber_73 rfl ?_
            refine eg_bipush dX3_readNumber_74 (by decide) ?_
            refine eg_imul dX3_readNumber_76 ?_
            refine eg_al_n dX3_readNumber_77 rfl rfl ?_
            refine eg_get fl_X3_12 dX3_readNumber_78 (by first | exact er181 | exact er182 | exact er183 | exact ep0 hb | exact ep1 hb | exact ep3 hb | exact ep5 hb | exact ep7 hb) rfl ?_
            refine eg_al_n dX3_readNumber_81 rfl rfl ?_
            refine eg_get fl_X3_25 dX3_readNumber_82 (by first | exact er181 | exact er182 | exact er183 | exact ep0 hb | exact ep1 hb | exact ep3 hb | exact ep5 hb | exact ep7 hb) rfl ?_
            refine eg_eqI ha ?_
            refine eg_Vf1 cs_X3_56 dX3_readNumber_85 (c_tat hTy (by omega)) (by first | exact er181 | exact er182 | exact er183 | exact ep0 hb | exact ep1 hb | exact ep3 hb | exact ep5 hb | exact ep7 hb) rfl (Nat.le_of_ble_eq_true rfl) (by decide) ?_
            refine eg_iadd dX3_readNumber_88 ?_
            refine eg_bipush dX3_readNumber_89 (by decide) ?_
            refine eg_isub dX3_readNumber_91 ?_
            refine eg_ldc kw_X3_76 dX3_readNumber_92 ?_
            refine eg_mmin cs_X3_77 dX3_readNumber_94 ⟨by omega, by omega⟩ ⟨by omega, by omega⟩ (Nat.le_of_ble_eq_true rfl) (by decide) ?_
            refine eg_eqI (y := cp 1000000 (evN L t (sk L t i) (m + 1))) (by show _ = cp 1000000 (evN L t (sk L t i) m * 10 + (tc L t (sk L t i + m) - 48)); rw [← cp_s (by omega) he (by omega) (by omega) (by omega), show cp 1000000 (evN L t (sk L t i) m) * 10 + tc L t (sk L t i + m) - 48 = cp 1000000 (evN L t (sk L t i) m) * 10 + (tc L t (sk L t i + m) - 48) by omega]) ?_
            refine eg_istore_n dX3_readNumber_97 rfl rfl rfl ?_
            refine eg_al_n dX3_readNumber_98 rfl rfl ?_
            refine eg_dup dX3_readNumber_99 rfl ?_
            refine eg_get fl_X3_25 dX3_readNumber_100 (by first | exact er181 | exact er182 | exact er183 | exact ep0 hb | exact ep1 hb | exact ep3 hb | exact ep5 hb | exact ep7 hb) rfl ?_
            refine eg_eqI ha ?_
            refine eg_iconst dX3_readNumber_103 ?_
            refine eg_iadd dX3_readNumber_104 ?_
            refine eg_put fl_X3_25 dX3_readNumber_105 (by first | exact er181 | exact er182 | exact er183 | exact ep0 hb | exact ep1 hb | exact ep3 hb | exact ep5 hb | exact ep7 hb) rfl rfl rfl rfl ?_
            refine eg_eqM es181_2 ?_
            refine eg_goto 42 dX3_readNumber_108 rfl ?_
            refine ih (m + 1) _ (by omega) (fun c hc => by rw [va_up_n _ _ hc]; exact hf c hc) (by rw [va_up_s, va_up_n _ _ (by decide)]; exact h3) (by rw [va_up_s, va_up_n _ _ (by decide)]; exact h4) (by rw [va_up_s, va_up_n _ _ (by decide)]; exact h5) (by rw [va_up_s, va_up_s]; omega) ?_ ?_ (by omega)
            · show 0 ≤ evN L t (sk L t i) m * 10 + (tc L t (sk L t i + m) - 48); omega
            · exact (rn_y (by omega) h70).symm.trans hr
    exact LN (L + 1) 0 y sb hf h3 h4 h5 ha (Int.le_refl _) rfl (by omega)
  refine eg_al_n dX3_readNumber_0 rfl rfl ?_
  refine eg_Vpv0 cs_X3_44 dX3_readNumber_1 (c_skipBlanks hT hi9 hat) (by first | exact er181 | exact er182 | exact er183 | exact ep0 hb | exact ep1 hb | exact ep3 hb | exact ep5 hb | exact ep7 hb) rfl (Nat.le_of_ble_eq_true rfl) (by decide) ?_
  rintro y1 ⟨f1, g1, a1⟩
  have hT1 : TP y1 L t := hT.c (f1 182 (by decide)) (f1 183 (by decide))
  have tb := tc_b (L := L) (t := t) (i := sk L t i)
  refine eg_al_n dX3_readNumber_4 rfl rfl ?_
  refine eg_get fl_X3_12 dX3_readNumber_5 (by first | exact er181 | exact er182 | exact er183 | exact ep0 hb | exact ep1 hb | exact ep3 hb | exact ep5 hb | exact ep7 hb) rfl ?_
  refine eg_al_n dX3_readNumber_8 rfl rfl ?_
  refine eg_get fl_X3_25 dX3_readNumber_9 (by first | exact er181 | exact er182 | exact er183 | exact ep0 hb | exact ep1 hb | exact ep3 hb | exact ep5 hb | exact ep7 hb) rfl ?_
  refine eg_eqI a1 ?_
  refine eg_Vf1 cs_X3_56 dX3_readNumber_12 (c_tat hT1 (by omega)) (by first | exact er181 | exact er182 | exact er183 | exact ep0 hb | exact ep1 hb | exact ep3 hb | exact ep5 hb | exact ep7 hb) rfl (Nat.le_of_ble_eq_true rfl) (by decide) ?_
  refine eg_Sf1 cs_X3_68 dX3_readNumber_15 (c_isDigit ⟨by omega, by omega⟩) (Nat.le_of_ble_eq_true rfl) (by decide) ?_
  refine eg_bi_ne 32 dX3_readNumber_18 rfl (fun h18 => ?_) (fun h18 => ?_)
  · refine eg_al_n dX3_readNumber_32 rfl rfl ?_
    refine eg_al_n dX3_readNumber_33 rfl rfl ?_
    refine eg_get fl_X3_25 dX3_readNumber_34 (by first | exact er181 | exact er182 | exact er183 | exact ep0 hb | exact ep1 hb | exact ep3 hb | exact ep5 hb | exact ep7 hb) rfl ?_
    refine eg_eqI a1 ?_
    refine eg_put fl_X3_32 dX3_readNumber_37 (by first | exact er181 | exact er182 | exact er183 | exact ep0 hb | exact ep1 hb | exact ep3 hb | exact ep5 hb | exact ep7 hb) rfl rfl rfl rfl ?_
    refine eg_eqM es181_4 ?_
    refine eg_iconst dX3_readNumber_40 ?_
    refine eg_istore_n dX3_readNumber_41 rfl rfl rfl ?_
    exact K h18 _ (fun c hc => by rw [va_up_n _ _ hc]; exact f1 c hc) (by rw [va_up_s, va_up_n _ _ (by decide)]; exact g1 3 (by decide)) (by rw [va_up_s, va_up_s]) (by rw [va_up_s, va_up_n _ _ (by decide), g1 5 (by decide)]; exact hF) (by rw [va_up_s, va_up_n _ _ (by decide)]; exact a1)
  · refine eg_al_n dX3_readNumber_21 rfl rfl ?_
    refine eg_al_n dX3_readNumber_22 rfl rfl ?_
    refine eg_get fl_X3_25 dX3_readNumber_23 (by first | exact er181 | exact er182 | exact er183 | exact ep0 hb | exact ep1 hb | exact ep3 hb | exact ep5 hb | exact ep7 hb) rfl ?_
    refine eg_eqI a1 ?_
    refine eg_iconst dX3_readNumber_26 ?_
    refine eg_Vpv2 cs_X3_72 dX3_readNumber_27 (c_fail (F := F) (by rw [g1 5 (by decide)]; exact hF) ⟨by omega, by omega⟩) (by first | exact er181 | exact er182 | exact er183 | exact ep0 hb | exact ep1 hb | exact ep3 hb | exact ep5 hb | exact ep7 hb) rfl (Nat.le_of_ble_eq_true rfl) (by decide) ?_
    rintro y2 ⟨f2, g2, e2⟩
    refine eg_iload_n dX3_readNumber_30 rfl ?_
    refine eg_ireturn dX3_readNumber_31 rfl rfl ?_
    have en : nmR L t i lo hi = .inl (8 * (sk L t i : Int) + 1) := by unfold nmR; rw [if_neg h18]
    refine ⟨lo, y2, rfl, rfl, rfl, rlo, fun c hc => (f2 c hc).trans (f1 c hc), by rw [g2 3 (by decide), g1 3 (by decide)], ⟨sk L t i, sb, by rw [g2 2 (by decide)]; exact a1⟩, by rw [e2, en]; rfl, fun a9 h9 => ?_⟩
    rw [en] at h9; cases h9
