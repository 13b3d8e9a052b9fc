theorem mvq_204 {k : eg_K} {z : eg_Z} {X : eg_M} {n : Nat} {v : eg_v} (hR : hr z v) : eg_P k gX9_moves 0 0 0 [vR k 204, vI 0, vR k 203, vI 0] n (enc k z X) (eg_p k none n X (fun z' => (∀ c, c ≠ 203 → z' c = z c) ∧ nw z' v)) :=
  mv_204_203.weak (fun a b c ⟨e1, e2, e3⟩ => ⟨e1, e2, _, e3, fun d hd => va_up_n _ _ hd, fun i hi => by rw [va_up_s, show i = 220 * 0 + i by omega, cpR_i hi, Nat.mul_zero, Nat.zero_add]; exact hR i hi⟩)
theorem mf_f {F e : Int} (h : 0 < F) : mf F = F := mf_n (by omega)
theorem m_tell {k : eg_K} {z : eg_Z} {X : eg_M} {n : Nat} {s : eg_S} (hI : IM z s) (hO : OS s) : eg_P k gX9_tell 9 0 0 [vR k 202] n (enc k z X) (eg_p k (some (vI (R_tell s).1)) n X (fun z' => FM z z' ∧ IM z' (R_tell s).2)) := by
  refine eg_P.of (by decide) (Nat.le_of_ble_eq_true rfl) ?_
  show eg_E k gX9_tell 9 0 0 n (enc k z X) [vR k 202, vU] [] 0 _
  have hN := hI.1
  have hT : TM z s.2.2.2.2.2.1 s.2.2.2.2.2.2 := ⟨hO.2.2.2.1, hO.2.2.2.2, hI.2.2.2.2.1, hI.2.2.2.2.2⟩
  have L4 := hT.1
  have sb := sk_b (t := s.2.2.2.2.2.2) (Nat.zero_le s.2.2.2.2.2.1)
  have wb := we_b (t := s.2.2.2.2.2.2) (Nat.zero_le s.2.2.2.2.2.1)
  have J151 : ∀ (x F : Int) (y : eg_Z), (∀ c, c ≠ 202 → c ≠ 204 → y c = z c) → (∀ j, j ≠ 9 → j ≠ 10 → j ≠ 11 → y 202 j = z 202 j) → 0 ≤ F → F ≤ 4000 → y 202 10 = mf F → (∀ e, TL s.2.2.2.2.2.1 s.2.2.2.2.2.2 = .inl e → F = e) → (∀ v, TL s.2.2.2.2.2.1 s.2.2.2.2.2.2 = .inr v → F = 0 ∧ hr y v) → eg_E k gX9_tell 9 0 0 n (enc k y X) [vR k 202, vI x] [] 151 (eg_p k (some (vI (R_tell s).1)) n X (fun z' => FM z z' ∧ IM z' (R_tell s).2)) := by
    intro x F y hf hg F0 F1 hF hl9 hr9
    have mb := mf_b ⟨F0, F1⟩
    refine eg_al_n dX9_tell_151 rfl rfl ?_
    refine eg_iconst dX9_tell_152 ?_
    refine eg_put fl_X9_52 dX9_tell_153 (by first | exact er202 | exact er203 | exact er204 | exact er205 | exact er206 | exact er207 | exact er208 | exact er209 | exact er210 | exact er211 | exact er212 | exact er213 | exact er214 | exact er215) rfl rfl rfl rfl ?_
    refine eg_eqM es202_8 ?_
    have i1 : va_up y 202 (va_up (y 202) 8 0) 202 8 = 0 := by rw [va_up_s, va_up_s]
    have i2 : ∀ j, j ≠ 8 → va_up y 202 (va_up (y 202) 8 0) 202 j = y 202 j := fun j hj => by rw [va_up_s, va_up_n _ _ hj]
    have i3 : ∀ c, c ≠ 202 → va_up y 202 (va_up (y 202) 8 0) c = y c := fun c hc => va_up_n _ _ hc
    generalize va_up y 202 (va_up (y 202) 8 0) = y2 at i1 i2 i3 ⊢
    have h10 : y2 202 10 = mf F := by rw [i2 10 (by decide)]; exact hF
    have f2 : ∀ c, c ≠ 202 → c ≠ 204 → y2 c = z c := fun c h1 h2 => (i3 c h1).trans (hf c h1 h2)
    have g2 : ∀ j, j ≠ 8 → j ≠ 9 → j ≠ 10 → j ≠ 11 → y2 202 j = z 202 j := fun j h1 h2 h3 h4 => (i2 j h1).trans (hg j h2 h3 h4)
    refine eg_al_n dX9_tell_156 rfl rfl ?_
    refine eg_Vf0 cs_X9_70 dX9_tell_157 (c_isRight h10 ⟨F0, F1⟩) (by first | exact er202 | exact er203 | exact er204 | exact er205 | exact er206 | exact er207 | exact er208 | exact er209 | exact er210 | exact er211 | exact er212 | exact er213 | exact er214 | exact er215) rfl (Nat.le_of_ble_eq_true rfl) (by decide) ?_
    refine eg_bi_ne 171 dX9_tell_160 rfl (fun h160 => ?_) (fun h160 => ?_)
    · obtain ⟨v9, hE⟩ : ∃ v9, TL s.2.2.2.2.2.1 s.2.2.2.2.2.2 = .inr v9 := by
        cases hE : TL s.2.2.2.2.2.1 s.2.2.2.2.2.2 with
        | inl e => have a1 := (FB_TL (t := s.2.2.2.2.2.2) hT.1).1 e hE; have a2 := hl9 e hE; omega
        | inr v => exact ⟨v, rfl⟩
      have hRr : hr y2 v9 := hr_c (i3 204 (by decide)) (hr9 v9 hE).2
      refine eg_al_n dX9_tell_171 rfl rfl ?_
      refine eg_get fl_X9_13 dX9_tell_172 (by first | exact er202 | exact er203 | exact er204 | exact er205 | exact er206 | exact er207 | exact er208 | exact er209 | exact er210 | exact er211 | exact er212 | exact er213 | exact er214 | exact er215) rfl ?_
      refine eg_iconst dX9_tell_175 ?_
      refine eg_al_n dX9_tell_176 rfl rfl ?_
      refine eg_get fl_X9_9 dX9_tell_177 (by first | exact er202 | exact er203 | exact er204 | exact er205 | exact er206 | exact er207 | exact er208 | exact er209 | exact er210 | exact er211 | exact er212 | exact er213 | exact er214 | exact er215) rfl ?_
      refine eg_iconst dX9_tell_180 ?_
      refine eg_Spv4 cs_X9_172 dX9_tell_181 (mvq_204 hRr) (Nat.le_of_ble_eq_true rfl) (by decide) ?_
      rintro y3 ⟨m3, n3⟩
      refine eg_al_n dX9_tell_184 rfl rfl ?_
      refine eg_iconst dX9_tell_185 ?_
      refine eg_put fl_X9_176 dX9_tell_186 (by first | exact er202 | exact er203 | exact er204 | exact er205 | exact er206 | exact er207 | exact er208 | exact er209 | exact er210 | exact er211 | exact er212 | exact er213 | exact er214 | exact er215) rfl rfl rfl rfl ?_
      refine eg_eqM es202_6 ?_
      have j1 : va_up y3 202 (va_up (y3 202) 6 0) 202 6 = 0 := by rw [va_up_s, va_up_s]
      have j2 : ∀ j, j ≠ 6 → va_up y3 202 (va_up (y3 202) 6 0) 202 j = y3 202 j := fun j hj => by rw [va_up_s, va_up_n _ _ hj]
      have j3 : ∀ c, c ≠ 202 → va_up y3 202 (va_up (y3 202) 6 0) c = y3 c := fun c hc => va_up_n _ _ hc
      generalize va_up y3 202 (va_up (y3 202) 6 0) = y4 at j1 j2 j3 ⊢
      have n4 : nw y4 v9 := nw_c (j3 203 (by decide)) n3
      refine eg_al_n dX9_tell_189 rfl rfl ?_
      refine eg_iconst dX9_tell_190 ?_
      refine eg_Vf1 cs_X9_179 dX9_tell_191 (many_1 n4) (by first | exact er202 | exact er203 | exact er204 | exact er205 | exact er206 | exact er207 | exact er208 | exact er209 | exact er210 | exact er211 | exact er212 | exact er213 | exact er214 | exact er215) rfl (Nat.le_of_ble_eq_true rfl) (by decide) ?_
      refine eg_ireturn dX9_tell_194 rfl rfl ?_
      rw [show R_tell s = (v9 1, (v9, 0, s.2.2.1, s.2.2.2.1, s.2.2.2.2.1, 0, s.2.2.2.2.2.2)) from by unfold R_tell; rw [hE]]
      refine ⟨rfl, rfl, y4, rfl, fun c hc => by rw [j3 c (by omega), m3 c (by omega)]; exact f2 c (by omega) (by omega), nw_c (j3 203 (by decide)) n3, ⟨Nat.zero_le _, j1, fun i hi => absurd hi (Nat.not_lt_zero i)⟩, by rw [j3 207 (by decide), j3 208 (by decide), m3 207 (by decide), m3 208 (by decide), f2 207 (by decide) (by decide), f2 208 (by decide) (by decide)]; exact hI.2.2.1, Nat.zero_le _, by rw [j2 8 (by decide), m3 202 (by decide)]; exact i1, fun i hi => absurd hi (Nat.not_lt_zero i)⟩
    · refine eg_bipush dX9_tell_163 (by decide) ?_
      refine eg_al_n dX9_tell_165 rfl rfl ?_
      refine eg_get fl_X9_67 dX9_tell_166 (by first | exact er202 | exact er203 | exact er204 | exact er205 | exact er206 | exact er207 | exact er208 | exact er209 | exact er210 | exact er211 | exact er212 | exact er213 | exact er214 | exact er215) rfl ?_
      refine eg_eqI h10 ?_
      refine eg_isub dX9_tell_169 ?_
      refine eg_ireturn dX9_tell_170 rfl rfl ?_
      cases hE : TL s.2.2.2.2.2.1 s.2.2.2.2.2.2 with
      | inr v9 => exact absurd (hr9 v9 hE).1 h160
      | inl e9 =>
        have fe := hl9 e9 hE
        rw [show R_tell s = (-2 - e9, tpS s 0 s.2.2.2.2.2.2) from by unfold R_tell; rw [hE]]
        refine ⟨congrArg (fun q => some (vI q)) (by rw [mf_n h160, fe]), rfl, y2, rfl, fun c hc => f2 c (by omega) (by omega), nw_c (f2 203 (by decide) (by decide)) hN, ⟨hI.2.1.1, by rw [g2 6 (by decide) (by decide) (by decide) (by decide)]; exact hI.2.1.2.1, by rw [f2 206 (by decide) (by decide)]; exact hI.2.1.2.2⟩, by rw [f2 207 (by decide) (by decide), f2 208 (by decide) (by decide)]; exact hI.2.2.1, Nat.zero_le _, i1, fun i hi => absurd hi (Nat.not_lt_zero i)⟩
  have JF : ∀ (x e : Int) (y : eg_Z), (∀ c, c ≠ 202 → c ≠ 204 → y c = z c) → (∀ j, j ≠ 9 → j ≠ 10 → j ≠ 11 → y 202 j = z 202 j) → TL s.2.2.2.2.2.1 s.2.2.2.2.2.2 = .inl e → 0 < e ∧ e ≤ 4000 → y 202 10 = mf e → eg_E k gX9_tell 9 0 0 n (enc k y X) [vR k 202, vI x] [] 94 (eg_p k (some (vI (R_tell s).1)) n X (fun z' => FM z z' ∧ IM z' (R_tell s).2)) := by
    intro x e y hf hg hE he hF
    refine eg_al_n dX9_tell_94 rfl rfl ?_
    refine eg_Vf0 cs_X9_70 dX9_tell_95 (c_isRight hF ⟨by omega, by omega⟩) (by first | exact er202 | exact er203 | exact er204 | exact er205 | exact er206 | exact er207 | exact er208 | exact er209 | exact er210 | exact er211 | exact er212 | exact er213 | exact er214 | exact er215) rfl (Nat.le_of_ble_eq_true rfl) (by decide) ?_
    refine eg_bi_eq 127 dX9_tell_98 rfl (fun h98 => ?_) (fun h98 => absurd h98 (by omega))
    refine eg_al_n dX9_tell_127 rfl rfl ?_
    refine eg_Vf0 cs_X9_70 dX9_tell_128 (c_isRight hF ⟨by omega, by omega⟩) (by first | exact er202 | exact er203 | exact er204 | exact er205 | exact er206 | exact er207 | exact er208 | exact er209 | exact er210 | exact er211 | exact er212 | exact er213 | exact er214 | exact er215) rfl (Nat.le_of_ble_eq_true rfl) (by decide) ?_
    refine eg_bi_eq 151 dX9_tell_131 rfl (fun h131 => ?_) (fun h131 => absurd h131 (by omega))
    exact J151 x e y hf hg (by omega) (by omega) hF (fun e9 h9 => by rw [hE] at h9; injection h9) (fun v9 h9 => by rw [hE] at h9; cases h9)
  have LM : ∀ (x : Int) (mm : Nat) (m : Nat) (i : Nat) (y : eg_Z) (v : eg_v), (i ≤ s.2.2.2.2.2.1) → (∀ c, c ≠ 202 → c ≠ 204 → y c = z c) → (∀ j, j ≠ 9 → j ≠ 10 → j ≠ 11 → y 202 j = z 202 j) → (y 202 9 = (i : Int)) → (y 202 10 = mf 0) → (hr y v) → (tv v) → (s.2.2.2.2.2.1 + 1 ≤ m + i) → (TL s.2.2.2.2.2.1 s.2.2.2.2.2.2 = PL s.2.2.2.2.2.1 s.2.2.2.2.2.2 m i v) → (s.2.2.2.2.2.1 : Int) + 1 - (i : Int) < (mm : Int) → eg_E k gX9_tell 9 0 0 n (enc k y X) [vR k 202, vI x] [] 94 (eg_p k (some (vI (R_tell s).1)) n X (fun z' => FM z z' ∧ IM z' (R_tell s).2)) := by
    intro x mm
    induction mm with
    | zero => intro m i y v hi hf hg ha h10 hR ht hm hE hmm; exfalso; omega
    | succ mm ih =>
      intro m i y v hi hf hg ha h10 hR ht hm hE hmm
      have sb := sk_b (t := s.2.2.2.2.2.2) hi
      have hTy : TM y s.2.2.2.2.2.1 s.2.2.2.2.2.2 := hT.c (hg 8 (by decide) (by decide) (by decide)) (hf 209 (by decide) (by decide))
      refine eg_al_n dX9_tell_94 rfl rfl ?_
      refine eg_Vf0 cs_X9_70 dX9_tell_95 (c_isRight h10 ⟨Int.le_refl _, by decide⟩) (by first | exact er202 | exact er203 | exact er204 | exact er205 | exact er206 | exact er207 | exact er208 | exact er209 | exact er210 | exact er211 | exact er212 | exact er213 | exact er214 | exact er215) rfl (Nat.le_of_ble_eq_true rfl) (by decide) ?_
      refine eg_bi_eq 127 dX9_tell_98 rfl (fun h98 => absurd h98 (by omega)) (fun h98 => ?_)
      refine eg_al_n dX9_tell_101 rfl rfl ?_
      refine eg_Vpf0 cs_X9_74 dX9_tell_102 (c_next hTy hi ha) (by first | exact er202 | exact er203 | exact er204 | exact er205 | exact er206 | exact er207 | exact er208 | exact er209 | exact er210 | exact er211 | exact er212 | exact er213 | exact er214 | exact er215) rfl (Nat.le_of_ble_eq_true rfl) (by decide) ?_
      rintro y1 ⟨f1, g1, a1⟩
      have tb := tc_b (L := s.2.2.2.2.2.1) (t := s.2.2.2.2.2.2) (i := sk s.2.2.2.2.2.1 s.2.2.2.2.2.2 i)
      have q10 : y1 202 10 = mf 0 := (g1 10 (by decide)).trans h10
      refine eg_bipush dX9_tell_105 (by decide) ?_
      refine eg_icmp_ne 127 dX9_tell_107 ⟨by omega, by omega⟩ ⟨by omega, by omega⟩ rfl (fun h107 => ?_) (fun h107 => ?_)
      · refine eg_al_n dX9_tell_127 rfl rfl ?_
        refine eg_Vf0 cs_X9_70 dX9_tell_128 (c_isRight q10 ⟨Int.le_refl _, by decide⟩) (by first | exact er202 | exact er203 | exact er204 | exact er205 | exact er206 | exact er207 | exact er208 | exact er209 | exact er210 | exact er211 | exact er212 | exact er213 | exact er214 | exact er215) rfl (Nat.le_of_ble_eq_true rfl) (by decide) ?_
        refine eg_bi_eq 151 dX9_tell_131 rfl (fun h131 => absurd h131 (by omega)) (fun h131 => ?_)
        refine eg_al_n dX9_tell_134 rfl rfl ?_
        refine eg_Vpf0 cs_X9_74 dX9_tell_135 (c_next (hTy.c (g1 8 (by decide)) (f1 209 (by decide))) sb.2 a1) (by first | exact er202 | exact er203 | exact er204 | exact er205 | exact er206 | exact er207 | exact er208 | exact er209 | exact er210 | exact er211 | exact er212 | exact er213 | exact er214 | exact er215) rfl (Nat.le_of_ble_eq_true rfl) (by decide) ?_
        rintro y3 ⟨f3, g3, a3⟩
        rw [sk_sk hi] at a3 ⊢
        refine eg_iconst dX9_tell_138 ?_
        refine eg_icmp_eq 151 dX9_tell_139 ⟨by omega, by omega⟩ ⟨by omega, by omega⟩ rfl (fun h139 => ?_) (fun h139 => ?_)
        · have sL : s.2.2.2.2.2.1 ≤ sk s.2.2.2.2.2.1 s.2.2.2.2.2.2 i := by
            by_cases c9 : sk s.2.2.2.2.2.1 s.2.2.2.2.2.2 i < s.2.2.2.2.2.1
            · have t9 := tc_i (t := s.2.2.2.2.2.2) c9; omega
            · omega
          have eT : TL s.2.2.2.2.2.1 s.2.2.2.2.2.2 = .inr v := by rw [hE]; exact PL_e sL
          exact J151 x 0 y3 (fun c h1 h2 => (f3 c h1).trans ((f1 c h1).trans (hf c h1 h2))) (fun j x9 x10 x11 => (g3 j x9).trans ((g1 j x9).trans (hg j x9 x10 x11))) (Int.le_refl _) (by decide) ((g3 10 (by decide)).trans q10) (fun e9 h9 => by rw [eT] at h9; cases h9) (fun v9 h9 => by rw [eT] at h9; injection h9 with h9; subst h9; exact ⟨rfl, hr_c ((f3 204 (by decide)).trans (f1 204 (by decide))) hR⟩)
        · refine eg_al_n dX9_tell_142 rfl rfl ?_
          refine eg_iconst dX9_tell_143 ?_
          refine eg_al_n dX9_tell_144 rfl rfl ?_
          refine eg_get fl_X9_60 dX9_tell_145 (by first | exact er202 | exact er203 | exact er204 | exact er205 | exact er206 | exact er207 | exact er208 | exact er209 | exact er210 | exact er211 | exact er212 | exact er213 | exact er214 | exact er215) rfl ?_
          refine eg_eqI a3 ?_
          refine eg_Vpv2 cs_X9_98 dX9_tell_148 (c_fails ((g3 10 (by decide)).trans q10) ⟨Int.le_refl _, by decide⟩ (by omega)) (by first | exact er202 | exact er203 | exact er204 | exact er205 | exact er206 | exact er207 | exact er208 | exact er209 | exact er210 | exact er211 | exact er212 | exact er213 | exact er214 | exact er215) rfl (Nat.le_of_ble_eq_true rfl) (by decide) ?_
          rintro y4 ⟨f4, g4, e4⟩
          obtain ⟨m1, em⟩ : ∃ m1, m = m1 + 1 := ⟨m - 1, by omega⟩
          subst em
          have sL : sk s.2.2.2.2.2.1 s.2.2.2.2.2.2 i < s.2.2.2.2.2.1 := tc_n (t := s.2.2.2.2.2.2) h139
          have eT : TL s.2.2.2.2.2.1 s.2.2.2.2.2.2 = .inl (8 * (sk s.2.2.2.2.2.1 s.2.2.2.2.2.2 i : Int) + 1) := by rw [hE]; exact PL_no (by omega) h107
          rw [fnx_0] at e4
          exact J151 x (8 * (sk s.2.2.2.2.2.1 s.2.2.2.2.2.2 i : Int) + 1) y4 (fun c h1 h2 => (f4 c h1).trans ((f3 c h1).trans ((f1 c h1).trans (hf c h1 h2)))) (fun j x9 x10 x11 => (g4 j x10).trans ((g3 j x9).trans ((g1 j x9).trans (hg j x9 x10 x11)))) (by omega) (by omega) e4 (fun e9 h9 => by rw [eT] at h9; injection h9) (fun v9 h9 => by rw [eT] at h9; cases h9)
      · refine eg_al_n dX9_tell_110 rfl rfl ?_
        refine eg_dup dX9_tell_111 rfl ?_
        refine eg_get fl_X9_60 dX9_tell_112 (by first | exact er202 | exact er203 | exact er204 | exact er205 | exact er206 | exact er207 | exact er208 | exact er209 | exact er210 | exact er211 | exact er212 | exact er213 | exact er214 | exact er215) rfl ?_
        refine eg_iconst dX9_tell_115 ?_
        refine eg_iadd dX9_tell_116 ?_
        refine eg_put fl_X9_60 dX9_tell_117 (by first | exact er202 | exact er203 | exact er204 | exact er205 | exact er206 | exact er207 | exact er208 | exact er209 | exact er210 | exact er211 | exact er212 | exact er213 | exact er214 | exact er215) rfl rfl rfl rfl ?_
        refine eg_eqM es202_9 ?_
        have i1 : va_up y1 202 (va_up (y1 202) 9 (y1 202 9 + 1)) 202 9 = ((sk s.2.2.2.2.2.1 s.2.2.2.2.2.2 i + 1 : Nat) : Int) := by rw [va_up_s, va_up_s]; omega
        have i2 : ∀ j, j ≠ 9 → va_up y1 202 (va_up (y1 202) 9 (y1 202 9 + 1)) 202 j = y1 202 j := fun j hj => by rw [va_up_s, va_up_n _ _ hj]
        have i3 : ∀ c, c ≠ 202 → va_up y1 202 (va_up (y1 202) 9 (y1 202 9 + 1)) c = y1 c := fun c hc => va_up_n _ _ hc
        generalize va_up y1 202 (va_up (y1 202) 9 (y1 202 9 + 1)) = w1 at i1 i2 i3 ⊢
        have iL : sk s.2.2.2.2.2.1 s.2.2.2.2.2.2 i + 1 ≤ s.2.2.2.2.2.1 := tc_n (t := s.2.2.2.2.2.2) (by omega)
        have hT1 : TM w1 s.2.2.2.2.2.1 s.2.2.2.2.2.2 := hT.c (by rw [i2 8 (by decide), g1 8 (by decide), hg 8 (by decide) (by decide) (by decide)]) (by rw [i3 209 (by decide), f1 209 (by decide), hf 209 (by decide) (by decide)])
        refine eg_al_n dX9_tell_120 rfl rfl ?_
        refine eg_Vpv0 cs_X9_169 dX9_tell_121 (c_readsPart hT1 (hr_c ((i3 204 (by decide)).trans (f1 204 (by decide))) hR) ht iL i1 (by rw [i2 10 (by decide)]; exact q10)) (by first | exact er202 | exact er203 | exact er204 | exact er205 | exact er206 | exact er207 | exact er208 | exact er209 | exact er210 | exact er211 | exact er212 | exact er213 | exact er214 | exact er215) rfl (Nat.le_of_ble_eq_true rfl) (by decide) ?_
        rintro y2 ⟨⟨j2, l2, p2⟩, e2, d3, d4, d5⟩
        refine eg_goto 94 dX9_tell_124 rfl ?_
        obtain ⟨m1, em⟩ : ∃ m1, m = m1 + 1 := ⟨m - 1, by omega⟩
        subst em
        have eP := PL_59 (m := m1) (v := v) (show ¬ s.2.2.2.2.2.1 ≤ sk s.2.2.2.2.2.1 s.2.2.2.2.2.2 i by omega) h107
        have f3 : ∀ c, c ≠ 202 → c ≠ 204 → y2 c = z c := fun c h1 h2 => (d3 c h1 h2).trans ((i3 c h1).trans ((f1 c h1).trans (hf c h1 h2)))
        have g3 : ∀ j, j ≠ 9 → j ≠ 10 → j ≠ 11 → y2 202 j = z 202 j := fun j x9 x10 x11 => (d4 j x9 x10 x11).trans ((i2 j x9).trans ((g1 j x9).trans (hg j x9 x10 x11)))
        cases hPT : PT s.2.2.2.2.2.1 s.2.2.2.2.2.2 (sk s.2.2.2.2.2.1 s.2.2.2.2.2.2 i + 1) v with
        | inl e =>
          have fb := FB_PT (t := s.2.2.2.2.2.2) (v := v) hT.1 iL e hPT
          rw [hPT, ft_l] at e2
          exact JF x e y2 f3 g3 (by rw [hE, eP, hPT, bd_l]) fb e2
        | inr a =>
          have pt := PT_t ht iL hPT
          have d5a := d5 a hPT
          rw [hPT, ft_r] at e2
          exact ih m1 a.1 y2 a.2 pt.2.1 f3 g3 d5a.1 e2 d5a.2 pt.2.2 (by omega) (by rw [hE, eP, hPT, bd_r]) (by omega)
  have JS : ∀ (r at9 fa9 : Int), (∀ (x : Int) (y : eg_Z), (∀ c, c ≠ 202 → c ≠ 204 → y c = z c) → (∀ j, j ≠ 9 → j ≠ 10 → j ≠ 11 → y 202 j = z 202 j) → y 202 9 = at9 → y 202 10 = fa9 → hr y (hbV r) → eg_E k gX9_tell 9 0 0 n (enc k y X) [vR k 202, vI x] [] 94 (eg_p k (some (vI (R_tell s).1)) n X (fun z' => FM z z' ∧ IM z' (R_tell s).2))) → ∀ (y : eg_Z) (w : eg_v), (∀ c, c ≠ 202 → c ≠ 204 → y c = z c) → (∀ j, j ≠ 9 → j ≠ 10 → j ≠ 11 → y 202 j = z 202 j) → y 202 9 = at9 → y 202 10 = fa9 → hr y w → w 0 = r → (∀ j : Nat, 0 < j → j < 220 → w j = 0) → eg_E k gX9_tell 9 0 0 n (enc k y X) [vR k 202, vI 0] [] 66 (eg_p k (some (vI (R_tell s).1)) n X (fun z' => FM z z' ∧ IM z' (R_tell s).2)) := by
    intro r at9 fa9 fin y w hf hg ha h10 hR w0 wz
    have LS : ∀ (mm : Nat) (i : Int) (y : eg_Z) (w : eg_v), (0 ≤ i) → (i ≤ 7) → (∀ c, c ≠ 202 → c ≠ 204 → y c = z c) → (∀ j, j ≠ 9 → j ≠ 10 → j ≠ 11 → y 202 j = z 202 j) → (y 202 9 = at9) → (y 202 10 = fa9) → (hr y w) → (∀ j : Nat, j < 220 → w j = if j = 0 then r else if 12 ≤ j ∧ (j : Int) < 12 + 2 * i ∧ j % 2 = 0 then 9999 else 0) → 7 - i < (mm : Int) → eg_E k gX9_tell 9 0 0 n (enc k y X) [vR k 202, vI i] [] 66 (eg_p k (some (vI (R_tell s).1)) n X (fun z' => FM z z' ∧ IM z' (R_tell s).2)) := by
      intro mm
      induction mm with
      | zero => intro i y w i0 i1 hf hg ha h10 hR hw hmm; exfalso; omega
      | succ mm ih =>
        intro i y w i0 i1 hf hg ha h10 hR hw hmm
        have hF : ∀ c, c ≠ 204 → y c = y c := fun _ _ => rfl
        refine eg_iload_n dX9_tell_66 rfl ?_
        refine eg_iconst dX9_tell_67 ?_
        refine eg_iadd dX9_tell_68 ?_
        refine eg_bipush dX9_tell_69 (by decide) ?_
        refine eg_icmp_ge 94 dX9_tell_71 ⟨by omega, by omega⟩ ⟨by omega, by omega⟩ rfl (fun h71 => ?_) (fun h71 => ?_)
        · have h7 : i = 7 := by omega
          subst h7
          refine fin 7 y hf hg ha h10 (fun j hj => ?_)
          rw [hR j hj, hw j hj]
          unfold hbV
          by_cases e0 : j = 0
          · rw [if_pos e0, if_pos e0]
          · rw [if_neg e0, if_neg e0]
            by_cases e1 : 12 ≤ j ∧ (j : Int) < 12 + 2 * 7 ∧ j % 2 = 0
            · rw [if_pos e1, if_pos (by omega)]
            · rw [if_neg e1, if_neg (by omega)]
        · refine eg_al_n dX9_tell_74 rfl rfl ?_
          refine eg_get fl_X9_13 dX9_tell_75 (by first | exact er202 | exact er203 | exact er204 | exact er205 | exact er206 | exact er207 | exact er208 | exact er209 | exact er210 | exact er211 | exact er212 | exact er213 | exact er214 | exact er215) rfl ?_
          refine eg_bipush dX9_tell_78 (by decide) ?_
          refine eg_iconst dX9_tell_80 ?_
          refine eg_iload_n dX9_tell_81 rfl ?_
          refine eg_imul dX9_tell_82 ?_
          refine eg_iadd dX9_tell_83 ?_
          refine eg_ldc2 kw_X9_167 dX9_tell_84 ?_
          refine eg_hrdS dX9_tell_87 hR (by omega) (by omega) (fun y f1 hR => ?_)
          have hF := fun c hc => (f1 c hc).trans (hF c hc)
          refine eg_iinc dX9_tell_88 rfl rfl rfl ?_
          refine eg_goto 66 dX9_tell_91 rfl ?_
          refine ih (i + 1) y _ (by omega) (by omega) (fun c h1 h2 => (hF c h2).trans (hf c h1 h2)) (fun j x9 x10 x11 => by rw [hF 202 (by decide)]; exact hg j x9 x10 x11) (by rw [hF 202 (by decide)]; exact ha) (by rw [hF 202 (by decide)]; exact h10) hR (fun j hj => ?_) (by omega)
          by_cases ej : j = (12 + 2 * i).toNat
          · rw [ej, va_up_s, if_neg (by omega), if_pos (by omega)]
          · rw [va_up_n _ _ ej, hw j hj]
            by_cases e0 : j = 0
            · rw [if_pos e0, if_pos e0]
            · rw [if_neg e0, if_neg e0]
              by_cases e1 : 12 ≤ j ∧ (j : Int) < 12 + 2 * i ∧ j % 2 = 0
              · rw [if_pos e1, if_pos (by omega)]
              · rw [if_neg e1, if_neg (by omega)]
    refine LS 8 0 y w (by omega) (by omega) hf hg ha h10 hR (fun j hj => ?_) (by omega)
    by_cases e0 : j = 0
    · rw [if_pos e0, e0]; exact w0
    · rw [if_neg e0, if_neg (by omega)]; exact wz j (by omega) hj
  have J50 : ∀ (x F : Int) (i : Nat) (y : eg_Z) (w : eg_v), (∀ c, c ≠ 202 → c ≠ 204 → y c = z c) → (∀ j, j ≠ 9 → j ≠ 10 → j ≠ 11 → y 202 j = z 202 j) → 0 ≤ F → F ≤ 4000 → i ≤ s.2.2.2.2.2.1 → y 202 9 = (i : Int) → y 202 10 = mf F → hr y w → (∀ j : Nat, j < 220 → w j = 0) → (F ≠ 0 → hbR s.2.2.2.2.2.1 s.2.2.2.2.2.2 = .inl F) → (F = 0 → hbR s.2.2.2.2.2.1 s.2.2.2.2.2.2 = bd (nmR s.2.2.2.2.2.1 s.2.2.2.2.2.2 i 2 8) (fun a => .inr (a.1, hbV a.2))) → eg_E k gX9_tell 9 0 0 n (enc k y X) [vR k 202, vI x] [] 50 (eg_p k (some (vI (R_tell s).1)) n X (fun z' => FM z z' ∧ IM z' (R_tell s).2)) := by
    intro x F i y w hf hg F0 F1 hi ha hF9 hR hw hn9 hz9
    have hTy : TM y s.2.2.2.2.2.1 s.2.2.2.2.2.2 := hT.c (hg 8 (by decide) (by decide) (by decide)) (hf 209 (by decide) (by decide))
    refine eg_al_n dX9_tell_50 rfl rfl ?_
    refine eg_get fl_X9_13 dX9_tell_51 (by first | exact er202 | exact er203 | exact er204 | exact er205 | exact er206 | exact er207 | exact er208 | exact er209 | exact er210 | exact er211 | exact er212 | exact er213 | exact er214 | exact er215) rfl ?_
    refine eg_iconst dX9_tell_54 ?_
    refine eg_al_n dX9_tell_55 rfl rfl ?_
    refine eg_iconst dX9_tell_56 ?_
    refine eg_bipush dX9_tell_57 (by decide) ?_
    refine eg_Vr2 cs_X9_112 dX9_tell_59 (c_mn (lo := 2) (hi := 8) hTy hi ha hF9 ⟨F0, F1⟩ ⟨by decide, by decide⟩ ⟨by omega, by omega⟩) (by first | exact er202 | exact er203 | exact er204 | exact er205 | exact er206 | exact er207 | exact er208 | exact er209 | exact er210 | exact er211 | exact er212 | exact er213 | exact er214 | exact er215) rfl (Nat.le_of_ble_eq_true rfl) (by decide) ?_
    rintro r1 y1 ⟨q1, k1, g1, ⟨j1, l1, p1⟩, e1, s1⟩
    have q1a := q1.1; have q1b := q1.2
    have hR : hr y1 w := hr_c (k1 204 (by decide)) hR
    have hF : ∀ c, c ≠ 204 → y1 c = y1 c := fun _ _ => rfl
    have fb := fnx_b ⟨F0, F1⟩ (ft_b (t := s.2.2.2.2.2.2) (lo := 2) (hi := 8) hT.1 hi)
    refine eg_i2l dX9_tell_62 ⟨by omega, by omega⟩ ?_
    refine eg_hrdS dX9_tell_63 hR (by omega) (by omega) (fun y f1 hR => ?_)
    have hF := fun c hc => (f1 c hc).trans (hF c hc)
    refine eg_iconst dX9_tell_64 ?_
    refine eg_istore_n dX9_tell_65 rfl rfl rfl ?_
    have f5 : ∀ c, c ≠ 202 → c ≠ 204 → y c = z c := fun c h1 h2 => (hF c h2).trans ((k1 c h1).trans (hf c h1 h2))
    have g5 : ∀ j, j ≠ 9 → j ≠ 10 → j ≠ 11 → y 202 j = z 202 j := fun j x9 x10 x11 => by rw [hF 202 (by decide)]; exact (g1 j x9 x10 x11).trans (hg j x9 x10 x11)
    refine JS r1 (j1 : Int) (mf (fnx F (ftR (nmR s.2.2.2.2.2.1 s.2.2.2.2.2.2 i 2 8)))) (fun x5 y5 f5 g5 a5 b5 hR5 => ?_) y _ f5 g5 (by rw [hF 202 (by decide)]; exact p1) (by rw [hF 202 (by decide)]; exact e1) hR (va_up_s _ _ _) (fun j h0 hj => by rw [show (0 : Int).toNat = 0 from rfl, va_up_n _ _ (by omega)]; exact hw j hj)
    by_cases eF : F = 0
    · subst eF
      have hb9 := hz9 rfl
      cases hx : nmR s.2.2.2.2.2.1 s.2.2.2.2.2.2 i 2 8 with
      | inl e =>
        have ne := FB_nm (t := s.2.2.2.2.2.2) (lo := 2) (hi := 8) hT.1 hi e hx
        rw [hx, ft_l, fnx_0] at b5
        exact JF x5 e y5 f5 g5 (by unfold TL; rw [hb9, hx, bd_l, bd_l]) ne b5
      | inr a =>
        have sa := s1 a rfl hx
        have nb := nmR_r hi hx
        rw [hx, ft_r, fnx_0] at b5
        have ja : j1 = a.1 := by omega
        subst ja
        rw [sa.1] at hR5
        exact LM x5 (s.2.2.2.2.2.1 + 2) (s.2.2.2.2.2.1 + 1) a.1 y5 (hbV a.2) nb.1 f5 g5 a5 b5 hR5 (tv_hb nb.2.2) (by omega) (by unfold TL; rw [hb9, hx, bd_r, bd_r]) (by omega)
    · have hb9 := hn9 eF
      rw [fnx_n eF] at b5
      exact JF x5 F y5 f5 g5 (by unfold TL; rw [hb9, bd_l]) (by omega) b5
  have LZ : ∀ (mm : Nat) (i : Int) (y : eg_Z) (w : eg_v), (0 ≤ i) → (i ≤ 220) → (∀ c, c ≠ 202 → c ≠ 204 → y c = z c) → (∀ j, j ≠ 9 → j ≠ 10 → j ≠ 11 → y 202 j = z 202 j) → (y 202 9 = ((0 : Nat) : Int)) → (y 202 10 = mf 0) → (hr y w) → (∀ j : Nat, (j : Int) < i → w j = 0) → 220 - i < (mm : Int) → eg_E k gX9_tell 9 0 0 n (enc k y X) [vR k 202, vI i] [] 12 (eg_p k (some (vI (R_tell s).1)) n X (fun z' => FM z z' ∧ IM z' (R_tell s).2)) := by
    intro mm
    induction mm with
    | zero => intro i y w i0 i1 hf hg ha h10 hR hw hmm; exfalso; omega
    | succ mm ih =>
      intro i y w i0 i1 hf hg ha h10 hR hw hmm
      have hF : ∀ c, c ≠ 204 → y c = y c := fun _ _ => rfl
      have hTy : TM y s.2.2.2.2.2.1 s.2.2.2.2.2.2 := hT.c (hg 8 (by decide) (by decide) (by decide)) (hf 209 (by decide) (by decide))
      refine eg_iload_n dX9_tell_12 rfl ?_
      refine eg_sipush dX9_tell_13 (by decide) ?_
      refine eg_icmp_ge 32 dX9_tell_16 ⟨by omega, by omega⟩ ⟨by omega, by omega⟩ rfl (fun h16 => ?_) (fun h16 => ?_)
      · refine eg_al_n dX9_tell_32 rfl rfl ?_
        refine eg_ldcS (i := 26) rfl dX9_tell_33 ?_
        refine eg_Vpf1 cs_X9_146 dX9_tell_35 (c_takes hTy (Nat.zero_le _) ha (by decide)) (by first | exact er202 | exact er203 | exact er204 | exact er205 | exact er206 | exact er207 | exact er208 | exact er209 | exact er210 | exact er211 | exact er212 | exact er213 | exact er214 | exact er215) rfl (Nat.le_of_ble_eq_true rfl) (by decide) ?_
        rintro y1 ⟨f1, g1, a1⟩
        have f6 : ∀ c, c ≠ 202 → c ≠ 204 → y1 c = z c := fun c h1 h2 => (f1 c h1).trans (hf c h1 h2)
        have g6 : ∀ j, j ≠ 9 → j ≠ 10 → j ≠ 11 → y1 202 j = z 202 j := fun j x9 x10 x11 => (g1 j x9).trans (hg j x9 x10 x11)
        have b6 : y1 202 10 = mf 0 := (g1 10 (by decide)).trans h10
        have hR6 : hr y1 w := hr_c (f1 204 (by decide)) hR
        refine eg_bi_ne 50 dX9_tell_38 rfl (fun h38 => ?_) (fun h38 => ?_)
        · have a7 : y1 202 9 = (we s.2.2.2.2.2.1 s.2.2.2.2.2.2 0 : Int) := by rw [a1, if_pos h38]
          exact J50 i 0 (we s.2.2.2.2.2.1 s.2.2.2.2.2.2 0) y1 w f6 g6 (Int.le_refl _) (by decide) wb.2 a7 b6 hR6 (fun j hj => hw j (by omega)) (fun hh => absurd rfl hh) (fun _ => by unfold hbR; rw [if_pos (show wis s.2.2.2.2.2.1 s.2.2.2.2.2.2 (sk s.2.2.2.2.2.1 s.2.2.2.2.2.2 0) (we s.2.2.2.2.2.1 s.2.2.2.2.2.2 0) wHub = true from h38)])
        · have a7 : y1 202 9 = (sk s.2.2.2.2.2.1 s.2.2.2.2.2.2 0 : Int) := by rw [a1, if_neg h38]
          refine eg_al_n dX9_tell_41 rfl rfl ?_
          refine eg_iconst dX9_tell_42 ?_
          refine eg_al_n dX9_tell_43 rfl rfl ?_
          refine eg_get fl_X9_60 dX9_tell_44 (by first | exact er202 | exact er203 | exact er204 | exact er205 | exact er206 | exact er207 | exact er208 | exact er209 | exact er210 | exact er211 | exact er212 | exact er213 | exact er214 | exact er215) rfl ?_
          refine eg_eqI a7 ?_
          refine eg_Vpv2 cs_X9_98 dX9_tell_47 (c_fails b6 ⟨Int.le_refl _, by decide⟩ (by omega)) (by first | exact er202 | exact er203 | exact er204 | exact er205 | exact er206 | exact er207 | exact er208 | exact er209 | exact er210 | exact er211 | exact er212 | exact er213 | exact er214 | exact er215) rfl (Nat.le_of_ble_eq_true rfl) (by decide) ?_
          rintro y2 ⟨f2, g2, e2⟩
          rw [fnx_0] at e2
          exact J50 i (8 * (sk s.2.2.2.2.2.1 s.2.2.2.2.2.2 0 : Int) + 1) (sk s.2.2.2.2.2.1 s.2.2.2.2.2.2 0) y2 w (fun c h1 h2 => (f2 c h1).trans (f6 c h1 h2)) (fun j x9 x10 x11 => (g2 j x10).trans (g6 j x9 x10 x11)) (by omega) (by omega) sb.2 ((g2 9 (by decide)).trans a7) e2 (hr_c (f2 204 (by decide)) hR6) (fun j hj => hw j (by omega)) (fun _ => by unfold hbR; rw [if_neg (show ¬ wis s.2.2.2.2.2.1 s.2.2.2.2.2.2 (sk s.2.2.2.2.2.1 s.2.2.2.2.2.2 0) (we s.2.2.2.2.2.1 s.2.2.2.2.2.2 0) wHub = true from h38)]) (fun hh => absurd hh (by omega))
      · refine eg_al_n dX9_tell_19 rfl rfl ?_
        refine eg_get fl_X9_13 dX9_tell_20 (by first | exact er202 | exact er203 | exact er204 | exact er205 | exact er206 | exact er207 | exact er208 | exact er209 | exact er210 | exact er211 | exact er212 | exact er213 | exact er214 | exact er215) rfl ?_
        refine eg_iload_n dX9_tell_23 rfl ?_
        refine eg_lk0 dX9_tell_24 ?_
        refine eg_hrdS dX9_tell_25 hR (by omega) (by omega) (fun y f1 hR => ?_)
        have hF := fun c hc => (f1 c hc).trans (hF c hc)
        refine eg_iinc dX9_tell_26 rfl rfl rfl ?_
        refine eg_goto 12 dX9_tell_29 rfl ?_
        refine ih (i + 1) y _ (by omega) (by omega) (fun c h1 h2 => (hF c h2).trans (hf c h1 h2)) (fun j x9 x10 x11 => by rw [hF 202 (by decide)]; exact hg j x9 x10 x11) (by rw [hF 202 (by decide)]; exact ha) (by rw [hF 202 (by decide)]; exact h10) hR (fun j hj => ?_) (by omega)
        by_cases ej : j = i.toNat
        · rw [ej, va_up_s]
        · rw [va_up_n _ _ ej]; exact hw j (by omega)
  refine eg_al_n dX9_tell_0 rfl rfl ?_
  refine eg_iconst dX9_tell_1 ?_
  refine eg_put fl_X9_60 dX9_tell_2 (by first | exact er202 | exact er203 | exact er204 | exact er205 | exact er206 | exact er207 | exact er208 | exact er209 | exact er210 | exact er211 | exact er212 | exact er213 | exact er214 | exact er215) rfl rfl rfl rfl ?_
  refine eg_eqM es202_9 ?_
  refine eg_al_n dX9_tell_5 rfl rfl ?_
  refine eg_iconst dX9_tell_6 ?_
  refine eg_put fl_X9_67 dX9_tell_7 (by first | exact er202 | exact er203 | exact er204 | exact er205 | exact er206 | exact er207 | exact er208 | exact er209 | exact er210 | exact er211 | exact er212 | exact er213 | exact er214 | exact er215) rfl rfl rfl rfl ?_
  refine eg_eqM es202_10 ?_
  refine eg_iconst dX9_tell_10 ?_
  refine eg_istore_n dX9_tell_11 rfl rfl rfl ?_
  exact LZ 221 0 _ (va_up (va_up z 202 (va_up (z 202) 9 0)) 202 (va_up (va_up z 202 (va_up (z 202) 9 0) 202) 10 (-1)) 204) (by omega) (by omega) (fun c h1 h2 => by rw [va_up_n _ _ h1, va_up_n _ _ h1]) (fun j x9 x10 x11 => by rw [va_up_s, va_up_n _ _ x10, va_up_s, va_up_n _ _ x9]) (by rw [va_up_s, va_up_n _ _ (by decide), va_up_s, va_up_s]; rfl) (by rw [va_up_s, va_up_s]; rfl) (fun _ _ => rfl) (fun j hj => by omega) (by omega)
