/-- what is left at a stop at first -/
def l0 (v : eg_v) (c : Int) : Int :=
  if c < 10 then (if c < v 1 ∧ gP v c 1 = 1 then gP v c 2 else 0)
  else if c < 17 then (if c - 10 < segs v then gS v (c - 10) 0 else 0)
  else if c < 24 then (if c - 17 < segs v then gS v (c - 17) 0 else 0)
  else if c < 34 then (if c - 24 < v 1 ∧ gP v (c - 24) 1 = 0 then gP v (c - 24) 2 else 0)
  else (if (c - 34) / 2 < v 2 then (if (c - 34) % 2 = 0 then gH v ((c - 34) / 2) 3 - gH v ((c - 34) / 2) 5 else gH v ((c - 34) / 2) 3 + gH v ((c - 34) / 2) 5) else 0)
theorem l0_b {v : eg_v} {B : Int} (hv : VV B v) (hk : PK v) {c : Int} (hc : 0 ≤ c ∧ c < 46) : 0 ≤ l0 v c ∧ l0 v c ≤ 19998 := by
  have q := hv.r.2
  unfold l0
  split
  · split
    · have := hv.P (p := c) (by omega) (by omega); unfold okP at this; omega
    · omega
  · split
    · split
      · have := hv.S (i := c - 10) (by omega) (by omega); unfold okS at this; omega
      · omega
    · split
      · split
        · have := hv.S (i := c - 17) (by omega) (by omega); unfold okS at this; omega
        · omega
      · split
        · split
          · have := hv.P (p := c - 24) (by omega) (by omega); unfold okP at this; omega
          · omega
        · split
          · have a := hk ((c - 34) / 2) (by omega) (by omega)
            have b := (hv.H (s := (c - 34) / 2) (by omega) (by omega)).2.2.2.1
            split <;> omega
          · omega
theorem Md3 {z z' : eg_Z} (h : ∀ c : Nat, (c < 25 ∨ 34 ≤ c) → z' c = z c) : MdS z z' := h
set_option maxHeartbeats 600000 in
theorem c_X4_start {k : eg_K} {z : eg_Z} {X : eg_M} {n b : Nat} {v : eg_v} {B : Int} (hb : isB b = true) (hp : hP z b v) (hv : VV B v) : eg_P k gX4_start 3 0 0 [vR k 25, vR k b] n (enc k z X) (eg_p k none n X (fun z' => MdS z z' ∧ z' 25 8 = v 3 ∧ (∀ q, q < 16 → z' 26 q = 0) ∧ (∀ q, q < 16 → z' 28 q = -2) ∧ (∀ c : Nat, c < 46 → z' 29 c = l0 v c) ∧ ∀ c : Nat, c < 46 → z' 30 c = (gm v c (v 3).toNat : Int))) := by
  refine eg_P.of (by decide) (Nat.le_of_ble_eq_true rfl) ?_
  show eg_E k gX4_start 3 0 0 n (enc k z X) [vR k 25, vR k b, vU, vU, vU] [] 0 _
  have q := hv.r.2
  have c7 := hp.2.1.2.2.2
  have L4 : ∀ (m : Nat) (i : Int) (y : eg_Z) (u u2 : Value), 0 ≤ i → i ≤ v 3 → MdS z y → y 25 8 = v 3 → (∀ q, q < 16 → y 26 q = 0) → (∀ q, q < 16 → y 28 q = -2) → (∀ c : Nat, c < 46 → y 29 c = l0 v c) → (∀ c : Nat, c < 46 → y 30 c = (gm v c i.toNat : Int)) → v 3 - i < (m : Int) → eg_E k gX4_start 3 0 0 n (enc k y X) [vR k 25, vR k b, vI i, u, u2] [] 232 (eg_p k none n X (fun z' => MdS z z' ∧ z' 25 8 = v 3 ∧ (∀ q, q < 16 → z' 26 q = 0) ∧ (∀ q, q < 16 → z' 28 q = -2) ∧ (∀ c : Nat, c < 46 → z' 29 c = l0 v c) ∧ ∀ c : Nat, c < 46 → z' 30 c = (gm v c (v 3).toNat : Int))) := by
    intro m
    induction m with
    | zero => intro i y u u2 h0 h1 hM h25 h26 h28 h29 h30 hmm; exfalso; omega
    | succ m ih =>
      intro i y u u2 h0 h1 hM h25 h26 h28 h29 h30 hmm
      obtain ⟨j, rfl⟩ : ∃ j : Nat, i = j := ⟨i.toNat, by omega⟩
      have hpy := hM.hP hb hp
      refine eg_iload_n dX4_start_232 rfl ?_
      refine eg_al_n dX4_start_233 rfl rfl ?_
      refine eg_get fl_X4_36 dX4_start_234 (by first | exact er25 | exact er26 | exact er27 | exact er28 | exact er29 | exact er30 | exact er31 | exact er32 | exact er33 | exact ep0 hb | exact ep1 hb | exact ep3 hb | exact ep5 hb | exact ep7 hb) rfl ?_
      rw [h25]
      refine eg_icmp_ge 252 dX4_start_237 ⟨by omega, by omega⟩ ⟨by omega, by omega⟩ rfl (fun h237 => ?_) (fun h237 => ?_)
      · refine eg_return dX4_start_252 rfl ?_
        have e9 : ((j : Int)).toNat = (v 3).toNat := by omega
        rw [e9] at h30
        exact ⟨rfl, rfl, y, rfl, hM, h25, h26, h28, h29, h30⟩
      · refine eg_al_n dX4_start_240 rfl rfl ?_
        refine eg_al_n dX4_start_241 rfl rfl ?_
        refine eg_iload_n dX4_start_242 rfl ?_
        refine eg_Vpv2 cs_X4_94 dX4_start_243 (c_X4_markWay hb hpy hv (j := j) (by omega) h30) (by first | exact er25 | exact er26 | exact er27 | exact er28 | exact er29 | exact er30 | exact er31 | exact er32 | exact er33 | exact ep0 hb | exact ep1 hb | exact ep3 hb | exact ep5 hb | exact ep7 hb) rfl (Nat.le_of_ble_eq_true rfl) (by decide) ?_
        rintro y1 ⟨n1, k1⟩
        refine eg_iinc dX4_start_246 rfl rfl rfl ?_
        refine eg_goto 232 dX4_start_249 rfl ?_
        refine ih ((j : Int) + 1) y1 _ _ (by omega) (by omega) (hM.tr (fun c hc => n1 c (by omega))) (by rw [n1 _ (by decide)]; exact h25) (fun q9 g => by rw [n1 _ (by decide)]; exact h26 q9 g) (fun q9 g => by rw [n1 _ (by decide)]; exact h28 q9 g) (fun c g => by rw [n1 _ (by decide)]; exact h29 c g) (fun c g => ?_) (by omega)
        rw [k1 c g]
        congr 2
  have L3 : ∀ (m : Nat) (i : Int) (y : eg_Z) (u u2 : Value), 0 ≤ i → i ≤ v 2 → MdS z y → y 25 8 = v 3 → (∀ q, q < 16 → y 26 q = 0) → (∀ q, q < 16 → y 28 q = -2) → (∀ c : Nat, c < 46 → y 29 c = (if (c : Int) < 34 + 2 * i then l0 v c else 0)) → (∀ c : Nat, c < 46 → y 30 c = 0) → v 2 - i < (m : Int) → eg_E k gX4_start 3 0 0 n (enc k y X) [vR k 25, vR k b, vI i, u, u2] [] 160 (eg_p k none n X (fun z' => MdS z z' ∧ z' 25 8 = v 3 ∧ (∀ q, q < 16 → z' 26 q = 0) ∧ (∀ q, q < 16 → z' 28 q = -2) ∧ (∀ c : Nat, c < 46 → z' 29 c = l0 v c) ∧ ∀ c : Nat, c < 46 → z' 30 c = (gm v c (v 3).toNat : Int))) := by
    intro m
    induction m with
    | zero => intro i y u u2 h0 h1 hM h25 h26 h28 h29 h30 hmm; exfalso; omega
    | succ m ih =>
      intro i y u u2 h0 h1 hM h25 h26 h28 h29 h30 hmm
      have hpy := hM.hP hb hp
      have cy := hpy.2.1.2.2.1
      refine eg_iload_n dX4_start_160 rfl ?_
      refine eg_al_n dX4_start_161 rfl rfl ?_
      refine eg_get fl_X4_91 dX4_start_162 (by first | exact er25 | exact er26 | exact er27 | exact er28 | exact er29 | exact er30 | exact er31 | exact er32 | exact er33 | exact ep0 hb | exact ep1 hb | exact ep3 hb | exact ep5 hb | exact ep7 hb) rfl ?_
      refine eg_get fl_X4_72 dX4_start_165 (by first | exact er25 | exact er26 | exact er27 | exact er28 | exact er29 | exact er30 | exact er31 | exact er32 | exact er33 | exact ep0 hb | exact ep1 hb | exact ep3 hb | exact ep5 hb | exact ep7 hb) rfl ?_
      rw [cy]
      refine eg_icmp_ge 230 dX4_start_168 ⟨by omega, by omega⟩ ⟨by omega, by omega⟩ rfl (fun h168 => ?_) (fun h168 => ?_)
      · refine eg_iconst dX4_start_230 ?_
        refine eg_istore_n dX4_start_231 rfl rfl rfl ?_
        refine L4 17 0 y _ _ (by omega) (by omega) hM h25 h26 h28 (fun c g => ?_) (fun c g => h30 c g) (by omega)
        rw [h29 c g]
        by_cases g9 : (c : Int) < 34 + 2 * i
        · rw [if_pos g9]
        · rw [if_neg g9]; unfold l0; rw [if_neg (by omega), if_neg (by omega), if_neg (by omega), if_neg (by omega), if_neg (by omega)]
      · have o1 := hv.H (s := i) h0 h168; unfold okH at o1
        refine eg_al_n dX4_start_171 rfl rfl ?_
        refine eg_get fl_X4_91 dX4_start_172 (by first | exact er25 | exact er26 | exact er27 | exact er28 | exact er29 | exact er30 | exact er31 | exact er32 | exact er33 | exact ep0 hb | exact ep1 hb | exact ep3 hb | exact ep5 hb | exact ep7 hb) rfl ?_
        refine eg_iload_n dX4_start_175 rfl ?_
        refine eg_iconst dX4_start_176 ?_
        refine eg_Vf2 cs_X4_66 dX4_start_177 (sh_at hb hpy hv h0 h168 (by omega) (by omega)) (by first | exact er25 | exact er26 | exact er27 | exact er28 | exact er29 | exact er30 | exact er31 | exact er32 | exact er33 | exact ep0 hb | exact ep1 hb | exact ep3 hb | exact ep5 hb | exact ep7 hb) rfl (Nat.le_of_ble_eq_true rfl) (by decide) ?_
        refine eg_istore_n dX4_start_180 rfl rfl rfl ?_
        refine eg_al_n dX4_start_181 rfl rfl ?_
        refine eg_get fl_X4_91 dX4_start_182 (by first | exact er25 | exact er26 | exact er27 | exact er28 | exact er29 | exact er30 | exact er31 | exact er32 | exact er33 | exact ep0 hb | exact ep1 hb | exact ep3 hb | exact ep5 hb | exact ep7 hb) rfl ?_
        refine eg_iload_n dX4_start_185 rfl ?_
        refine eg_iconst dX4_start_186 ?_
        refine eg_Vf2 cs_X4_66 dX4_start_187 (sh_at hb hpy hv h0 h168 (by omega) (by omega)) (by first | exact er25 | exact er26 | exact er27 | exact er28 | exact er29 | exact er30 | exact er31 | exact er32 | exact er33 | exact ep0 hb | exact ep1 hb | exact ep3 hb | exact ep5 hb | exact ep7 hb) rfl (Nat.le_of_ble_eq_true rfl) (by decide) ?_
        refine eg_istore dX4_start_190 rfl rfl rfl ?_
        refine eg_al_n dX4_start_192 rfl rfl ?_
        refine eg_get fl_X4_21 dX4_start_193 (by first | exact er25 | exact er26 | exact er27 | exact er28 | exact er29 | exact er30 | exact er31 | exact er32 | exact er33 | exact ep0 hb | exact ep1 hb | exact ep3 hb | exact ep5 hb | exact ep7 hb) rfl ?_
        refine eg_bipush dX4_start_196 (by decide) ?_
        refine eg_iconst dX4_start_198 ?_
        refine eg_iload_n dX4_start_199 rfl ?_
        refine eg_imul dX4_start_200 ?_
        refine eg_iadd dX4_start_201 ?_
        refine eg_iload_n dX4_start_202 rfl ?_
        refine eg_iload dX4_start_203 rfl ?_
        refine eg_isub dX4_start_205 ?_
        refine eg_iast dX4_start_206 (by first | exact er25 | exact er26 | exact er27 | exact er28 | exact er29 | exact er30 | exact er31 | exact er32 | exact er33 | exact ep0 hb | exact ep1 hb | exact ep3 hb | exact ep5 hb | exact ep7 hb) (by omega) (by omega) (by decide) ?_
        refine eg_eqM (es29) ?_
        generalize w0 : va_up y 29 _ = y0
        refine eg_al_n dX4_start_207 rfl rfl ?_
        refine eg_get fl_X4_21 dX4_start_208 (by first | exact er25 | exact er26 | exact er27 | exact er28 | exact er29 | exact er30 | exact er31 | exact er32 | exact er33 | exact ep0 hb | exact ep1 hb | exact ep3 hb | exact ep5 hb | exact ep7 hb) rfl ?_
        refine eg_bipush dX4_start_211 (by decide) ?_
        refine eg_iconst dX4_start_213 ?_
        refine eg_iload_n dX4_start_214 rfl ?_
        refine eg_imul dX4_start_215 ?_
        refine eg_iadd dX4_start_216 ?_
        refine eg_iconst dX4_start_217 ?_
        refine eg_iadd dX4_start_218 ?_
        refine eg_iload_n dX4_start_219 rfl ?_
        refine eg_iload dX4_start_220 rfl ?_
        refine eg_iadd dX4_start_222 ?_
        refine eg_iast dX4_start_223 (by first | exact er25 | exact er26 | exact er27 | exact er28 | exact er29 | exact er30 | exact er31 | exact er32 | exact er33 | exact ep0 hb | exact ep1 hb | exact ep3 hb | exact ep5 hb | exact ep7 hb) (by omega) (by omega) (by decide) ?_
        refine eg_eqM (es29) ?_
        generalize w1 : va_up y0 29 _ = y1
        refine eg_iinc dX4_start_224 rfl rfl rfl ?_
        refine eg_goto 160 dX4_start_227 rfl ?_
        refine ih (i + 1) y1 _ _ (by omega) (by omega) (hM.tr (Md3 ?_)) (by rw [← w1, va_up_n _ _ (by decide), ← w0, va_up_n _ _ (by decide)]; exact h25) (fun q9 g => by rw [← w1, va_up_n _ _ (by decide), ← w0, va_up_n _ _ (by decide)]; exact h26 q9 g) (fun q9 g => by rw [← w1, va_up_n _ _ (by decide), ← w0, va_up_n _ _ (by decide)]; exact h28 q9 g) (fun c g => ?_) (fun c g => by rw [← w1, va_up_n _ _ (by decide), ← w0, va_up_n _ _ (by decide)]; exact h30 c g) (by omega)
        · intro c hc; rw [← w1, va_up_n _ _ (by omega), ← w0, va_up_n _ _ (by omega)]
        · rw [← w1, va_up_s]
          by_cases e1 : c = (34 + 2 * i + 1).toNat
          · subst e1; rw [va_up_s, if_pos (by omega)]; unfold l0; rw [if_neg (by omega), if_neg (by omega), if_neg (by omega), if_neg (by omega), if_pos (by omega), if_neg (by omega), show (((34 + 2 * i + 1).toNat : Nat) : Int) - 34 = 2 * i + 1 by omega, show (2 * i + 1) / 2 = i by omega]
          · rw [va_up_n _ _ e1, ← w0, va_up_s]
            by_cases e2 : c = (34 + 2 * i).toNat
            · subst e2; rw [va_up_s, if_pos (by omega)]; unfold l0; rw [if_neg (by omega), if_neg (by omega), if_neg (by omega), if_neg (by omega), if_pos (by omega), if_pos (by omega), show (((34 + 2 * i).toNat : Nat) : Int) - 34 = 2 * i by omega, show (2 * i) / 2 = i by omega]
            · rw [va_up_n _ _ e2, h29 c g]
              by_cases g9 : (c : Int) < 34 + 2 * i
              · rw [if_pos g9, if_pos (by omega)]
              · rw [if_neg g9, if_neg (by omega)]
  have L2 : ∀ (m : Nat) (i : Int) (y : eg_Z) (u u2 : Value), 0 ≤ i → i ≤ segs v → MdS z y → y 25 8 = v 3 → (∀ q, q < 16 → y 26 q = 0) → (∀ q, q < 16 → y 28 q = -2) → (∀ c : Nat, c < 46 → y 29 c = (if ((c : Int) < 10 ∨ ((10 ≤ (c : Int) ∧ (c : Int) < 10 + i)) ∨ ((17 ≤ (c : Int) ∧ (c : Int) < 17 + i)) ∨ (24 ≤ (c : Int) ∧ (c : Int) < 34)) then l0 v c else 0)) → (∀ c : Nat, c < 46 → y 30 c = 0) → segs v - i < (m : Int) → eg_E k gX4_start 3 0 0 n (enc k y X) [vR k 25, vR k b, vI i, u, u2] [] 105 (eg_p k none n X (fun z' => MdS z z' ∧ z' 25 8 = v 3 ∧ (∀ q, q < 16 → z' 26 q = 0) ∧ (∀ q, q < 16 → z' 28 q = -2) ∧ (∀ c : Nat, c < 46 → z' 29 c = l0 v c) ∧ ∀ c : Nat, c < 46 → z' 30 c = (gm v c (v 3).toNat : Int))) := by
    intro m
    induction m with
    | zero => intro i y u u2 h0 h1 hM h25 h26 h28 h29 h30 hmm; exfalso; omega
    | succ m ih =>
      intro i y u u2 h0 h1 hM h25 h26 h28 h29 h30 hmm
      have hpy := hM.hP hb hp
      have cy := hpy.2.1.1
      refine eg_iload_n dX4_start_105 rfl ?_
      refine eg_al_n dX4_start_106 rfl rfl ?_
      refine eg_get fl_X4_88 dX4_start_107 (by first | exact er25 | exact er26 | exact er27 | exact er28 | exact er29 | exact er30 | exact er31 | exact er32 | exact er33 | exact ep0 hb | exact ep1 hb | exact ep3 hb | exact ep5 hb | exact ep7 hb) rfl ?_
      refine eg_get fl_X4_72 dX4_start_110 (by first | exact er25 | exact er26 | exact er27 | exact er28 | exact er29 | exact er30 | exact er31 | exact er32 | exact er33 | exact ep0 hb | exact ep1 hb | exact ep3 hb | exact ep5 hb | exact ep7 hb) rfl ?_
      rw [cy]
      refine eg_icmp_ge 158 dX4_start_113 ⟨by omega, by omega⟩ ⟨by omega, by omega⟩ rfl (fun h113 => ?_) (fun h113 => ?_)
      · refine eg_iconst dX4_start_158 ?_
        refine eg_istore_n dX4_start_159 rfl rfl rfl ?_
        refine L3 7 0 y _ _ (by omega) (by omega) hM h25 h26 h28 (fun c g => ?_) h30 (by omega)
        rw [h29 c g]
        by_cases g9 : ((c : Int) < 10 ∨ ((10 ≤ (c : Int) ∧ (c : Int) < 10 + i)) ∨ ((17 ≤ (c : Int) ∧ (c : Int) < 17 + i)) ∨ (24 ≤ (c : Int) ∧ (c : Int) < 34))
        · rw [if_pos g9, if_pos (by omega)]
        · rw [if_neg g9]
          by_cases g8 : (c : Int) < 34 + 2 * 0
          · rw [if_pos g8]; unfold l0; rw [if_neg (by omega)]; by_cases g7 : (c : Int) < 17
            · rw [if_pos g7, if_neg (by omega)]
            · rw [if_neg g7, if_pos (by omega), if_neg (by omega)]
          · rw [if_neg g8]
      · refine eg_al_n dX4_start_116 rfl rfl ?_
        refine eg_get fl_X4_21 dX4_start_117 (by first | exact er25 | exact er26 | exact er27 | exact er28 | exact er29 | exact er30 | exact er31 | exact er32 | exact er33 | exact ep0 hb | exact ep1 hb | exact ep3 hb | exact ep5 hb | exact ep7 hb) rfl ?_
        refine eg_bipush dX4_start_120 (by decide) ?_
        refine eg_iload_n dX4_start_122 rfl ?_
        refine eg_iadd dX4_start_123 ?_
        refine eg_al_n dX4_start_124 rfl rfl ?_
        refine eg_get fl_X4_88 dX4_start_125 (by first | exact er25 | exact er26 | exact er27 | exact er28 | exact er29 | exact er30 | exact er31 | exact er32 | exact er33 | exact ep0 hb | exact ep1 hb | exact ep3 hb | exact ep5 hb | exact ep7 hb) rfl ?_
        refine eg_iload_n dX4_start_128 rfl ?_
        refine eg_iconst dX4_start_129 ?_
        refine eg_Vf2 cs_X4_66 dX4_start_130 (sg_at hb hpy hv h0 h113 (by omega) (by omega)) (by first | exact er25 | exact er26 | exact er27 | exact er28 | exact er29 | exact er30 | exact er31 | exact er32 | exact er33 | exact ep0 hb | exact ep1 hb | exact ep3 hb | exact ep5 hb | exact ep7 hb) rfl (Nat.le_of_ble_eq_true rfl) (by decide) ?_
        refine eg_iast dX4_start_133 (by first | exact er25 | exact er26 | exact er27 | exact er28 | exact er29 | exact er30 | exact er31 | exact er32 | exact er33 | exact ep0 hb | exact ep1 hb | exact ep3 hb | exact ep5 hb | exact ep7 hb) (by omega) (by omega) (by decide) ?_
        refine eg_eqM (es29) ?_
        generalize w0 : va_up y 29 _ = y0
        have hp0 : hP y0 b v := by rw [← w0]; exact (mds1 (by decide)).hP hb hpy
        refine eg_al_n dX4_start_134 rfl rfl ?_
        refine eg_get fl_X4_21 dX4_start_135 (by first | exact er25 | exact er26 | exact er27 | exact er28 | exact er29 | exact er30 | exact er31 | exact er32 | exact er33 | exact ep0 hb | exact ep1 hb | exact ep3 hb | exact ep5 hb | exact ep7 hb) rfl ?_
        refine eg_bipush dX4_start_138 (by decide) ?_
        refine eg_iload_n dX4_start_140 rfl ?_
        refine eg_iadd dX4_start_141 ?_
        refine eg_al_n dX4_start_142 rfl rfl ?_
        refine eg_get fl_X4_88 dX4_start_143 (by first | exact er25 | exact er26 | exact er27 | exact er28 | exact er29 | exact er30 | exact er31 | exact er32 | exact er33 | exact ep0 hb | exact ep1 hb | exact ep3 hb | exact ep5 hb | exact ep7 hb) rfl ?_
        refine eg_iload_n dX4_start_146 rfl ?_
        refine eg_iconst dX4_start_147 ?_
        refine eg_Vf2 cs_X4_66 dX4_start_148 (sg_at hb hp0 hv h0 h113 (by omega) (by omega)) (by first | exact er25 | exact er26 | exact er27 | exact er28 | exact er29 | exact er30 | exact er31 | exact er32 | exact er33 | exact ep0 hb | exact ep1 hb | exact ep3 hb | exact ep5 hb | exact ep7 hb) rfl (Nat.le_of_ble_eq_true rfl) (by decide) ?_
        refine eg_iast dX4_start_151 (by first | exact er25 | exact er26 | exact er27 | exact er28 | exact er29 | exact er30 | exact er31 | exact er32 | exact er33 | exact ep0 hb | exact ep1 hb | exact ep3 hb | exact ep5 hb | exact ep7 hb) (by omega) (by omega) (by decide) ?_
        refine eg_eqM (es29) ?_
        generalize w1 : va_up y0 29 _ = y1
        refine eg_iinc dX4_start_152 rfl rfl rfl ?_
        refine eg_goto 105 dX4_start_155 rfl ?_
        refine ih (i + 1) y1 _ _ (by omega) (by omega) (hM.tr (Md3 ?_)) (by rw [← w1, va_up_n _ _ (by decide), ← w0, va_up_n _ _ (by decide)]; exact h25) (fun q9 g => by rw [← w1, va_up_n _ _ (by decide), ← w0, va_up_n _ _ (by decide)]; exact h26 q9 g) (fun q9 g => by rw [← w1, va_up_n _ _ (by decide), ← w0, va_up_n _ _ (by decide)]; exact h28 q9 g) (fun c g => ?_) (fun c g => by rw [← w1, va_up_n _ _ (by decide), ← w0, va_up_n _ _ (by decide)]; exact h30 c g) (by omega)
        · intro c hc; rw [← w1, va_up_n _ _ (by omega), ← w0, va_up_n _ _ (by omega)]
        · rw [← w1, va_up_s]
          by_cases e1 : c = (17 + i).toNat
          · subst e1; rw [va_up_s, if_pos (by omega)]; unfold l0; rw [if_neg (by omega), if_neg (by omega), if_pos (by omega), show (((17 + i).toNat : Nat) : Int) - 17 = i by omega, if_pos h113]
          · rw [va_up_n _ _ e1, ← w0, va_up_s]
            by_cases e2 : c = (10 + i).toNat
            · subst e2; rw [va_up_s, if_pos (by omega)]; unfold l0; rw [if_neg (by omega), if_pos (by omega), show (((10 + i).toNat : Nat) : Int) - 10 = i by omega, if_pos h113]
            · rw [va_up_n _ _ e2, h29 c g]
              by_cases g9 : ((c : Int) < 10 ∨ ((10 ≤ (c : Int) ∧ (c : Int) < 10 + i)) ∨ ((17 ≤ (c : Int) ∧ (c : Int) < 17 + i)) ∨ (24 ≤ (c : Int) ∧ (c : Int) < 34))
              · rw [if_pos g9, if_pos (by omega)]
              · rw [if_neg g9, if_neg (by omega)]
  have L1 : ∀ (m : Nat) (i : Int) (y : eg_Z) (u u2 : Value), 0 ≤ i → i ≤ v 1 → MdS z y → y 25 8 = v 3 → (∀ q, q < 16 → y 26 q = 0) → (∀ q, q < 16 → y 28 q = -2) → (∀ c : Nat, c < 46 → y 29 c = (if (((c : Int) < 10 ∧ (c : Int) < i) ∨ (24 ≤ (c : Int) ∧ (c : Int) < 34 ∧ (c : Int) < 24 + i)) then l0 v c else 0)) → (∀ c : Nat, c < 46 → y 30 c = 0) → v 1 - i < (m : Int) → eg_E k gX4_start 3 0 0 n (enc k y X) [vR k 25, vR k b, vI i, u, u2] [] 54 (eg_p k none n X (fun z' => MdS z z' ∧ z' 25 8 = v 3 ∧ (∀ q, q < 16 → z' 26 q = 0) ∧ (∀ q, q < 16 → z' 28 q = -2) ∧ (∀ c : Nat, c < 46 → z' 29 c = l0 v c) ∧ ∀ c : Nat, c < 46 → z' 30 c = (gm v c (v 3).toNat : Int))) := by
    intro m
    induction m with
    | zero => intro i y u u2 h0 h1 hM h25 h26 h28 h29 h30 hmm; exfalso; omega
    | succ m ih =>
      intro i y u u2 h0 h1 hM h25 h26 h28 h29 h30 hmm
      have hpy := hM.hP hb hp
      have cy := hpy.2.1.2.1
      refine eg_iload_n dX4_start_54 rfl ?_
      refine eg_al_n dX4_start_55 rfl rfl ?_
      refine eg_get fl_X4_81 dX4_start_56 (by first | exact er25 | exact er26 | exact er27 | exact er28 | exact er29 | exact er30 | exact er31 | exact er32 | exact er33 | exact ep0 hb | exact ep1 hb | exact ep3 hb | exact ep5 hb | exact ep7 hb) rfl ?_
      refine eg_get fl_X4_72 dX4_start_59 (by first | exact er25 | exact er26 | exact er27 | exact er28 | exact er29 | exact er30 | exact er31 | exact er32 | exact er33 | exact ep0 hb | exact ep1 hb | exact ep3 hb | exact ep5 hb | exact ep7 hb) rfl ?_
      rw [cy]
      refine eg_icmp_ge 103 dX4_start_62 ⟨by omega, by omega⟩ ⟨by omega, by omega⟩ rfl (fun h62 => ?_) (fun h62 => ?_)
      · refine eg_iconst dX4_start_103 ?_
        refine eg_istore_n dX4_start_104 rfl rfl rfl ?_
        refine L2 8 0 y _ _ (by omega) (by omega) hM h25 h26 h28 (fun c g => ?_) h30 (by omega)
        rw [h29 c g]
        by_cases g9 : (((c : Int) < 10 ∧ (c : Int) < i) ∨ (24 ≤ (c : Int) ∧ (c : Int) < 34 ∧ (c : Int) < 24 + i))
        · rw [if_pos g9, if_pos (by omega)]
        · rw [if_neg g9]
          by_cases g8 : ((c : Int) < 10 ∨ ((10 ≤ (c : Int) ∧ (c : Int) < 10 + 0)) ∨ ((17 ≤ (c : Int) ∧ (c : Int) < 17 + 0)) ∨ (24 ≤ (c : Int) ∧ (c : Int) < 34))
          · rw [if_pos g8]; unfold l0; by_cases g7 : (c : Int) < 10
            · rw [if_pos g7, if_neg (by omega)]
            · rw [if_neg g7, if_neg (by omega), if_neg (by omega), if_pos (by omega), if_neg (by omega)]
          · rw [if_neg g8]
      · have o1 := hv.P (p := i) h0 h62; unfold okP at o1
        refine eg_al_n dX4_start_65 rfl rfl ?_
        refine eg_iload_n dX4_start_66 rfl ?_
        refine eg_Vf1 cs_X4_84 dX4_start_67 (c_X2_isIn hb hpy hv ⟨by omega, by omega⟩) (by first | exact er25 | exact er26 | exact er27 | exact er28 | exact er29 | exact er30 | exact er31 | exact er32 | exact er33 | exact ep0 hb | exact ep1 hb | exact ep3 hb | exact ep5 hb | exact ep7 hb) rfl (Nat.le_of_ble_eq_true rfl) (by decide) ?_
        refine eg_bi_eq 77 dX4_start_70 rfl (fun h70 => ?_) (fun h70 => ?_)
        · refine eg_bipush dX4_start_77 (by decide) ?_
          refine eg_istore_n dX4_start_79 rfl rfl rfl ?_
          refine eg_al_n dX4_start_80 rfl rfl ?_
          refine eg_get fl_X4_21 dX4_start_81 (by first | exact er25 | exact er26 | exact er27 | exact er28 | exact er29 | exact er30 | exact er31 | exact er32 | exact er33 | exact ep0 hb | exact ep1 hb | exact ep3 hb | exact ep5 hb | exact ep7 hb) rfl ?_
          refine eg_iload_n dX4_start_84 rfl ?_
          refine eg_iload_n dX4_start_85 rfl ?_
          refine eg_iadd dX4_start_86 ?_
          refine eg_al_n dX4_start_87 rfl rfl ?_
          refine eg_get fl_X4_81 dX4_start_88 (by first | exact er25 | exact er26 | exact er27 | exact er28 | exact er29 | exact er30 | exact er31 | exact er32 | exact er33 | exact ep0 hb | exact ep1 hb | exact ep3 hb | exact ep5 hb | exact ep7 hb) rfl ?_
          refine eg_iload_n dX4_start_91 rfl ?_
          refine eg_iconst dX4_start_92 ?_
          refine eg_Vf2 cs_X4_66 dX4_start_93 (pt_at hb hpy hv h0 h62 (by omega) (by omega)) (by first | exact er25 | exact er26 | exact er27 | exact er28 | exact er29 | exact er30 | exact er31 | exact er32 | exact er33 | exact ep0 hb | exact ep1 hb | exact ep3 hb | exact ep5 hb | exact ep7 hb) rfl (Nat.le_of_ble_eq_true rfl) (by decide) ?_
          refine eg_iast dX4_start_96 (by first | exact er25 | exact er26 | exact er27 | exact er28 | exact er29 | exact er30 | exact er31 | exact er32 | exact er33 | exact ep0 hb | exact ep1 hb | exact ep3 hb | exact ep5 hb | exact ep7 hb) (by omega) (by omega) (by decide) ?_
          refine eg_eqM (es29) ?_
          generalize w1 : va_up y 29 _ = y1
          refine eg_iinc dX4_start_97 rfl rfl rfl ?_
          refine eg_goto 54 dX4_start_100 rfl ?_
          refine ih (i + 1) y1 _ _ (by omega) (by omega) (hM.tr (by rw [← w1]; exact mds1 (by decide))) (by rw [← w1, va_up_n _ _ (by decide)]; exact h25) (fun q9 g => by rw [← w1, va_up_n _ _ (by decide)]; exact h26 q9 g) (fun q9 g => by rw [← w1, va_up_n _ _ (by decide)]; exact h28 q9 g) (fun c g => ?_) (fun c g => by rw [← w1, va_up_n _ _ (by decide)]; exact h30 c g) (by omega)
          rw [← w1, va_up_s]
          by_cases e1 : c = (24 + i).toNat
          · subst e1; rw [va_up_s, if_pos (by omega)]; unfold l0; rw [if_neg (by omega), if_neg (by omega), if_neg (by omega), if_pos (by omega), show (((24 + i).toNat : Nat) : Int) - 24 = i by omega, if_pos ⟨h62, by omega⟩]
          · rw [va_up_n _ _ e1, h29 c g]
            by_cases e2 : c = (0 + i).toNat
            · subst e2; rw [if_neg (by omega), if_pos (by omega)]; unfold l0; rw [if_pos (by omega), show (((0 + i).toNat : Nat) : Int) = i by omega, if_neg (by omega)]
            · by_cases g9 : (((c : Int) < 10 ∧ (c : Int) < i) ∨ (24 ≤ (c : Int) ∧ (c : Int) < 34 ∧ (c : Int) < 24 + i))
              · rw [if_pos g9, if_pos (by omega)]
              · rw [if_neg g9, if_neg (by omega)]
        · refine eg_iconst dX4_start_73 ?_
          refine eg_goto 79 dX4_start_74 rfl ?_
          refine eg_istore_n dX4_start_79 rfl rfl rfl ?_
          refine eg_al_n dX4_start_80 rfl rfl ?_
          refine eg_get fl_X4_21 dX4_start_81 (by first | exact er25 | exact er26 | exact er27 | exact er28 | exact er29 | exact er30 | exact er31 | exact er32 | exact er33 | exact ep0 hb | exact ep1 hb | exact ep3 hb | exact ep5 hb | exact ep7 hb) rfl ?_
          refine eg_iload_n dX4_start_84 rfl ?_
          refine eg_iload_n dX4_start_85 rfl ?_
          refine eg_iadd dX4_start_86 ?_
          refine eg_al_n dX4_start_87 rfl rfl ?_
          refine eg_get fl_X4_81 dX4_start_88 (by first | exact er25 | exact er26 | exact er27 | exact er28 | exact er29 | exact er30 | exact er31 | exact er32 | exact er33 | exact ep0 hb | exact ep1 hb | exact ep3 hb | exact ep5 hb | exact ep7 hb) rfl ?_
          refine eg_iload_n dX4_start_91 rfl ?_
          refine eg_iconst dX4_start_92 ?_
          refine eg_Vf2 cs_X4_66 dX4_start_93 (pt_at hb hpy hv h0 h62 (by omega) (by omega)) (by first | exact er25 | exact er26 | exact er27 | exact er28 | exact er29 | exact er30 | exact er31 | exact er32 | exact er33 | exact ep0 hb | exact ep1 hb | exact ep3 hb | exact ep5 hb | exact ep7 hb) rfl (Nat.le_of_ble_eq_true rfl) (by decide) ?_
          refine eg_iast dX4_start_96 (by first | exact er25 | exact er26 | exact er27 | exact er28 | exact er29 | exact er30 | exact er31 | exact er32 | exact er33 | exact ep0 hb | exact ep1 hb | exact ep3 hb | exact ep5 hb | exact ep7 hb) (by omega) (by omega) (by decide) ?_
          refine eg_eqM (es29) ?_
          generalize w1 : va_up y 29 _ = y1
          refine eg_iinc dX4_start_97 rfl rfl rfl ?_
          refine eg_goto 54 dX4_start_100 rfl ?_
          refine ih (i + 1) y1 _ _ (by omega) (by omega) (hM.tr (by rw [← w1]; exact mds1 (by decide))) (by rw [← w1, va_up_n _ _ (by decide)]; exact h25) (fun q9 g => by rw [← w1, va_up_n _ _ (by decide)]; exact h26 q9 g) (fun q9 g => by rw [← w1, va_up_n _ _ (by decide)]; exact h28 q9 g) (fun c g => ?_) (fun c g => by rw [← w1, va_up_n _ _ (by decide)]; exact h30 c g) (by omega)
          rw [← w1, va_up_s]
          by_cases e1 : c = (0 + i).toNat
          · subst e1; rw [va_up_s, if_pos (by omega)]; unfold l0; rw [if_pos (by omega), show (((0 + i).toNat : Nat) : Int) = i by omega, if_pos ⟨h62, h70.2.2⟩]
          · rw [va_up_n _ _ e1, h29 c g]
            by_cases e2 : c = (24 + i).toNat
            · subst e2; rw [if_neg (by omega), if_pos (by omega)]; unfold l0; rw [if_neg (by omega), if_neg (by omega), if_neg (by omega), if_pos (by omega), show (((24 + i).toNat : Nat) : Int) - 24 = i by omega, if_neg (by omega)]
            · by_cases g9 : (((c : Int) < 10 ∧ (c : Int) < i) ∨ (24 ≤ (c : Int) ∧ (c : Int) < 34 ∧ (c : Int) < 24 + i))
              · rw [if_pos g9, if_pos (by omega)]
              · rw [if_neg g9, if_neg (by omega)]
  refine eg_al_n dX4_start_0 rfl rfl ?_
  refine eg_al_n dX4_start_1 rfl rfl ?_
  refine eg_get fl_X4_60 dX4_start_2 (by first | exact er25 | exact er26 | exact er27 | exact er28 | exact er29 | exact er30 | exact er31 | exact er32 | exact er33 | exact ep0 hb | exact ep1 hb | exact ep3 hb | exact ep5 hb | exact ep7 hb) rfl ?_
  refine eg_get fl_X4_72 dX4_start_5 (by first | exact er25 | exact er26 | exact er27 | exact er28 | exact er29 | exact er30 | exact er31 | exact er32 | exact er33 | exact ep0 hb | exact ep1 hb | exact ep3 hb | exact ep5 hb | exact ep7 hb) rfl ?_
  rw [c7]
  refine eg_put fl_X4_36 dX4_start_8 (by first | exact er25 | exact er26 | exact er27 | exact er28 | exact er29 | exact er30 | exact er31 | exact er32 | exact er33 | exact ep0 hb | exact ep1 hb | exact ep3 hb | exact ep5 hb | exact ep7 hb) rfl rfl rfl rfl ?_
  refine eg_eqM (es25) ?_
  generalize w0 : va_up z 25 _ = y0
  refine eg_al_n dX4_start_11 rfl rfl ?_
  refine eg_get fl_X4_11 dX4_start_12 (by first | exact er25 | exact er26 | exact er27 | exact er28 | exact er29 | exact er30 | exact er31 | exact er32 | exact er33 | exact ep0 hb | exact ep1 hb | exact ep3 hb | exact ep5 hb | exact ep7 hb) rfl ?_
  refine eg_iconst dX4_start_15 ?_
  refine eg_Sv2 cs_X4_75 dX4_start_16 (c_J7_fill_53178 er26 (by decide)) (Nat.le_of_ble_eq_true rfl) (by decide) ?_
  refine eg_eqM es26 ?_
  generalize w1 : va_up y0 26 _ = y1
  refine eg_al_n dX4_start_19 rfl rfl ?_
  refine eg_get fl_X4_15 dX4_start_20 (by first | exact er25 | exact er26 | exact er27 | exact er28 | exact er29 | exact er30 | exact er31 | exact er32 | exact er33 | exact ep0 hb | exact ep1 hb | exact ep3 hb | exact ep5 hb | exact ep7 hb) rfl ?_
  refine eg_iconst dX4_start_23 ?_
  refine eg_Sv2 cs_X4_75 dX4_start_24 (c_J7_fill_53178 er27 (by decide)) (Nat.le_of_ble_eq_true rfl) (by decide) ?_
  refine eg_eqM es27 ?_
  generalize w2 : va_up y1 27 _ = y2
  refine eg_al_n dX4_start_27 rfl rfl ?_
  refine eg_get fl_X4_18 dX4_start_28 (by first | exact er25 | exact er26 | exact er27 | exact er28 | exact er29 | exact er30 | exact er31 | exact er32 | exact er33 | exact ep0 hb | exact ep1 hb | exact ep3 hb | exact ep5 hb | exact ep7 hb) rfl ?_
  refine eg_bipush dX4_start_31 (by decide) ?_
  refine eg_Sv2 cs_X4_75 dX4_start_33 (c_J7_fill_53178 er28 (by decide)) (Nat.le_of_ble_eq_true rfl) (by decide) ?_
  refine eg_eqM es28 ?_
  generalize w3 : va_up y2 28 _ = y3
  refine eg_al_n dX4_start_36 rfl rfl ?_
  refine eg_get fl_X4_21 dX4_start_37 (by first | exact er25 | exact er26 | exact er27 | exact er28 | exact er29 | exact er30 | exact er31 | exact er32 | exact er33 | exact ep0 hb | exact ep1 hb | exact ep3 hb | exact ep5 hb | exact ep7 hb) rfl ?_
  refine eg_iconst dX4_start_40 ?_
  refine eg_Sv2 cs_X4_75 dX4_start_41 (c_J7_fill_53178 er29 (by decide)) (Nat.le_of_ble_eq_true rfl) (by decide) ?_
  refine eg_eqM es29 ?_
  generalize w4 : va_up y3 29 _ = y4
  refine eg_al_n dX4_start_44 rfl rfl ?_
  refine eg_get fl_X4_24 dX4_start_45 (by first | exact er25 | exact er26 | exact er27 | exact er28 | exact er29 | exact er30 | exact er31 | exact er32 | exact er33 | exact ep0 hb | exact ep1 hb | exact ep3 hb | exact ep5 hb | exact ep7 hb) rfl ?_
  refine eg_iconst dX4_start_48 ?_
  refine eg_Sv2 cs_X4_75 dX4_start_49 (c_J7_fill_53178 er30 (by decide)) (Nat.le_of_ble_eq_true rfl) (by decide) ?_
  refine eg_eqM es30 ?_
  generalize w5 : va_up y4 30 _ = y5
  refine eg_iconst dX4_start_52 ?_
  refine eg_istore_n dX4_start_53 rfl rfl rfl ?_
  refine L1 11 0 y5 _ _ (by omega) (by omega) (Md3 ?_) ?_ ?_ ?_ ?_ ?_ (by omega)
  · intro c hc; rw [← w5, va_up_n _ _ (by omega), ← w4, va_up_n _ _ (by omega), ← w3, va_up_n _ _ (by omega), ← w2, va_up_n _ _ (by omega), ← w1, va_up_n _ _ (by omega), ← w0, va_up_n _ _ (by omega)]
  · rw [← w5, va_up_n _ _ (by decide), ← w4, va_up_n _ _ (by decide), ← w3, va_up_n _ _ (by decide), ← w2, va_up_n _ _ (by decide), ← w1, va_up_n _ _ (by decide), ← w0, va_up_s, va_up_s]
  · intro q9 g; rw [← w5, va_up_n _ _ (by decide), ← w4, va_up_n _ _ (by decide), ← w3, va_up_n _ _ (by decide), ← w2, va_up_n _ _ (by decide), ← w1, va_up_s]; unfold fl_; rw [if_pos g]
  · intro q9 g; rw [← w5, va_up_n _ _ (by decide), ← w4, va_up_n _ _ (by decide), ← w3, va_up_s]; unfold fl_; rw [if_pos g]
  · intro c g; rw [← w5, va_up_n _ _ (by decide), ← w4, va_up_s]; unfold fl_; rw [if_pos g, if_neg (by omega)]
  · intro c g; rw [← w5, va_up_s]; unfold fl_; rw [if_pos g]
