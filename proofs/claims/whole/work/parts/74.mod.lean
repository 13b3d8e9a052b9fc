/-- the tape that the reference reads -/
def TM (z : eg_Z) (L : Nat) (t : Nat → Int) : Prop := L ≤ 400 ∧ (∀ i, i < L → -128 ≤ t i ∧ t i < 128) ∧ z 202 8 = (L : Int) ∧ ∀ i, i < L → z 209 i = t i
theorem TM.c {z y : eg_Z} {L : Nat} {t : Nat → Int} (h : TM z L t) (e1 : y 202 8 = z 202 8) (e2 : y 209 = z 209) : TM y L t := ⟨h.1, h.2.1, by rw [e1]; exact h.2.2.1, fun i hi => by rw [e2]; exact h.2.2.2 i hi⟩
def mf (F : Int) : Int := if F = 0 then -1 else F
theorem mf_0 : mf 0 = -1 := rfl
theorem mf_n {F : Int} (h : F ≠ 0) : mf F = F := by unfold mf; rw [if_neg h]
theorem mf_b {F : Int} (h : 0 ≤ F ∧ F ≤ 4000) : -1 ≤ mf F ∧ mf F ≤ 4000 ∧ (mf F = -1 ↔ F = 0) := by unfold mf; split <;> omega
def hr (z : eg_Z) (v : eg_v) : Prop := ∀ i : Nat, i < 220 → z 204 i = v i
theorem hr_c {z z' : eg_Z} {v : eg_v} (e : z' 204 = z 204) (h : hr z v) : hr z' v := fun i hi => by rw [e]; exact h i hi
theorem eg_hrdL {k : eg_K} {g : eg_G} {d bc bs n : Nat} {X : eg_M} {ls st : List Value} {pc : Nat} {Q : eg_Q} {y : eg_Z} {v : eg_v} {p : Int} (hd : decode g.2.1 pc = .ok (.laload, 1)) (hR : hr y v) (h0 : 0 ≤ p) (h1 : p < 220) (h : eg_E k g d bc bs n (enc k y X) ls (vL (v p.toNat) :: st) (pc + 1) Q) : eg_E k g d bc bs n (enc k y X) ls (vI p :: vR k 204 :: st) pc Q := by
  refine eg_lald hd er204 h0 h1 (by decide) ?_
  rw [hR p.toNat (by omega)]
  exact h
theorem eg_hrdS {k : eg_K} {g : eg_G} {d bc bs n : Nat} {X : eg_M} {ls st : List Value} {pc : Nat} {Q : eg_Q} {y : eg_Z} {v : eg_v} {p x : Int} (hd : decode g.2.1 pc = .ok (.lastore, 1)) (hR : hr y v) (h0 : 0 ≤ p) (h1 : p < 220) (h : ∀ y' : eg_Z, (∀ c, c ≠ 204 → y' c = y c) → hr y' (va_up v p.toNat x) → eg_E k g d bc bs n (enc k y' X) ls st (pc + 1) Q) : eg_E k g d bc bs n (enc k y X) ls (vL x :: vI p :: vR k 204 :: st) pc Q := by
  refine eg_last hd er204 h0 h1 (by decide) ?_
  refine eg_eqM es204 ?_
  refine h _ (fun c hc => va_up_n _ _ hc) (fun i hi => ?_)
  rw [va_up_s]
  by_cases e : i = p.toNat
  · rw [e, va_up_s, va_up_s]
  · rw [va_up_n _ _ e, va_up_n _ _ e]; exact hR i hi
theorem tc_raw {L : Nat} {t : Nat → Int} {i : Nat} (hi : i < L) (hb : -128 ≤ t i ∧ t i < 128) : (97 ≤ t i ∧ t i ≤ 122 ↔ lB (tc L t i) = true) ∧ ∀ c, 0 ≤ c → c < 128 → (t i = c ↔ tc L t i = c) := by
  rw [tc_i hi]
  constructor
  · unfold lB
    rw [decide_eq_true_iff]
    omega
  · intro c h0 h1
    omega
theorem we_sk {L : Nat} {t : Nat → Int} {i : Nat} (h : i ≤ L) : we L t (sk L t i) = we L t i := by unfold we; rw [sk_sk h]
theorem wis_x {L : Nat} {t : Nat → Int} {a e : Nat} {w w' : List Int} (h : wis L t a e w = true) (h' : wis L t a e w' = true) : w = w' := by
  have p := wis_t h
  have p' := wis_t h'
  have el : w.length = w'.length := by omega
  refine List.ext_getElem el (fun j h1 h2 => ?_)
  have e1 := p.2 j h1
  have e2 := p'.2 j h2
  rw [List.getD_eq_getElem?_getD, List.getElem?_eq_getElem h1, Option.getD_some] at e1
  rw [List.getD_eq_getElem?_getD, List.getElem?_eq_getElem h2, Option.getD_some] at e2
  rw [← e1, e2]
theorem c_sign {k : eg_K} {z : eg_Z} {X : eg_M} {n : Nat} {L : Nat} {t : Nat → Int} (hT : TM z L t) {i : Nat} (hi : i ≤ L) (hat : z 202 9 = (i : Int)) : eg_P k gX9_sign 0 0 0 [vR k 202] n (enc k z X) (eg_f (some (vI (tc L t i))) n (enc k z X)) := by
  refine eg_P.of (by decide) (Nat.le_of_ble_eq_true rfl) ?_
  show eg_E k gX9_sign 0 0 0 n (enc k z X) [vR k 202] [] 0 _
  have L4 := hT.1
  refine eg_al_n dX9_sign_0 rfl rfl ?_
  refine eg_get fl_X9_60 dX9_sign_1 (by first | exact er202 | exact er203 | exact er204 | exact er205 | exact er206 | exact er207 | exact er208 | exact er209 | exact er210 | exact er211 | exact er212 | exact er213 | exact er214 | exact er215) rfl ?_
  refine eg_eqI hat ?_
  refine eg_al_n dX9_sign_4 rfl rfl ?_
  refine eg_get fl_X9_52 dX9_sign_5 (by first | exact er202 | exact er203 | exact er204 | exact er205 | exact er206 | exact er207 | exact er208 | exact er209 | exact er210 | exact er211 | exact er212 | exact er213 | exact er214 | exact er215) rfl ?_
  refine eg_eqI hT.2.2.1 ?_
  refine eg_icmp_ge 27 dX9_sign_8 ⟨by omega, by omega⟩ ⟨by omega, by omega⟩ rfl (fun h8 => ?_) (fun h8 => ?_)
  · refine eg_iconst dX9_sign_27 ?_
    refine eg_ireturn dX9_sign_28 rfl rfl ?_
    exact ⟨congrArg (fun q => some (vI q)) (by unfold tc; first | (rw [if_pos (by omega)]; rfl) | rw [if_neg (by omega)]), rfl, rfl⟩
  · refine eg_al_n dX9_sign_11 rfl rfl ?_
    refine eg_get fl_X9_29 dX9_sign_12 (by first | exact er202 | exact er203 | exact er204 | exact er205 | exact er206 | exact er207 | exact er208 | exact er209 | exact er210 | exact er211 | exact er212 | exact er213 | exact er214 | exact er215) rfl ?_
    refine eg_al_n dX9_sign_15 rfl rfl ?_
    refine eg_get fl_X9_60 dX9_sign_16 (by first | exact er202 | exact er203 | exact er204 | exact er205 | exact er206 | exact er207 | exact er208 | exact er209 | exact er210 | exact er211 | exact er212 | exact er213 | exact er214 | exact er215) rfl ?_
    refine eg_eqI hat ?_
    refine eg_bald dX9_sign_19 (by first | exact er202 | exact er203 | exact er204 | exact er205 | exact er206 | exact er207 | exact er208 | exact er209 | exact er210 | exact er211 | exact er212 | exact er213 | exact er214 | exact er215) (by omega) (by omega) (by decide) ?_
    refine eg_eqI (y := t i) (by rw [Int.toNat_natCast]; exact hT.2.2.2 i (by omega)) ?_
    refine eg_sipush dX9_sign_20 (by decide) ?_
    refine eg_andM 8 dX9_sign_23 (by decide) (by decide) ?_
    refine eg_goto 28 dX9_sign_24 rfl ?_
    refine eg_ireturn dX9_sign_28 rfl rfl ?_
    exact ⟨congrArg (fun q => some (vI q)) (by unfold tc; first | (rw [if_pos (by omega)]; rfl) | rw [if_neg (by omega)]), rfl, rfl⟩
theorem c_next {k : eg_K} {z : eg_Z} {X : eg_M} {n : Nat} {L : Nat} {t : Nat → Int} (hT : TM z L t) {i : Nat} (hi : i ≤ L) (hat : z 202 9 = (i : Int)) : eg_P k gX9_next 1 0 0 [vR k 202] n (enc k z X) (eg_p k (some (vI (tc L t (sk L t i)))) n X (fun z' => (∀ c, c ≠ 202 → z' c = z c) ∧ (∀ j, j ≠ 9 → z' 202 j = z 202 j) ∧ z' 202 9 = (sk L t i : Int))) := by
  refine eg_P.of (by decide) (Nat.le_of_ble_eq_true rfl) ?_
  show eg_E k gX9_next 1 0 0 n (enc k z X) [vR k 202] [] 0 _
  have L4 := hT.1
  have L1 : ∀ (mm : Nat) (j : Nat) (y : eg_Z), (j ≤ L) → ((∀ c, c ≠ 202 → y c = z c)) → (∀ q, q ≠ 9 → y 202 q = z 202 q) → (y 202 9 = (j : Int)) → (rn bB L t j = sk L t i) → (L : Int) - (j : Int) < (mm : Int) → eg_E k gX9_next 1 0 0 n (enc k y X) [vR k 202] [] 0 (eg_p k (some (vI (tc L t (sk L t i)))) n X (fun z' => (∀ c, c ≠ 202 → z' c = z c) ∧ (∀ j, j ≠ 9 → z' 202 j = z 202 j) ∧ z' 202 9 = (sk L t i : Int))) := by
    intro mm
    induction mm with
    | zero => intro j y h1 hf hg ha hs hmm; exfalso; omega
    | succ mm ih =>
      intro j y h1 hf hg ha hs hmm
      have hTy : TM y L t := hT.c (hg 8 (by decide)) (hf 209 (by decide))
      refine eg_al_n dX9_next_0 rfl rfl ?_
      refine eg_Vf0 cs_X9_63 dX9_next_1 (c_sign hTy h1 ha) (by first | exact er202 | exact er203 | exact er204 | exact er205 | exact er206 | exact er207 | exact er208 | exact er209 | exact er210 | exact er211 | exact er212 | exact er213 | exact er214 | exact er215) rfl (Nat.le_of_ble_eq_true rfl) (by decide) ?_
      have tb := tc_b (L := L) (t := t) (i := j)
      refine eg_bipush dX9_next_4 (by decide) ?_
      refine eg_icmp_ne 22 dX9_next_6 ⟨by omega, by omega⟩ ⟨by omega, by omega⟩ rfl (fun h6 => ?_) (fun h6 => ?_)
      · refine eg_al_n dX9_next_22 rfl rfl ?_
        refine eg_Vf0 cs_X9_63 dX9_next_23 (c_sign hTy h1 ha) (by first | exact er202 | exact er203 | exact er204 | exact er205 | exact er206 | exact er207 | exact er208 | exact er209 | exact er210 | exact er211 | exact er212 | exact er213 | exact er214 | exact er215) rfl (Nat.le_of_ble_eq_true rfl) (by decide) ?_
        refine eg_ireturn dX9_next_26 rfl rfl ?_
        have ej : j = sk L t i := (rn_n (P := bB) (fun hj => fun hh => by have := of_decide_eq_true hh; omega)).symm.trans hs
        refine ⟨congrArg (fun q => some (vI q)) (by rw [ej]), rfl, y, rfl, hf, hg, ?_⟩
        rw [ha, ej]
      · refine eg_al_n dX9_next_9 rfl rfl ?_
        refine eg_dup dX9_next_10 rfl ?_
        refine eg_get fl_X9_60 dX9_next_11 (by first | exact er202 | exact er203 | exact er204 | exact er205 | exact er206 | exact er207 | exact er208 | exact er209 | exact er210 | exact er211 | exact er212 | exact er213 | exact er214 | exact er215) rfl ?_
        refine eg_eqI ha ?_
        refine eg_iconst dX9_next_14 ?_
        refine eg_iadd dX9_next_15 ?_
        refine eg_put fl_X9_60 dX9_next_16 (by first | exact er202 | exact er203 | exact er204 | exact er205 | exact er206 | exact er207 | exact er208 | exact er209 | exact er210 | exact er211 | exact er212 | exact er213 | exact er214 | exact er215) rfl rfl rfl rfl ?_
        refine eg_eqM es202_9 ?_
        refine eg_goto 0 dX9_next_19 rfl ?_
        have jL : j < L := tc_n (t := t) (by omega)
        refine ih (j + 1) _ (by omega) (fun c hc => by rw [va_up_n _ _ hc]; exact hf c hc) (fun q9 hq => by rw [va_up_s, va_up_n _ _ hq]; exact hg q9 hq) (by rw [va_up_s, va_up_s]; omega) ?_ (by omega)
        exact (rn_y jL (decide_eq_true (by omega))).symm.trans hs
  exact L1 (L + 1) i z hi (fun _ _ => rfl) (fun _ _ => rfl) hat rfl (by omega)
theorem c_isRight {k : eg_K} {z : eg_Z} {X : eg_M} {n : Nat} {F : Int} (hF : z 202 10 = mf F) (rF : 0 ≤ F ∧ F ≤ 4000) : eg_P k gX9_isRight 0 0 0 [vR k 202] n (enc k z X) (eg_f (some (vI (bi (F = 0)))) n (enc k z X)) := by
  refine eg_P.of (by decide) (Nat.le_of_ble_eq_true rfl) ?_
  show eg_E k gX9_isRight 0 0 0 n (enc k z X) [vR k 202] [] 0 _
  have mb := mf_b rF
  refine eg_al_n dX9_isRight_0 rfl rfl ?_
  refine eg_get fl_X9_67 dX9_isRight_1 (by first | exact er202 | exact er203 | exact er204 | exact er205 | exact er206 | exact er207 | exact er208 | exact er209 | exact er210 | exact er211 | exact er212 | exact er213 | exact er214 | exact er215) rfl ?_
  refine eg_eqI hF ?_
  refine eg_iconst dX9_isRight_4 ?_
  refine eg_icmp_ne 12 dX9_isRight_5 ⟨by omega, by omega⟩ ⟨by omega, by omega⟩ rfl (fun h5 => ?_) (fun h5 => ?_)
  · refine eg_iconst dX9_isRight_12 ?_
    refine eg_ireturn dX9_isRight_13 rfl (by first | rfl | exact bi_nar _ | (unfold bi; split <;> rfl)) ?_
    exact ⟨congrArg (fun q => some (vI q)) (by unfold bi; first | rw [if_pos (by omega)] | rw [if_neg (by omega)]), rfl, rfl⟩
  · refine eg_iconst dX9_isRight_8 ?_
    refine eg_goto 13 dX9_isRight_9 rfl ?_
    refine eg_ireturn dX9_isRight_13 rfl (by first | rfl | exact bi_nar _ | (unfold bi; split <;> rfl)) ?_
    exact ⟨congrArg (fun q => some (vI q)) (by unfold bi; first | rw [if_pos (by omega)] | rw [if_neg (by omega)]), rfl, rfl⟩
theorem c_fails {k : eg_K} {z : eg_Z} {X : eg_M} {n : Nat} {F p r : Int} (hF : z 202 10 = mf F) (rF : 0 ≤ F ∧ F ≤ 4000) (hpr : 0 < 8 * p + r) : eg_P k gX9_fails 1 0 0 [vR k 202, vI r, vI p] n (enc k z X) (eg_p k none n X (fun z' => (∀ c, c ≠ 202 → z' c = z c) ∧ (∀ j, j ≠ 10 → z' 202 j = z 202 j) ∧ z' 202 10 = mf (fnx F (8 * p + r)))) := by
  refine eg_P.of (by decide) (Nat.le_of_ble_eq_true rfl) ?_
  show eg_E k gX9_fails 1 0 0 n (enc k z X) [vR k 202, vI r, vI p] [] 0 _
  refine eg_al_n dX9_fails_0 rfl rfl ?_
  refine eg_Vf0 cs_X9_70 dX9_fails_1 (c_isRight hF rF) (by first | exact er202 | exact er203 | exact er204 | exact er205 | exact er206 | exact er207 | exact er208 | exact er209 | exact er210 | exact er211 | exact er212 | exact er213 | exact er214 | exact er215) rfl (Nat.le_of_ble_eq_true rfl) (by decide) ?_
  refine eg_bi_eq 17 dX9_fails_4 rfl (fun h4 => ?_) (fun h4 => ?_)
  · refine eg_return dX9_fails_17 rfl ?_
    exact ⟨rfl, rfl, z, rfl, fun _ _ => rfl, fun _ _ => rfl, by rw [fnx_n h4]; exact hF⟩
  · refine eg_al_n dX9_fails_7 rfl rfl ?_
    refine eg_bipush dX9_fails_8 (by decide) ?_
    refine eg_iload_n dX9_fails_10 rfl ?_
    refine eg_imul dX9_fails_11 ?_
    refine eg_iload_n dX9_fails_12 rfl ?_
    refine eg_iadd dX9_fails_13 ?_
    refine eg_put fl_X9_67 dX9_fails_14 (by first | exact er202 | exact er203 | exact er204 | exact er205 | exact er206 | exact er207 | exact er208 | exact er209 | exact er210 | exact er211 | exact er212 | exact er213 | exact er214 | exact er215) rfl rfl rfl rfl ?_
    refine eg_eqM es202_10 ?_
    refine eg_return dX9_fails_17 rfl ?_
    exact ⟨rfl, rfl, _, rfl, fun c hc => va_up_n _ _ hc, fun j hj => by rw [va_up_s, va_up_n _ _ hj], by rw [va_up_s, va_up_s, h4, fnx_0, mf_n (by omega)]⟩
theorem c_isWord {k : eg_K} {z : eg_Z} {X : eg_M} {n : Nat} {L : Nat} {t : Nat → Int} (hT : TM z L t) {i q : Nat} (hi : i ≤ L) (hat : z 202 9 = (i : Int)) (hq : q < 35) : eg_P k gX9_isWord 6 0 0 [vR k 202, vS k q] n (enc k z X) (eg_p k (some (vI (bi (wis L t (sk L t i) (we L t i) (eg_tx q) = true)))) n X (fun z' => (∀ c, c ≠ 202 → z' c = z c) ∧ (∀ j, j ≠ 9 → z' 202 j = z 202 j) ∧ z' 202 9 = (sk L t i : Int))) := by
  refine eg_P.of (by decide) (Nat.le_of_ble_eq_true rfl) ?_
  show eg_E k gX9_isWord 6 0 0 n (enc k z X) [vR k 202, vS k q, vU, vU, vU] [] 0 _
  have L4 := hT.1
  have sb := sk_b (t := t) hi
  have wb := we_b (t := t) hi
  have tl := (tx_b q hq).1
  have J : ∀ y : eg_Z, (∀ c, c ≠ 202 → y c = z c) → (∀ j, j ≠ 9 → y 202 j = z 202 j) → y 202 9 = (sk L t i : Int) → eg_E k gX9_isWord 6 0 0 n (enc k y X) [vR k 202, vS k q, vI 0, vU, vU] [] 7 (eg_p k (some (vI (bi (wis L t (sk L t i) (we L t i) (eg_tx q) = true)))) n X (fun z' => (∀ c, c ≠ 202 → z' c = z c) ∧ (∀ j, j ≠ 9 → z' 202 j = z 202 j) ∧ z' 202 9 = (sk L t i : Int))) := by
    intro y f1 g1 a1
    have hTy : TM y L t := hT.c (g1 8 (by decide)) (f1 209 (by decide))
    have K50 : ∀ nn : Nat, we L t i = sk L t i + nn → eg_E k gX9_isWord 6 0 0 n (enc k y X) [vR k 202, vS k q, vI (nn : Int), vU, vU] [] 50 (eg_p k (some (vI (bi (wis L t (sk L t i) (we L t i) (eg_tx q) = true)))) n X (fun z' => (∀ c, c ≠ 202 → z' c = z c) ∧ (∀ j, j ≠ 9 → z' 202 j = z 202 j) ∧ z' 202 9 = (sk L t i : Int))) := by
      intro nn en
      have LB : ∀ (mm : Nat) (j : Nat) (b : Bool), (j ≤ nn) → (b = true → nn = (eg_tx q).length) → ((nn = (eg_tx q).length ∧ ∀ x, x < (eg_tx q).length → tc L t (sk L t i + x) = (eg_tx q).getD x 0) → b = true) → (b = true → ∀ x, x < j → tc L t (sk L t i + x) = (eg_tx q).getD x 0) → (nn : Int) - (j : Int) < (mm : Int) → eg_E k gX9_isWord 6 0 0 n (enc k y X) [vR k 202, vS k q, vI (nn : Int), vI (bi (b = true)), vI (j : Int)] [] 67 (eg_p k (some (vI (bi (wis L t (sk L t i) (we L t i) (eg_tx q) = true)))) n X (fun z' => (∀ c, c ≠ 202 → z' c = z c) ∧ (∀ j, j ≠ 9 → z' 202 j = z 202 j) ∧ z' 202 9 = (sk L t i : Int))) := by
        intro mm
        induction mm with
        | zero => intro j b h1 hb hc hd hmm; exfalso; omega
        | succ mm ih =>
          intro j b h1 hb hc hd hmm
          refine eg_iload dX9_isWord_67 rfl ?_
          refine eg_iload_n dX9_isWord_69 rfl ?_
          refine eg_icmp_ge 110 dX9_isWord_70 ⟨by omega, by omega⟩ ⟨by omega, by omega⟩ rfl (fun h70 => ?_) (fun h70 => ?_)
          · refine eg_iload_n dX9_isWord_110 rfl ?_
            refine eg_ireturn dX9_isWord_111 rfl (by first | rfl | exact bi_nar _ | (unfold bi; split <;> rfl)) ?_
            have eb : (b = true) ↔ wis L t (sk L t i) (we L t i) (eg_tx q) = true := by
              constructor
              · intro hbt
                have en2 := hb hbt
                exact wis_y (by omega) (fun x hx => hd hbt x (by first | omega | (exfalso; exact h74 hbt)))
              · intro hh
                exact hc (by have w9 := wis_t hh; exact ⟨by omega, fun x hx => w9.2 x hx⟩)
            refine ⟨congrArg (fun q => some (vI q)) (bi_c eb), rfl, y, rfl, f1, g1, a1⟩
          · refine eg_iload_n dX9_isWord_73 rfl ?_
            refine eg_bi_eq 110 dX9_isWord_74 rfl (fun h74 => ?_) (fun h74 => ?_)
            · refine eg_iload_n dX9_isWord_110 rfl ?_
              refine eg_ireturn dX9_isWord_111 rfl (by first | rfl | exact bi_nar _ | (unfold bi; split <;> rfl)) ?_
              have eb : (b = true) ↔ wis L t (sk L t i) (we L t i) (eg_tx q) = true := by
                constructor
                · intro hbt
                  have en2 := hb hbt
                  exact wis_y (by omega) (fun x hx => hd hbt x (by first | omega | (exfalso; exact h74 hbt)))
                · intro hh
                  exact hc (by have w9 := wis_t hh; exact ⟨by omega, fun x hx => w9.2 x hx⟩)
              refine ⟨congrArg (fun q => some (vI q)) (bi_c eb), rfl, y, rfl, f1, g1, a1⟩
            · have rb := hT.2.1 (sk L t i + j) (by omega)
              have cb := tx_c (i := q) (j := (j : Int).toNat) hq
              have tr := (tc_raw (L := L) (t := t) (i := sk L t i + j) (by omega) rb).2 _ cb.1 cb.2
              have en2 := hb h74
              refine eg_al_n dX9_isWord_77 rfl rfl ?_
              refine eg_get fl_X9_29 dX9_isWord_78 (by first | exact er202 | exact er203 | exact er204 | exact er205 | exact er206 | exact er207 | exact er208 | exact er209 | exact er210 | exact er211 | exact er212 | exact er213 | exact er214 | exact er215) rfl ?_
              refine eg_al_n dX9_isWord_81 rfl rfl ?_
              refine eg_get fl_X9_60 dX9_isWord_82 (by first | exact er202 | exact er203 | exact er204 | exact er205 | exact er206 | exact er207 | exact er208 | exact er209 | exact er210 | exact er211 | exact er212 | exact er213 | exact er214 | exact er215) rfl ?_
              refine eg_eqI a1 ?_
              refine eg_iload dX9_isWord_85 rfl ?_
              refine eg_iadd dX9_isWord_87 ?_
              refine eg_eqI (y := ((sk L t i + j : Nat) : Int)) (by omega) ?_
              refine eg_bald dX9_isWord_88 (by first | exact er202 | exact er203 | exact er204 | exact er205 | exact er206 | exact er207 | exact er208 | exact er209 | exact er210 | exact er211 | exact er212 | exact er213 | exact er214 | exact er215) (by omega) (by omega) (by decide) ?_
              refine eg_eqI (y := t (sk L t i + j)) (by rw [Int.toNat_natCast]; exact hTy.2.2.2 _ (by omega)) ?_
              refine eg_al_n dX9_isWord_89 rfl rfl ?_
              refine eg_iload dX9_isWord_90 rfl ?_
              refine eg_VSf1 hq cs_X9_90 rfl dX9_isWord_92 (c_charAt hq (by omega) (by omega)) (Nat.le_of_ble_eq_true rfl) (by decide) ?_
              refine eg_icmp_ne 102 dX9_isWord_95 ⟨by omega, by omega⟩ ⟨by omega, by omega⟩ rfl (fun h95 => ?_) (fun h95 => ?_)
              · refine eg_iconst dX9_isWord_102 ?_
                refine eg_istore_n dX9_isWord_103 rfl rfl rfl ?_
                refine eg_iinc dX9_isWord_104 rfl rfl rfl ?_
                refine eg_goto 67 dX9_isWord_107 rfl ?_
                exact ih (j + 1) false (by omega) (fun hh => absurd hh (by decide)) (fun hh => absurd (tr.mpr (by rw [Int.toNat_natCast]; exact hh.2 j (by omega))) h95) (fun hh => absurd hh (by decide)) (by omega)
              · refine eg_iconst dX9_isWord_98 ?_
                refine eg_goto 103 dX9_isWord_99 rfl ?_
                refine eg_istore_n dX9_isWord_103 rfl rfl rfl ?_
                refine eg_iinc dX9_isWord_104 rfl rfl rfl ?_
                refine eg_goto 67 dX9_isWord_107 rfl ?_
                refine ih (j + 1) true (by omega) (fun _ => en2) (fun _ => rfl) (fun _ x hx => ?_) (by omega)
                by_cases ex : x = j
                · subst ex; have := tr.mp h95; rw [Int.toNat_natCast] at this; exact this
                · exact hd h74 x (by omega)
      refine eg_iload_n dX9_isWord_50 rfl ?_
      refine eg_al_n dX9_isWord_51 rfl rfl ?_
      refine eg_VSf0 hq cs_X9_85 rfl dX9_isWord_52 (c_length hq) (Nat.le_of_ble_eq_true rfl) (by decide) ?_
      refine eg_icmp_ne 62 dX9_isWord_55 ⟨by omega, by omega⟩ ⟨by omega, by omega⟩ rfl (fun h55 => ?_) (fun h55 => ?_)
      · refine eg_iconst dX9_isWord_62 ?_
        refine eg_istore_n dX9_isWord_63 rfl rfl rfl ?_
        refine eg_iconst dX9_isWord_64 ?_
        refine eg_istore dX9_isWord_65 rfl rfl rfl ?_
        exact LB (nn + 1) 0 false (by omega) (fun hh => absurd hh (by decide)) (fun hh => absurd (by omega) h55) (fun hh => absurd hh (by decide)) (by omega)
      · refine eg_iconst dX9_isWord_58 ?_
        refine eg_goto 63 dX9_isWord_59 rfl ?_
        refine eg_istore_n dX9_isWord_63 rfl rfl rfl ?_
        refine eg_iconst dX9_isWord_64 ?_
        refine eg_istore dX9_isWord_65 rfl rfl rfl ?_
        exact LB (nn + 1) 0 true (by omega) (fun _ => by omega) (fun _ => rfl) (fun _ x hx => absurd hx (Nat.not_lt_zero x)) (by omega)
    have L1 : ∀ (mm : Nat) (m : Nat), (sk L t i + m ≤ L) → (rn lB L t (sk L t i + m) = we L t i) → (L : Int) - ((sk L t i + m : Nat) : Int) < (mm : Int) → eg_E k gX9_isWord 6 0 0 n (enc k y X) [vR k 202, vS k q, vI (m : Int), vU, vU] [] 7 (eg_p k (some (vI (bi (wis L t (sk L t i) (we L t i) (eg_tx q) = true)))) n X (fun z' => (∀ c, c ≠ 202 → z' c = z c) ∧ (∀ j, j ≠ 9 → z' 202 j = z 202 j) ∧ z' 202 9 = (sk L t i : Int))) := by
      intro mm
      induction mm with
      | zero => intro m h1 hs hmm; exfalso; omega
      | succ mm ih =>
        intro m h1 hs hmm
        refine eg_al_n dX9_isWord_7 rfl rfl ?_
        refine eg_get fl_X9_60 dX9_isWord_8 (by first | exact er202 | exact er203 | exact er204 | exact er205 | exact er206 | exact er207 | exact er208 | exact er209 | exact er210 | exact er211 | exact er212 | exact er213 | exact er214 | exact er215) rfl ?_
        refine eg_eqI a1 ?_
        refine eg_iload_n dX9_isWord_11 rfl ?_
        refine eg_iadd dX9_isWord_12 ?_
        refine eg_al_n dX9_isWord_13 rfl rfl ?_
        refine eg_get fl_X9_52 dX9_isWord_14 (by first | exact er202 | exact er203 | exact er204 | exact er205 | exact er206 | exact er207 | exact er208 | exact er209 | exact er210 | exact er211 | exact er212 | exact er213 | exact er214 | exact er215) rfl ?_
        refine eg_eqI hTy.2.2.1 ?_
        refine eg_icmp_ge 50 dX9_isWord_17 ⟨by omega, by omega⟩ ⟨by omega, by omega⟩ rfl (fun h17 => ?_) (fun h17 => ?_)
        · exact K50 m (hs.symm.trans (rn_n (fun hj => absurd hj (by omega))))
        · have rb := hT.2.1 (sk L t i + m) (by omega)
          have tr := (tc_raw (L := L) (t := t) (i := sk L t i + m) (by omega) rb).1
          refine eg_al_n dX9_isWord_20 rfl rfl ?_
          refine eg_get fl_X9_29 dX9_isWord_21 (by first | exact er202 | exact er203 | exact er204 | exact er205 | exact er206 | exact er207 | exact er208 | exact er209 | exact er210 | exact er211 | exact er212 | exact er213 | exact er214 | exact er215) rfl ?_
          refine eg_al_n dX9_isWord_24 rfl rfl ?_
          refine eg_get fl_X9_60 dX9_isWord_25 (by first | exact er202 | exact er203 | exact er204 | exact er205 | exact er206 | exact er207 | exact er208 | exact er209 | exact er210 | exact er211 | exact er212 | exact er213 | exact er214 | exact er215) rfl ?_
          refine eg_eqI a1 ?_
          refine eg_iload_n dX9_isWord_28 rfl ?_
          refine eg_iadd dX9_isWord_29 ?_
          refine eg_eqI (y := ((sk L t i + m : Nat) : Int)) (by omega) ?_
          refine eg_bald dX9_isWord_30 (by first | exact er202 | exact er203 | exact er204 | exact er205 | exact er206 | exact er207 | exact er208 | exact er209 | exact er210 | exact er211 | exact er212 | exact er213 | exact er214 | exact er215) (by omega) (by omega) (by decide) ?_
          refine eg_eqI (y := t (sk L t i + m)) (by rw [Int.toNat_natCast]; exact hTy.2.2.2 _ (by omega)) ?_
          refine eg_i2l dX9_isWord_31 ⟨by omega, by omega⟩ ?_
          refine eg_ldc2 kw_X9_77 dX9_isWord_32 ?_
          refine eg_ldc2 kw_X9_79 dX9_isWord_35 ?_
          refine eg_Sf3 cs_X9_81 dX9_isWord_38 (c_in ⟨by omega, by omega⟩ ⟨by omega, by omega⟩ ⟨by omega, by omega⟩) (Nat.le_of_ble_eq_true rfl) (by decide) ?_
          refine eg_bi_eq 50 dX9_isWord_41 rfl (fun h41 => ?_) (fun h41 => ?_)
          · exact K50 m (hs.symm.trans (rn_n (fun _ hh => h41 (tr.mpr hh))))
          · refine eg_iinc dX9_isWord_44 rfl rfl rfl ?_
            refine eg_goto 7 dX9_isWord_47 rfl ?_
            exact ih (m + 1) (by omega) ((rn_y (by omega) (tr.mp h41)).symm.trans hs) (by omega)
    exact L1 (L + 1) 0 sb.2 rfl (by omega)
  refine eg_al_n dX9_isWord_0 rfl rfl ?_
  refine eg_Vpf0 cs_X9_74 dX9_isWord_1 (c_next hT hi hat) (by first | exact er202 | exact er203 | exact er204 | exact er205 | exact er206 | exact er207 | exact er208 | exact er209 | exact er210 | exact er211 | exact er212 | exact er213 | exact er214 | exact er215) rfl (Nat.le_of_ble_eq_true rfl) (by decide) ?_
  rintro y1 ⟨f1, g1, a1⟩
  refine eg_pop dX9_isWord_4 rfl ?_
  refine eg_iconst dX9_isWord_5 ?_
  refine eg_istore_n dX9_isWord_6 rfl rfl rfl ?_
  exact J y1 f1 g1 a1
