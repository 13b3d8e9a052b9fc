/-- the tape that the reader reads -/
def TP (z : eg_Z) (L : Nat) (t : Nat → Int) : Prop := L ≤ 400 ∧ z 182 1 = (L : Int) ∧ ∀ i, i < L → z 183 i = t i
theorem TP.c {z y : eg_Z} {L : Nat} {t : Nat → Int} (h : TP z L t) (e1 : y 182 = z 182) (e2 : y 183 = z 183) : TP y L t := ⟨h.1, by rw [e1]; exact h.2.1, fun i hi => by rw [e2]; exact h.2.2 i hi⟩
/-- an answer that is known by what is said of it -/
def eg_r (k : eg_K) (n : Nat) (X : eg_M) (P : Int → eg_Z → Prop) : eg_Q := fun a b c => ∃ r z', a = some (vI r) ∧ b = n ∧ c = enc k z' X ∧ P r z'
theorem eg_Vr0 {k : eg_K} {g : eg_G} {d bc bs n : Nat} {M : eg_M} {ls st : List Value} {pc : Nat} {Q : eg_Q} {g' : eg_G} {idx d' n' : Nat} {X : eg_M} {P : Int → eg_Z → Prop}  {i : Nat} (hx : eg_cv g.1.cls idx g' 0) (hd : decode g.2.1 pc = .ok (.invokevirtual idx, 3)) (hp : eg_P k g' d' 0 0 (vR k i :: []) n M (eg_r k n' X P)) {ci : Nat} {fs : List Value} (hM : M i = some (oO ci fs)) (hci : vwCl[ci]?.map (fun q => q.1) = some g'.1.cls) (hst : (st.map fun v => v.category).sum ≤ 8) (hdd : d' + 1 ≤ d) (h : ∀ r z', P r z' → eg_E k g d bc bs n' (enc k z' X) ls (vI r :: st) (pc + 3) Q) : eg_E k g d bc bs n M ls (vR k i :: st) pc Q :=
  eg_Vqf0 hx hd hp hM hci hst hdd (fun _ _ _ ⟨r, z', e1, e2, e3, h'⟩ => by subst e1; subst e2; subst e3; exact h r z' h')
theorem eg_Vr1 {k : eg_K} {g : eg_G} {d bc bs n : Nat} {M : eg_M} {ls st : List Value} {pc : Nat} {Q : eg_Q} {g' : eg_G} {idx d' n' : Nat} {X : eg_M} {P : Int → eg_Z → Prop} {a0 : Value} {i : Nat} (hx : eg_cv g.1.cls idx g' 1) (hd : decode g.2.1 pc = .ok (.invokevirtual idx, 3)) (hp : eg_P k g' d' 0 0 (vR k i :: [a0]) n M (eg_r k n' X P)) {ci : Nat} {fs : List Value} (hM : M i = some (oO ci fs)) (hci : vwCl[ci]?.map (fun q => q.1) = some g'.1.cls) (hst : (st.map fun v => v.category).sum ≤ 8) (hdd : d' + 1 ≤ d) (h : ∀ r z', P r z' → eg_E k g d bc bs n' (enc k z' X) ls (vI r :: st) (pc + 3) Q) : eg_E k g d bc bs n M ls (a0 :: vR k i :: st) pc Q :=
  eg_Vqf1 hx hd hp hM hci hst hdd (fun _ _ _ ⟨r, z', e1, e2, e3, h'⟩ => by subst e1; subst e2; subst e3; exact h r z' h')
theorem eg_Vr2 {k : eg_K} {g : eg_G} {d bc bs n : Nat} {M : eg_M} {ls st : List Value} {pc : Nat} {Q : eg_Q} {g' : eg_G} {idx d' n' : Nat} {X : eg_M} {P : Int → eg_Z → Prop} {a0 a1 : Value} {i : Nat} (hx : eg_cv g.1.cls idx g' 2) (hd : decode g.2.1 pc = .ok (.invokevirtual idx, 3)) (hp : eg_P k g' d' 0 0 (vR k i :: [a0, a1]) n M (eg_r k n' X P)) {ci : Nat} {fs : List Value} (hM : M i = some (oO ci fs)) (hci : vwCl[ci]?.map (fun q => q.1) = some g'.1.cls) (hst : (st.map fun v => v.category).sum ≤ 8) (hdd : d' + 1 ≤ d) (h : ∀ r z', P r z' → eg_E k g d bc bs n' (enc k z' X) ls (vI r :: st) (pc + 3) Q) : eg_E k g d bc bs n M ls (a1 :: a0 :: vR k i :: st) pc Q :=
  eg_Vqf2 hx hd hp hM hci hst hdd (fun _ _ _ ⟨r, z', e1, e2, e3, h'⟩ => by subst e1; subst e2; subst e3; exact h r z' h')
theorem c_tat {k : eg_K} {z : eg_Z} {X : eg_M} {n : Nat} {L : Nat} {t : Nat → Int} (hT : TP z L t) {i : Nat} (hi : i ≤ 1000) : eg_P k gX6_at 0 0 0 [vR k 182, vI (i : Int)] n (enc k z X) (eg_f (some (vI (tc L t i))) n (enc k z X)) := by
  have s := c_X6_at (k := k) (X := X) (n := n) (p := (i : Int)) hT.1 hT.2.1 ⟨by omega, by omega⟩
  have e : (if 0 ≤ (i : Int) ∧ (i : Int) < L then z 183 (i : Int).toNat % 256 else -1) = tc L t i := by
    unfold tc
    by_cases c : i < L
    · rw [if_pos (by omega), if_pos c, Int.toNat_natCast, hT.2.2 i c]
    · rw [if_neg (by omega), if_neg c]
  rw [e] at s
  exact s
theorem c_skipBlanks {k : eg_K} {z : eg_Z} {X : eg_M} {n : Nat} {L : Nat} {t : Nat → Int} (hT : TP z L t) {i : Nat} (hi : i ≤ L) (hat : z 181 2 = (i : Int)) : eg_P k gX3_skipBlanks 1 0 0 [vR k 181] n (enc k z X) (eg_p k none n X (fun z' => (∀ c, c ≠ 181 → z' c = z c) ∧ (∀ j, j ≠ 2 → z' 181 j = z 181 j) ∧ z' 181 2 = (sk L t i : Int))) := by
  refine eg_P.of (by decide) (Nat.le_of_ble_eq_true rfl) ?_
  show eg_E k gX3_skipBlanks 1 0 0 n (enc k z X) [vR k 181] [] 0 _
  have L4 := hT.1
  have L1 : ∀ (mm : Nat) (j : Nat) (y : eg_Z), (j ≤ L) → ((∀ c, c ≠ 181 → y c = z c)) → (∀ q, q ≠ 2 → y 181 q = z 181 q) → (y 181 2 = (j : Int)) → (rn bB L t j = sk L t i) → (L : Int) - (j : Int) < (mm : Int) → eg_E k gX3_skipBlanks 1 0 0 n (enc k y X) [vR k 181] [] 0 (eg_p k none n X (fun z' => (∀ c, c ≠ 181 → z' c = z c) ∧ (∀ j, j ≠ 2 → z' 181 j = z 181 j) ∧ z' 181 2 = (sk L t i : Int))) := by
    intro mm
    induction mm with
    | zero => intro j y h1 hf hg ha hs hmm; exfalso; omega
    | succ mm ih =>
      intro j y h1 hf hg ha hs hmm
      have hTy : TP y L t := hT.c (hf 182 (by decide)) (hf 183 (by decide))
      refine eg_al_n dX3_skipBlanks_0 rfl rfl ?_
      refine eg_get fl_X3_25 dX3_skipBlanks_1 (by first | exact er181 | exact er182 | exact er183 | exact ep0 hb | exact ep1 hb | exact ep3 hb | exact ep5 hb | exact ep7 hb) rfl ?_
      refine eg_eqI ha ?_
      refine eg_al_n dX3_skipBlanks_4 rfl rfl ?_
      refine eg_get fl_X3_12 dX3_skipBlanks_5 (by first | exact er181 | exact er182 | exact er183 | exact ep0 hb | exact ep1 hb | exact ep3 hb | exact ep5 hb | exact ep7 hb) rfl ?_
      refine eg_get fl_X3_47 dX3_skipBlanks_8 (by first | exact er181 | exact er182 | exact er183 | exact ep0 hb | exact ep1 hb | exact ep3 hb | exact ep5 hb | exact ep7 hb) rfl ?_
      refine eg_eqI hTy.2.1 ?_
      refine eg_icmp_ge 43 dX3_skipBlanks_11 ⟨by omega, by omega⟩ ⟨by omega, by omega⟩ rfl (fun h11 => ?_) (fun h11 => ?_)
      · refine eg_return dX3_skipBlanks_43 rfl ?_
        refine ⟨rfl, rfl, y, rfl, hf, hg, ?_⟩
        rw [ha, ← hs, rn_n (fun hj => fun hh => by have := of_decide_eq_true hh; omega)]
      · have tb := tc_b (L := L) (t := t) (i := j)
        refine eg_al_n dX3_skipBlanks_14 rfl rfl ?_
        refine eg_get fl_X3_12 dX3_skipBlanks_15 (by first | exact er181 | exact er182 | exact er183 | exact ep0 hb | exact ep1 hb | exact ep3 hb | exact ep5 hb | exact ep7 hb) rfl ?_
        refine eg_al_n dX3_skipBlanks_18 rfl rfl ?_
        refine eg_get fl_X3_25 dX3_skipBlanks_19 (by first | exact er181 | exact er182 | exact er183 | exact ep0 hb | exact ep1 hb | exact ep3 hb | exact ep5 hb | exact ep7 hb) rfl ?_
        refine eg_eqI ha ?_
        refine eg_Vf1 cs_X3_56 dX3_skipBlanks_22 (c_tat hTy (by omega)) (by first | exact er181 | exact er182 | exact er183 | exact ep0 hb | exact ep1 hb | exact ep3 hb | exact ep5 hb | exact ep7 hb) rfl (Nat.le_of_ble_eq_true rfl) (by decide) ?_
        refine eg_bipush dX3_skipBlanks_25 (by decide) ?_
        refine eg_icmp_ne 43 dX3_skipBlanks_27 ⟨by omega, by omega⟩ ⟨by omega, by omega⟩ rfl (fun h27 => ?_) (fun h27 => ?_)
        · refine eg_return dX3_skipBlanks_43 rfl ?_
          refine ⟨rfl, rfl, y, rfl, hf, hg, ?_⟩
          rw [ha, ← hs, rn_n (fun hj => fun hh => by have := of_decide_eq_true hh; omega)]
        · refine eg_al_n dX3_skipBlanks_30 rfl rfl ?_
          refine eg_dup dX3_skipBlanks_31 rfl ?_
          refine eg_get fl_X3_25 dX3_skipBlanks_32 (by first | exact er181 | exact er182 | exact er183 | exact ep0 hb | exact ep1 hb | exact ep3 hb | exact ep5 hb | exact ep7 hb) rfl ?_
          refine eg_eqI ha ?_
          refine eg_iconst dX3_skipBlanks_35 ?_
          refine eg_iadd dX3_skipBlanks_36 ?_
          refine eg_put fl_X3_25 dX3_skipBlanks_37 (by first | exact er181 | exact er182 | exact er183 | exact ep0 hb | exact ep1 hb | exact ep3 hb | exact ep5 hb | exact ep7 hb) rfl rfl rfl rfl ?_
          refine eg_eqM es181_2 ?_
          refine eg_goto 0 dX3_skipBlanks_40 rfl ?_
          refine ih (j + 1) _ (by omega) (fun c hc => by rw [va_up_n _ _ hc]; exact hf c hc) (fun q9 hq => by rw [va_up_s, va_up_n _ _ hq]; exact hg q9 hq) (by rw [va_up_s, va_up_s]; omega) ?_ (by omega)
          exact (rn_y (by omega) (decide_eq_true (by omega))).symm.trans hs
  exact L1 (L + 1) i z hi (fun _ _ => rfl) (fun _ _ => rfl) hat rfl (by omega)
theorem c_readWord {k : eg_K} {z : eg_Z} {X : eg_M} {n : Nat} {L : Nat} {t : Nat → Int} (hT : TP z L t) {i : Nat} (hi : i ≤ L) (hat : z 181 2 = (i : Int)) : eg_P k gX3_readWord 2 0 0 [vR k 181] n (enc k z X) (eg_p k none n X (fun z' => (∀ c, c ≠ 181 → z' c = z c) ∧ (∀ j, j ≠ 2 → j ≠ 3 → z' 181 j = z 181 j) ∧ z' 181 3 = (sk L t i : Int) ∧ z' 181 2 = (we L t i : Int))) := by
  refine eg_P.of (by decide) (Nat.le_of_ble_eq_true rfl) ?_
  show eg_E k gX3_readWord 2 0 0 n (enc k z X) [vR k 181] [] 0 _
  have L4 := hT.1
  have L1 : ∀ (mm : Nat) (j : Nat) (y : eg_Z), (j ≤ L) → ((∀ c, c ≠ 181 → y c = z c)) → (∀ q, q ≠ 2 → q ≠ 3 → y 181 q = z 181 q) → (y 181 3 = (sk L t i : Int)) → (y 181 2 = (j : Int)) → (rn lB L t j = we L t i) → (L : Int) - (j : Int) < (mm : Int) → eg_E k gX3_readWord 2 0 0 n (enc k y X) [vR k 181] [] 12 (eg_p k none n X (fun z' => (∀ c, c ≠ 181 → z' c = z c) ∧ (∀ j, j ≠ 2 → j ≠ 3 → z' 181 j = z 181 j) ∧ z' 181 3 = (sk L t i : Int) ∧ z' 181 2 = (we L t i : Int))) := by
    intro mm
    induction mm with
    | zero => intro j y h1 hf hg hw ha hs hmm; exfalso; omega
    | succ mm ih =>
      intro j y h1 hf hg hw ha hs hmm
      have hTy : TP y L t := hT.c (hf 182 (by decide)) (hf 183 (by decide))
      refine eg_al_n dX3_readWord_12 rfl rfl ?_
      refine eg_get fl_X3_25 dX3_readWord_13 (by first | exact er181 | exact er182 | exact er183 | exact ep0 hb | exact ep1 hb | exact ep3 hb | exact ep5 hb | exact ep7 hb) rfl ?_
      refine eg_eqI ha ?_
      refine eg_al_n dX3_readWord_16 rfl rfl ?_
      refine eg_get fl_X3_12 dX3_readWord_17 (by first | exact er181 | exact er182 | exact er183 | exact ep0 hb | exact ep1 hb | exact ep3 hb | exact ep5 hb | exact ep7 hb) rfl ?_
      refine eg_get fl_X3_47 dX3_readWord_20 (by first | exact er181 | exact er182 | exact er183 | exact ep0 hb | exact ep1 hb | exact ep3 hb | exact ep5 hb | exact ep7 hb) rfl ?_
      refine eg_eqI hTy.2.1 ?_
      refine eg_icmp_ge 71 dX3_readWord_23 ⟨by omega, by omega⟩ ⟨by omega, by omega⟩ rfl (fun h23 => ?_) (fun h23 => ?_)
      · refine eg_return dX3_readWord_71 rfl ?_
        refine ⟨rfl, rfl, y, rfl, hf, hg, hw, ?_⟩
        rw [ha, ← hs, rn_n (fun hj => fun hh => by have := of_decide_eq_true hh; omega)]
      · have tb := tc_b (L := L) (t := t) (i := j)
        refine eg_al_n dX3_readWord_26 rfl rfl ?_
        refine eg_get fl_X3_12 dX3_readWord_27 (by first | exact er181 | exact er182 | exact er183 | exact ep0 hb | exact ep1 hb | exact ep3 hb | exact ep5 hb | exact ep7 hb) rfl ?_
        refine eg_al_n dX3_readWord_30 rfl rfl ?_
        refine eg_get fl_X3_25 dX3_readWord_31 (by first | exact er181 | exact er182 | exact er183 | exact ep0 hb | exact ep1 hb | exact ep3 hb | exact ep5 hb | exact ep7 hb) rfl ?_
        refine eg_eqI ha ?_
        refine eg_Vf1 cs_X3_56 dX3_readWord_34 (c_tat hTy (by omega)) (by first | exact er181 | exact er182 | exact er183 | exact ep0 hb | exact ep1 hb | exact ep3 hb | exact ep5 hb | exact ep7 hb) rfl (Nat.le_of_ble_eq_true rfl) (by decide) ?_
        refine eg_bipush dX3_readWord_37 (by decide) ?_
        refine eg_icmp_lt 71 dX3_readWord_39 ⟨by omega, by omega⟩ ⟨by omega, by omega⟩ rfl (fun h39 => ?_) (fun h39 => ?_)
        · refine eg_return dX3_readWord_71 rfl ?_
          refine ⟨rfl, rfl, y, rfl, hf, hg, hw, ?_⟩
          rw [ha, ← hs, rn_n (fun hj => fun hh => by have := of_decide_eq_true hh; omega)]
        · refine eg_al_n dX3_readWord_42 rfl rfl ?_
          refine eg_get fl_X3_12 dX3_readWord_43 (by first | exact er181 | exact er182 | exact er183 | exact ep0 hb | exact ep1 hb | exact ep3 hb | exact ep5 hb | exact ep7 hb) rfl ?_
          refine eg_al_n dX3_readWord_46 rfl rfl ?_
          refine eg_get fl_X3_25 dX3_readWord_47 (by first | exact er181 | exact er182 | exact er183 | exact ep0 hb | exact ep1 hb | exact ep3 hb | exact ep5 hb | exact ep7 hb) rfl ?_
          refine eg_eqI ha ?_
          refine eg_Vf1 cs_X3_56 dX3_readWord_50 (c_tat hTy (by omega)) (by first | exact er181 | exact er182 | exact er183 | exact ep0 hb | exact ep1 hb | exact ep3 hb | exact ep5 hb | exact ep7 hb) rfl (Nat.le_of_ble_eq_true rfl) (by decide) ?_
          refine eg_bipush dX3_readWord_53 (by decide) ?_
          refine eg_icmp_gt 71 dX3_readWord_55 ⟨by omega, by omega⟩ ⟨by omega, by omega⟩ rfl (fun h55 => ?_) (fun h55 => ?_)
          · refine eg_return dX3_readWord_71 rfl ?_
            refine ⟨rfl, rfl, y, rfl, hf, hg, hw, ?_⟩
            rw [ha, ← hs, rn_n (fun hj => fun hh => by have := of_decide_eq_true hh; omega)]
          · refine eg_al_n dX3_readWord_58 rfl rfl ?_
            refine eg_dup dX3_readWord_59 rfl ?_
            refine eg_get fl_X3_25 dX3_readWord_60 (by first | exact er181 | exact er182 | exact er183 | exact ep0 hb | exact ep1 hb | exact ep3 hb | exact ep5 hb | exact ep7 hb) rfl ?_
            refine eg_eqI ha ?_
            refine eg_iconst dX3_readWord_63 ?_
            refine eg_iadd dX3_readWord_64 ?_
            refine eg_put fl_X3_25 dX3_readWord_65 (by first | exact er181 | exact er182 | exact er183 | exact ep0 hb | exact ep1 hb | exact ep3 hb | exact ep5 hb | exact ep7 hb) rfl rfl rfl rfl ?_
            refine eg_eqM es181_2 ?_
            refine eg_goto 12 dX3_readWord_68 rfl ?_
            refine ih (j + 1) _ (by omega) (fun c hc => by rw [va_up_n _ _ hc]; exact hf c hc) (fun q9 hq h3 => by rw [va_up_s, va_up_n _ _ hq]; exact hg q9 hq h3) (by rw [va_up_s, va_up_n _ _ (by decide)]; exact hw) (by rw [va_up_s, va_up_s]; omega) ?_ (by omega)
            exact (rn_y (by omega) (decide_eq_true (by omega))).symm.trans hs
  refine eg_al_n dX3_readWord_0 rfl rfl ?_
  refine eg_Vpv0 cs_X3_44 dX3_readWord_1 (c_skipBlanks hT hi hat) (by first | exact er181 | exact er182 | exact er183 | exact ep0 hb | exact ep1 hb | exact ep3 hb | exact ep5 hb | exact ep7 hb) rfl (Nat.le_of_ble_eq_true rfl) (by decide) ?_
  rintro y1 ⟨f1, g1, a1⟩
  have sb : sk L t i ≤ L := (rn_b (P := bB) (t := t) hi).2
  refine eg_al_n dX3_readWord_4 rfl rfl ?_
  refine eg_al_n dX3_readWord_5 rfl rfl ?_
  refine eg_get fl_X3_25 dX3_readWord_6 (by first | exact er181 | exact er182 | exact er183 | exact ep0 hb | exact ep1 hb | exact ep3 hb | exact ep5 hb | exact ep7 hb) rfl ?_
  refine eg_eqI a1 ?_
  refine eg_put fl_X3_29 dX3_readWord_9 (by first | exact er181 | exact er182 | exact er183 | exact ep0 hb | exact ep1 hb | exact ep3 hb | exact ep5 hb | exact ep7 hb) rfl rfl rfl rfl ?_
  refine eg_eqM es181_3 ?_
  exact L1 (L + 1) (sk L t i) _ sb (fun c hc => by rw [va_up_n _ _ hc]; exact f1 c hc) (fun q9 h2 h3 => by rw [va_up_s, va_up_n _ _ h3]; exact g1 q9 h2) (by rw [va_up_s, va_up_s]) (by rw [va_up_s, va_up_n _ _ (by decide)]; exact a1) rfl (by omega)
theorem c_wordIs {k : eg_K} {z : eg_Z} {X : eg_M} {n : Nat} {L : Nat} {t : Nat → Int} (hT : TP z L t) {a e q : Nat} (hw : z 181 3 = (a : Int)) (he : z 181 2 = (e : Int)) (hae : a ≤ e) (heL : e ≤ L) (hq : q < 35) : eg_P k gX3_wordIs 6 0 0 [vR k 181, vS k q] n (enc k z X) (eg_f (some (vI (bi (wis L t a e (eg_tx q) = true)))) n (enc k z X)) := by
  refine eg_P.of (by decide) (Nat.le_of_ble_eq_true rfl) ?_
  show eg_E k gX3_wordIs 6 0 0 n (enc k z X) [vR k 181, vS k q, vU] [] 0 _
  have L4 := hT.1
  have tl := (tx_b q hq).1
  have L1 : e = a + (eg_tx q).length → ∀ (mm : Nat) (i : Nat), (i ≤ (eg_tx q).length) → (∀ j, j < i → tc L t (a + j) = (eg_tx q).getD j 0) → ((eg_tx q).length : Int) - (i : Int) < (mm : Int) → eg_E k gX3_wordIs 6 0 0 n (enc k z X) [vR k 181, vS k q, vI (i : Int)] [] 20 (eg_f (some (vI (bi (wis L t a e (eg_tx q) = true)))) n (enc k z X)) := by
    intro he9 mm
    induction mm with
    | zero => intro i h1 hm hmm; exfalso; omega
    | succ mm ih =>
      intro i h1 hm hmm
      refine eg_iload_n dX3_wordIs_20 rfl ?_
      refine eg_al_n dX3_wordIs_21 rfl rfl ?_
      refine eg_VSf0 hq cs_X3_59 rfl dX3_wordIs_22 (c_length hq) (Nat.le_of_ble_eq_true rfl) (by decide) ?_
      refine eg_icmp_ge 57 dX3_wordIs_25 ⟨by omega, by omega⟩ ⟨by omega, by omega⟩ rfl (fun h25 => ?_) (fun h25 => ?_)
      · refine eg_iconst dX3_wordIs_57 ?_
        refine eg_ireturn dX3_wordIs_58 rfl (by first | rfl | exact bi_nar _ | (unfold bi; split <;> rfl)) ?_
        refine ⟨congrArg (fun q => some (vI q)) ?_, rfl, rfl⟩
        unfold bi
        rw [if_pos (wis_y he9 (fun j hj => hm j (by omega)))]
      · have tb := tc_b (L := L) (t := t) (i := a + i)
        have cb := tx_c (i := q) (j := (i : Int).toNat) hq
        refine eg_al_n dX3_wordIs_28 rfl rfl ?_
        refine eg_get fl_X3_12 dX3_wordIs_29 (by first | exact er181 | exact er182 | exact er183 | exact ep0 hb | exact ep1 hb | exact ep3 hb | exact ep5 hb | exact ep7 hb) rfl ?_
        refine eg_al_n dX3_wordIs_32 rfl rfl ?_
        refine eg_get fl_X3_29 dX3_wordIs_33 (by first | exact er181 | exact er182 | exact er183 | exact ep0 hb | exact ep1 hb | exact ep3 hb | exact ep5 hb | exact ep7 hb) rfl ?_
        refine eg_eqI hw ?_
        refine eg_iload_n dX3_wordIs_36 rfl ?_
        refine eg_iadd dX3_wordIs_37 ?_
        refine eg_eqI (y := ((a + i : Nat) : Int)) (by omega) ?_
        refine eg_Vf1 cs_X3_56 dX3_wordIs_38 (c_tat hT (by omega)) (by first | exact er181 | exact er182 | exact er183 | exact ep0 hb | exact ep1 hb | exact ep3 hb | exact ep5 hb | exact ep7 hb) rfl (Nat.le_of_ble_eq_true rfl) (by decide) ?_
        refine eg_al_n dX3_wordIs_41 rfl rfl ?_
        refine eg_iload_n dX3_wordIs_42 rfl ?_
        refine eg_VSf1 hq cs_X3_64 rfl dX3_wordIs_43 (c_charAt hq (by omega) (by omega)) (Nat.le_of_ble_eq_true rfl) (by decide) ?_
        refine eg_icmp_eq 51 dX3_wordIs_46 ⟨by omega, by omega⟩ ⟨by omega, by omega⟩ rfl (fun h46 => ?_) (fun h46 => ?_)
        · refine eg_iinc dX3_wordIs_51 rfl rfl rfl ?_
          refine eg_goto 20 dX3_wordIs_54 rfl ?_
          refine ih (i + 1) (by omega) (fun j hj => ?_) (by omega)
          by_cases e9 : j = i
          · subst e9; have := h46; rw [Int.toNat_natCast] at this; exact this
          · exact hm j (by omega)
        · refine eg_iconst dX3_wordIs_49 ?_
          refine eg_ireturn dX3_wordIs_50 rfl (by first | rfl | exact bi_nar _ | (unfold bi; split <;> rfl)) ?_
          refine ⟨congrArg (fun q => some (vI q)) ?_, rfl, rfl⟩
          unfold bi
          rw [if_neg (fun hh => by have w9 := wis_t hh; have w8 := w9.2 i (by omega); apply h46; rw [Int.toNat_natCast]; exact w8)]
  refine eg_al_n dX3_wordIs_0 rfl rfl ?_
  refine eg_get fl_X3_25 dX3_wordIs_1 (by first | exact er181 | exact er182 | exact er183 | exact ep0 hb | exact ep1 hb | exact ep3 hb | exact ep5 hb | exact ep7 hb) rfl ?_
  refine eg_eqI he ?_
  refine eg_al_n dX3_wordIs_4 rfl rfl ?_
  refine eg_get fl_X3_29 dX3_wordIs_5 (by first | exact er181 | exact er182 | exact er183 | exact ep0 hb | exact ep1 hb | exact ep3 hb | exact ep5 hb | exact ep7 hb) rfl ?_
  refine eg_eqI hw ?_
  refine eg_isub dX3_wordIs_8 ?_
  refine eg_al_n dX3_wordIs_9 rfl rfl ?_
  refine eg_VSf0 hq cs_X3_59 rfl dX3_wordIs_10 (c_length hq) (Nat.le_of_ble_eq_true rfl) (by decide) ?_
  refine eg_icmp_eq 18 dX3_wordIs_13 ⟨by omega, by omega⟩ ⟨by omega, by omega⟩ rfl (fun h13 => ?_) (fun h13 => ?_)
  · refine eg_iconst dX3_wordIs_18 ?_
    refine eg_istore_n dX3_wordIs_19 rfl rfl rfl ?_
    exact L1 (by omega) 10 0 (by omega) (fun j hj => absurd hj (Nat.not_lt_zero j)) (by omega)
  · refine eg_iconst dX3_wordIs_16 ?_
    refine eg_ireturn dX3_wordIs_17 rfl (by first | rfl | exact bi_nar _ | (unfold bi; split <;> rfl)) ?_
    refine ⟨congrArg (fun q => some (vI q)) ?_, rfl, rfl⟩
    unfold bi
    rw [if_neg (fun hh => by have w9 := wis_t hh; omega)]
theorem c_isDigit {k : eg_K} {M : eg_M} {n : Nat} {x : Int} (hx : iR x) : eg_P k gX3_isDigit 0 0 0 [vI x] n (M) (eg_f (some (vI (bi (dB x = true)))) n (M)) := by
  refine eg_P.of (by decide) (Nat.le_of_ble_eq_true rfl) ?_
  show eg_E k gX3_isDigit 0 0 0 n (M) [vI x] [] 0 _
  have hx1 := hx.1; have hx2 := hx.2
  refine eg_iload_n dX3_isDigit_0 rfl ?_
  refine eg_bipush dX3_isDigit_1 (by decide) ?_
  refine eg_icmp_lt 16 dX3_isDigit_3 ⟨by omega, by omega⟩ ⟨by omega, by omega⟩ rfl (fun h3 => ?_) (fun h3 => ?_)
  · refine eg_iconst dX3_isDigit_16 ?_
    refine eg_ireturn dX3_isDigit_17 rfl rfl ?_
    exact ⟨congrArg (fun q => some (vI q)) (by unfold bi dB; first | rw [if_pos (decide_eq_true (by omega))] | rw [if_neg (fun hh => by have := of_decide_eq_true hh; omega)]), rfl, rfl⟩
  · refine eg_iload_n dX3_isDigit_6 rfl ?_
    refine eg_bipush dX3_isDigit_7 (by decide) ?_
    refine eg_icmp_gt 16 dX3_isDigit_9 ⟨by omega, by omega⟩ ⟨by omega, by omega⟩ rfl (fun h9 => ?_) (fun h9 => ?_)
    · refine eg_iconst dX3_isDigit_16 ?_
      refine eg_ireturn dX3_isDigit_17 rfl rfl ?_
      exact ⟨congrArg (fun q => some (vI q)) (by unfold bi dB; first | rw [if_pos (decide_eq_true (by omega))] | rw [if_neg (fun hh => by have := of_decide_eq_true hh; omega)]), rfl, rfl⟩
    · refine eg_iconst dX3_isDigit_12 ?_
      refine eg_goto 17 dX3_isDigit_13 rfl ?_
      refine eg_ireturn dX3_isDigit_17 rfl rfl ?_
      exact ⟨congrArg (fun q => some (vI q)) (by unfold bi dB; first | rw [if_pos (decide_eq_true (by omega))] | rw [if_neg (fun hh => by have := of_decide_eq_true hh; omega)]), rfl, rfl⟩
def fnx (F x : Int) : Int := if F = 0 then x else F
theorem fnx_0 {x : Int} : fnx 0 x = x := by unfold fnx; rw [if_pos rfl]
theorem fnx_n {F x : Int} (h : F ≠ 0) : fnx F x = F := by unfold fnx; rw [if_neg h]
def ftR {α : Type} (x : Int ⊕ α) : Int := match x with
  | .inl e => e
  | .inr _ => 0
theorem c_fail {k : eg_K} {z : eg_Z} {X : eg_M} {n : Nat} {F p r : Int} (hF : z 181 5 = F) (rF : iR F) : eg_P k gX3_fail 0 0 0 [vR k 181, vI p, vI r] n (enc k z X) (eg_p k none n X (fun z' => (∀ c, c ≠ 181 → z' c = z c) ∧ (∀ j, j ≠ 5 → z' 181 j = z 181 j) ∧ z' 181 5 = fnx F (8 * p + r))) := by
  refine eg_P.of (by decide) (Nat.le_of_ble_eq_true rfl) ?_
  show eg_E k gX3_fail 0 0 0 n (enc k z X) [vR k 181, vI p, vI r] [] 0 _
  have rF1 := rF.1; have rF2 := rF.2
  refine eg_al_n dX3_fail_0 rfl rfl ?_
  refine eg_get fl_X3_35 dX3_fail_1 (by first | exact er181 | exact er182 | exact er183 | exact ep0 hb | exact ep1 hb | exact ep3 hb | exact ep5 hb | exact ep7 hb) rfl ?_
  refine eg_eqI hF ?_
  refine eg_if_ne 17 dX3_fail_4 ⟨by omega, by omega⟩ rfl (fun h4 => ?_) (fun h4 => ?_)
  · refine eg_return dX3_fail_17 rfl ?_
    first | exact ⟨rfl, rfl, z, rfl, fun _ _ => rfl, fun _ _ => rfl, by rw [fnx_n (by omega)]; exact hF⟩ | exact ⟨rfl, rfl, _, rfl, fun c hc => va_up_n _ _ hc, fun j hj => by rw [va_up_s, va_up_n _ _ hj], by rw [va_up_s, va_up_s, show F = 0 by omega, fnx_0]⟩
  · refine eg_al_n dX3_fail_7 rfl rfl ?_
    refine eg_bipush dX3_fail_8 (by decide) ?_
    refine eg_iload_n dX3_fail_10 rfl ?_
    refine eg_imul dX3_fail_11 ?_
    refine eg_iload_n dX3_fail_12 rfl ?_
    refine eg_iadd dX3_fail_13 ?_
    refine eg_put fl_X3_35 dX3_fail_14 (by first | exact er181 | exact er182 | exact er183 | exact ep0 hb | exact ep1 hb | exact ep3 hb | exact ep5 hb | exact ep7 hb) rfl rfl rfl rfl ?_
    refine eg_eqM es181_5 ?_
    refine eg_return dX3_fail_17 rfl ?_
    first | exact ⟨rfl, rfl, z, rfl, fun _ _ => rfl, fun _ _ => rfl, by rw [fnx_n (by omega)]; exact hF⟩ | exact ⟨rfl, rfl, _, rfl, fun c hc => va_up_n _ _ hc, fun j hj => by rw [va_up_s, va_up_n _ _ hj], by rw [va_up_s, va_up_s, show F = 0 by omega, fnx_0]⟩
theorem c_mustBe {k : eg_K} {z : eg_Z} {X : eg_M} {n : Nat} {F p b : Int} (hF : z 181 5 = F) (rF : iR F) (hp : z 181 4 = p) (hb : b = 0 ∨ b = 1) : eg_P k gX3_mustBe 1 0 0 [vR k 181, vI b] n (enc k z X) (eg_p k none n X (fun z' => (∀ c, c ≠ 181 → z' c = z c) ∧ (∀ j, j ≠ 5 → z' 181 j = z 181 j) ∧ z' 181 5 = if b = 0 then fnx F (8 * p + 2) else F)) := by
  refine eg_P.of (by decide) (Nat.le_of_ble_eq_true rfl) ?_
  show eg_E k gX3_mustBe 1 0 0 n (enc k z X) [vR k 181, vI b] [] 0 _
  refine eg_iload_n dX3_mustBe_0 rfl ?_
  refine eg_if_ne 13 dX3_mustBe_1 ⟨by omega, by omega⟩ rfl (fun h1 => ?_) (fun h1 => ?_)
  · refine eg_return dX3_mustBe_13 rfl ?_
    first | exact ⟨rfl, rfl, z, rfl, fun _ _ => rfl, fun _ _ => rfl, by rw [if_neg (by omega)]; exact hF⟩ | exact ⟨rfl, rfl, y1, rfl, f1, g1, by rw [if_pos (by omega)]; exact e1⟩
  · refine eg_al_n dX3_mustBe_4 rfl rfl ?_
    refine eg_al_n dX3_mustBe_5 rfl rfl ?_
    refine eg_get fl_X3_32 dX3_mustBe_6 (by first | exact er181 | exact er182 | exact er183 | exact ep0 hb | exact ep1 hb | exact ep3 hb | exact ep5 hb | exact ep7 hb) rfl ?_
    refine eg_eqI hp ?_
    refine eg_iconst dX3_mustBe_9 ?_
    refine eg_Vpv2 cs_X3_72 dX3_mustBe_10 (c_fail hF rF) (by first | exact er181 | exact er182 | exact er183 | exact ep0 hb | exact ep1 hb | exact ep3 hb | exact ep5 hb | exact ep7 hb) rfl (Nat.le_of_ble_eq_true rfl) (by decide) ?_
    rintro y1 ⟨f1, g1, e1⟩
    refine eg_return dX3_mustBe_13 rfl ?_
    first | exact ⟨rfl, rfl, z, rfl, fun _ _ => rfl, fun _ _ => rfl, by rw [if_neg (by omega)]; exact hF⟩ | exact ⟨rfl, rfl, y1, rfl, f1, g1, by rw [if_pos (by omega)]; exact e1⟩
