/-- faults are small and not 0 -/
def FB {α : Type} (x : Int ⊕ α) : Prop := ∀ e, x = .inl e → 0 < e ∧ e ≤ 4000
theorem FB_r {α : Type} {a : α} : FB (.inr a : Int ⊕ α) := fun e h => by cases h
theorem FB_l {α : Type} {e : Int} (h : 0 < e ∧ e ≤ 4000) : FB (.inl e : Int ⊕ α) := fun e' h' => by injection h' with h'; subst h'; exact h
theorem FB_bd {α β : Type} {x : Int ⊕ α} {f : α → Int ⊕ β} (h : FB x) (hf : ∀ a, x = .inr a → FB (f a)) : FB (bd x f) := by
  cases x with
  | inl e => exact FB_l (h e rfl)
  | inr a => exact hf a rfl
theorem FB_nm {L : Nat} {t : Nat → Int} {i : Nat} {lo hi : Int} (hL : L ≤ 400) (h : i ≤ L) : FB (nmR L t i lo hi) := fun e he => by
  have a := ft_b (t := t) (lo := lo) (hi := hi) hL h
  rw [he, ft_l] at a
  exact ⟨nmR_e he, a.2⟩
theorem FB_po {L : Nat} {t : Nat → Int} {i : Nat} {v : eg_v} {w : Int} (hL : L ≤ 400) (h : i ≤ L) : FB (poR L t i v w) := fun e he => by
  have a := po_b (t := t) (v := v) (w := w) hL h
  have b := po_ne e he
  rw [he, ft_l] at a
  exact ⟨by omega, a.2⟩
theorem FB_fu {L : Nat} {t : Nat → Int} {i : Nat} {b : Bool} {r : Int ⊕ (Nat × eg_v)} (hL : L ≤ 400) (h : i ≤ L) (hr : FB r) : FB (fuR L t i b r) := by
  have s := sk_b (t := t) h
  unfold fuR
  split
  · exact FB_l (by omega)
  · exact hr
theorem FB_PT {L : Nat} {t : Nat → Int} {i : Nat} {v : eg_v} (hL : L ≤ 400) (hi : i ≤ L) : FB (PT L t i v) := by
  have s1 := sk_b (t := t) hi
  have s2 := (we_b (t := t) hi).2
  have no : ∀ b c, FB (noR L t (we L t i) v b c) := fun b c => by
    unfold noR
    refine FB_bd (FB_nm hL s2) (fun x hx => ?_)
    have b1 := nmR_r s2 hx
    refine FB_bd (by split; exact FB_po hL b1.1; exact FB_r) (fun y hy => ?_)
    have b2 : y.1 ≤ L := by
      split at hy
      · exact (po_r b1.1 hy).2.1
      · injection hy with hy; subst hy; exact b1.1
    refine FB_bd (by split; exact FB_po hL b2; exact FB_r) (fun w hw => ?_)
    have b3 : w.1 ≤ L := by
      split at hw
      · exact (po_r b2 hw).2.1
      · injection hw with hw; subst hw; exact b2
    exact FB_bd (FB_nm hL b3) (fun _ _ => FB_r)
  have pt : ∀ w, FB (ptR L t (we L t i) v w) := fun w => by
    unfold ptR
    exact FB_bd (FB_nm hL s2) (fun x hx => FB_bd (FB_nm hL (nmR_r s2 hx).1) (fun _ _ => FB_r))
  unfold PT
  split
  · unfold sgR
    exact FB_bd (FB_nm hL s2) (fun x hx => FB_bd (FB_nm hL (nmR_r s2 hx).1) (fun y hy => FB_bd (FB_nm hL (nmR_r (nmR_r s2 hx).1 hy).1) (fun _ _ => FB_r)))
  split
  · exact FB_fu hL hi (pt 1)
  split
  · exact FB_fu hL hi (pt 0)
  split
  · unfold shR_
    exact FB_fu hL hi (FB_bd (FB_nm hL s2) (fun x hx => FB_bd (FB_nm hL (nmR_r s2 hx).1) (fun y hy => FB_bd (FB_nm hL (nmR_r (nmR_r s2 hx).1 hy).1) (fun w hw => FB_bd (FB_nm hL (nmR_r (nmR_r (nmR_r s2 hx).1 hy).1 hw).1) (fun _ _ => FB_r)))))
  split
  · exact FB_fu hL hi (no _ _)
  split
  · exact FB_fu hL hi (no _ _)
  split
  · exact FB_fu hL hi (no _ _)
  split
  · unfold prR
    exact FB_bd (FB_nm hL s2) (fun x hx => FB_bd (FB_nm hL (nmR_r s2 hx).1) (fun _ _ => FB_r))
  · exact FB_l (by omega)
theorem FB_hb {L : Nat} {t : Nat → Int} (hL : L ≤ 400) : FB (hbR L t) := by
  have s1 := sk_b (t := t) (Nat.zero_le L)
  have s2 := (we_b (t := t) (Nat.zero_le L)).2
  unfold hbR
  split
  · exact FB_bd (FB_nm hL s2) (fun _ _ => FB_r)
  · exact FB_l (by omega)
/-- one part more -/
theorem PL_59 {L : Nat} {t : Nat → Int} {m i : Nat} {v : eg_v} (h1 : ¬ L ≤ sk L t i) (h2 : tc L t (sk L t i) = 59) : PL L t (m + 1) i v = bd (PT L t (sk L t i + 1) v) (fun a => PL L t m a.1 a.2) := by
  show (if L ≤ sk L t i then .inr v else if tc L t (sk L t i) = 59 then bd (PT L t (sk L t i + 1) v) (fun a => PL L t m a.1 a.2) else .inl (8 * (sk L t i : Int) + 1)) = _
  rw [if_neg h1, if_pos h2]
theorem PL_no {L : Nat} {t : Nat → Int} {m i : Nat} {v : eg_v} (h1 : ¬ L ≤ sk L t i) (h2 : ¬ tc L t (sk L t i) = 59) : PL L t (m + 1) i v = .inl (8 * (sk L t i : Int) + 1) := by
  show (if L ≤ sk L t i then .inr v else if tc L t (sk L t i) = 59 then bd (PT L t (sk L t i + 1) v) (fun a => PL L t m a.1 a.2) else .inl (8 * (sk L t i : Int) + 1)) = _
  rw [if_neg h1, if_neg h2]
theorem PL_e {L : Nat} {t : Nat → Int} {m i : Nat} {v : eg_v} (h1 : L ≤ sk L t i) : PL L t m i v = .inr v := by
  cases m with
  | zero => rfl
  | succ m =>
    show (if L ≤ sk L t i then .inr v else if tc L t (sk L t i) = 59 then bd (PT L t (sk L t i + 1) v) (fun a => PL L t m a.1 a.2) else .inl (8 * (sk L t i : Int) + 1)) = _
    rw [if_pos h1]
theorem c_read {k : eg_K} {z : eg_Z} {X : eg_M} {n : Nat} {L : Nat} {t : Nat → Int} (hT : TP z L t) : eg_P k gX3_read 8 0 0 [vR k 181] n (enc k z X) (eg_p k (some (vI (ftR (TL L t)))) n X (fun z' => (∀ c, c ≠ 181 → (c < 184 ∨ 196 ≤ c) → z' c = z c) ∧ ∀ v, TL L t = .inr v → hP z' 184 v ∧ tv v)) := by
  refine eg_P.of (by decide) (Nat.le_of_ble_eq_true rfl) ?_
  show eg_E k gX3_read 8 0 0 n (enc k z X) [vR k 181, vU] [] 0 _
  have hb := isB_184
  have L4 := hT.1
  have JF : ∀ (pn f : Int) (y : eg_Z), (0 ≤ pn ∧ pn ≤ 1000) → (0 < f ∧ f ≤ 4000) → (∀ c, c ≠ 181 → (c < 184 ∨ 196 ≤ c) → y c = z c) → y 181 5 = f → TL L t = .inl f → eg_E k gX3_read 8 0 0 n (enc k y X) [vR k 181, vI pn] [] 27 (eg_p k (some (vI (ftR (TL L t)))) n X (fun z' => (∀ c, c ≠ 181 → (c < 184 ∨ 196 ≤ c) → z' c = z c) ∧ ∀ v, TL L t = .inr v → hP z' 184 v ∧ tv v)) := by
    intro pn f y hpn hf9 hf h5 hE
    refine eg_iload_n dX3_read_27 rfl ?_
    refine eg_sipush dX3_read_28 (by decide) ?_
    refine eg_icmp_ge 73 dX3_read_31 ⟨by omega, by omega⟩ ⟨by omega, by omega⟩ rfl (fun h31 => ?_) (fun h31 => ?_)
    · refine eg_al_n dX3_read_73 rfl rfl ?_
      refine eg_get fl_X3_35 dX3_read_74 (by first | exact er181 | exact er182 | exact er183 | exact ep0 hb | exact ep1 hb | exact ep3 hb | exact ep5 hb | exact ep7 hb) rfl ?_
      refine eg_eqI h5 ?_
      refine eg_ireturn dX3_read_77 rfl rfl ?_
      exact ⟨congrArg (fun q => some (vI q)) (by rw [hE, ft_l]), rfl, y, rfl, hf, fun v9 h9 => by rw [hE] at h9; cases h9⟩
    · refine eg_al_n dX3_read_34 rfl rfl ?_
      refine eg_get fl_X3_35 dX3_read_35 (by first | exact er181 | exact er182 | exact er183 | exact ep0 hb | exact ep1 hb | exact ep3 hb | exact ep5 hb | exact ep7 hb) rfl ?_
      refine eg_eqI h5 ?_
      refine eg_if_ne 73 dX3_read_38 ⟨by omega, by omega⟩ rfl (fun h38 => ?_) (fun h38 => absurd h38 (by omega))
      refine eg_al_n dX3_read_73 rfl rfl ?_
      refine eg_get fl_X3_35 dX3_read_74 (by first | exact er181 | exact er182 | exact er183 | exact ep0 hb | exact ep1 hb | exact ep3 hb | exact ep5 hb | exact ep7 hb) rfl ?_
      refine eg_eqI h5 ?_
      refine eg_ireturn dX3_read_77 rfl rfl ?_
      exact ⟨congrArg (fun q => some (vI q)) (by rw [hE, ft_l]), rfl, y, rfl, hf, fun v9 h9 => by rw [hE] at h9; cases h9⟩
  have LM : ∀ (mm : Nat) (pn : Int) (m : Nat) (i : Nat) (y : eg_Z) (v : eg_v), (0 ≤ pn) → (pn ≤ (i : Int)) → (i ≤ L) → (∀ c, c ≠ 181 → (c < 184 ∨ 196 ≤ c) → y c = z c) → (y 181 2 = (sk L t i : Int)) → (y 181 5 = 0) → (hP y 184 v) → (tv v) → (∀ q, q < 6 → y 193 q = 0) → (L + 1 ≤ m + i) → (TL L t = PL L t m i v) → (L : Int) + 1 - (i : Int) < (mm : Int) → eg_E k gX3_read 8 0 0 n (enc k y X) [vR k 181, vI pn] [] 27 (eg_p k (some (vI (ftR (TL L t)))) n X (fun z' => (∀ c, c ≠ 181 → (c < 184 ∨ 196 ≤ c) → z' c = z c) ∧ ∀ v, TL L t = .inr v → hP z' 184 v ∧ tv v)) := by
    intro mm
    induction mm with
    | zero => intro pn m i y v h0 h1 hi hf ha h5 hp ht how hm hE hmm; exfalso; omega
    | succ mm ih =>
      intro pn m i y v h0 h1 hi hf ha h5 hp ht how hm hE hmm
      have sb := sk_b (t := t) hi
      have hTy : TP y L t := hT.c (hf 182 (by decide) (by decide)) (hf 183 (by decide) (by decide))
      refine eg_iload_n dX3_read_27 rfl ?_
      refine eg_sipush dX3_read_28 (by decide) ?_
      refine eg_icmp_ge 73 dX3_read_31 ⟨by omega, by omega⟩ ⟨by omega, by omega⟩ rfl (fun h31 => ?_) (fun h31 => ?_)
      · refine eg_al_n dX3_read_73 rfl rfl ?_
        refine eg_get fl_X3_35 dX3_read_74 (by first | exact er181 | exact er182 | exact er183 | exact ep0 hb | exact ep1 hb | exact ep3 hb | exact ep5 hb | exact ep7 hb) rfl ?_
        refine eg_eqI h5 ?_
        refine eg_ireturn dX3_read_77 rfl rfl ?_
        have eT : TL L t = .inr v := by rw [hE]; exact PL_e (by omega)
        exact ⟨congrArg (fun q => some (vI q)) (by rw [eT, ft_r]), rfl, y, rfl, hf, fun v9 h9 => by rw [eT] at h9; injection h9 with h9; subst h9; exact ⟨hp, ht⟩⟩
      · refine eg_al_n dX3_read_34 rfl rfl ?_
        refine eg_get fl_X3_35 dX3_read_35 (by first | exact er181 | exact er182 | exact er183 | exact ep0 hb | exact ep1 hb | exact ep3 hb | exact ep5 hb | exact ep7 hb) rfl ?_
        refine eg_eqI h5 ?_
        refine eg_if_ne 73 dX3_read_38 ⟨by omega, by omega⟩ rfl (fun h38 => absurd h38 (by omega)) (fun h38 => ?_)
        refine eg_al_n dX3_read_41 rfl rfl ?_
        refine eg_get fl_X3_25 dX3_read_42 (by first | exact er181 | exact er182 | exact er183 | exact ep0 hb | exact ep1 hb | exact ep3 hb | exact ep5 hb | exact ep7 hb) rfl ?_
        refine eg_eqI ha ?_
        refine eg_al_n dX3_read_45 rfl rfl ?_
        refine eg_get fl_X3_12 dX3_read_46 (by first | exact er181 | exact er182 | exact er183 | exact ep0 hb | exact ep1 hb | exact ep3 hb | exact ep5 hb | exact ep7 hb) rfl ?_
        refine eg_get fl_X3_47 dX3_read_49 (by first | exact er181 | exact er182 | exact er183 | exact ep0 hb | exact ep1 hb | exact ep3 hb | exact ep5 hb | exact ep7 hb) rfl ?_
        refine eg_eqI hTy.2.1 ?_
        refine eg_icmp_ge 73 dX3_read_52 ⟨by omega, by omega⟩ ⟨by omega, by omega⟩ rfl (fun h52 => ?_) (fun h52 => ?_)
        · refine eg_al_n dX3_read_73 rfl rfl ?_
          refine eg_get fl_X3_35 dX3_read_74 (by first | exact er181 | exact er182 | exact er183 | exact ep0 hb | exact ep1 hb | exact ep3 hb | exact ep5 hb | exact ep7 hb) rfl ?_
          refine eg_eqI h5 ?_
          refine eg_ireturn dX3_read_77 rfl rfl ?_
          have eT : TL L t = .inr v := by rw [hE]; exact PL_e (by omega)
          exact ⟨congrArg (fun q => some (vI q)) (by rw [eT, ft_r]), rfl, y, rfl, hf, fun v9 h9 => by rw [eT] at h9; injection h9 with h9; subst h9; exact ⟨hp, ht⟩⟩
        · refine eg_al_n dX3_read_55 rfl rfl ?_
          refine eg_Vpv0 cs_X3_50 dX3_read_56 (c_readMark hTy sb.2 ha h5 ⟨by omega, by omega⟩) (by first | exact er181 | exact er182 | exact er183 | exact ep0 hb | exact ep1 hb | exact ep3 hb | exact ep5 hb | exact ep7 hb) rfl (Nat.le_of_ble_eq_true rfl) (by decide) ?_
          rintro y1 ⟨f1, w1, ⟨j1, l1, p1, k1⟩, e1⟩
          have hT1 : TP y1 L t := hTy.c (f1 182 (by decide)) (f1 183 (by decide))
          have hp1 : hP y1 184 v := hP_k (fun j hj => f1 _ (by omega)) hp
          have rF1 : 0 ≤ (if tc L t (sk L t i) = 59 then 0 else fnx 0 (8 * (sk L t i : Int) + 1)) ∧ (if tc L t (sk L t i) = 59 then 0 else fnx 0 (8 * (sk L t i : Int) + 1)) ≤ 4000 := by split; omega; rw [fnx_0]; omega
          refine eg_al_n dX3_read_59 rfl rfl ?_
          refine eg_Vpv0 cs_X3_53 dX3_read_60 (c_readPart hT1 hp1 ht l1 p1 e1 rF1 (fun q9 hq => by rw [f1 193 (by decide)]; exact how q9 hq)) (by first | exact er181 | exact er182 | exact er183 | exact ep0 hb | exact ep1 hb | exact ep3 hb | exact ep5 hb | exact ep7 hb) rfl (Nat.le_of_ble_eq_true rfl) (by decide) ?_
          rintro y2 ⟨⟨j2, l2, p2⟩, e2, d3, d4, d5, d6⟩
          have hT2 : TP y2 L t := hT1.c (d3 182 (by decide) (by decide)) (d3 183 (by decide) (by decide))
          refine eg_al_n dX3_read_63 rfl rfl ?_
          refine eg_Vpv0 cs_X3_44 dX3_read_64 (c_skipBlanks hT2 l2 p2) (by first | exact er181 | exact er182 | exact er183 | exact ep0 hb | exact ep1 hb | exact ep3 hb | exact ep5 hb | exact ep7 hb) rfl (Nat.le_of_ble_eq_true rfl) (by decide) ?_
          rintro y3 ⟨f3, g3, a3⟩
          refine eg_iinc dX3_read_67 rfl rfl rfl ?_
          refine eg_goto 27 dX3_read_70 rfl ?_
          obtain ⟨m1, em⟩ : ∃ m1, m = m1 + 1 := ⟨m - 1, by omega⟩
          subst em
          have fr3 : ∀ c, c ≠ 181 → (c < 184 ∨ 196 ≤ c) → y3 c = z c := fun c9 h9 h8 => (f3 c9 h9).trans ((d3 c9 h9 h8).trans ((f1 c9 h9).trans (hf c9 h9 h8)))
          have e3 : y3 181 5 = y2 181 5 := g3 5 (by decide)
          by_cases g59 : tc L t (sk L t i) = 59
          · have kk := k1 g59
            subst kk
            rw [if_pos g59] at e2 d6
            have eP := PL_59 (m := m1) (v := v) (show ¬ L ≤ sk L t i by omega) g59
            cases hPT : PT L t (sk L t i + 1) v with
            | inl e =>
              have fb := FB_PT (t := t) (v := v) hT.1 l1 e hPT
              rw [hPT, ft_l, fnx_0] at e2
              exact JF (pn + 1) e y3 (by omega) fb fr3 (by rw [e3]; exact e2) (by rw [hE, eP, hPT, bd_l])
            | inr a =>
              have pt := PT_t ht l1 hPT
              have d6a := d6 a rfl hPT
              rw [hPT, ft_r, fnx_0] at e2
              have ja : j2 = a.1 := by have := d6a.1; omega
              subst ja
              exact ih (pn + 1) m1 a.1 y3 a.2 (by omega) (by omega) l2 fr3 a3 (by rw [e3]; exact e2) (hP_k (fun j hj => f3 _ (by omega)) d6a.2) pt.2.2 (fun q9 hq => by rw [f3 193 (by decide), d5, f1 193 (by decide)]; exact how q9 hq) (by omega) (by rw [hE, eP, hPT, bd_r]) (by omega)
          · rw [if_neg g59, fnx_0] at e2
            have ePn := PL_no (m := m1) (v := v) (show ¬ L ≤ sk L t i by omega) g59
            rw [fnx_n (show 8 * (sk L t i : Int) + 1 ≠ 0 by omega)] at e2
            exact JF (pn + 1) (8 * (sk L t i : Int) + 1) y3 (by omega) (by omega) fr3 (by rw [e3]; exact e2) (by rw [hE, ePn])
  refine eg_al_n dX3_read_0 rfl rfl ?_
  refine eg_iconst dX3_read_1 ?_
  refine eg_put fl_X3_25 dX3_read_2 (by first | exact er181 | exact er182 | exact er183 | exact ep0 hb | exact ep1 hb | exact ep3 hb | exact ep5 hb | exact ep7 hb) rfl rfl rfl rfl ?_
  refine eg_eqM es181_2 ?_
  refine eg_al_n dX3_read_5 rfl rfl ?_
  refine eg_iconst dX3_read_6 ?_
  refine eg_put fl_X3_35 dX3_read_7 (by first | exact er181 | exact er182 | exact er183 | exact ep0 hb | exact ep1 hb | exact ep3 hb | exact ep5 hb | exact ep7 hb) rfl rfl rfl rfl ?_
  refine eg_eqM es181_5 ?_
  have i1 : va_up (va_up z 181 (va_up (z 181) 2 0)) 181 (va_up (va_up z 181 (va_up (z 181) 2 0) 181) 5 0) 181 2 = 0 := by rw [va_up_s, va_up_n _ _ (by decide), va_up_s, va_up_s]
  have i2 : va_up (va_up z 181 (va_up (z 181) 2 0)) 181 (va_up (va_up z 181 (va_up (z 181) 2 0) 181) 5 0) 181 5 = 0 := by rw [va_up_s, va_up_s]
  have i3 : ∀ c, c ≠ 181 → va_up (va_up z 181 (va_up (z 181) 2 0)) 181 (va_up (va_up z 181 (va_up (z 181) 2 0) 181) 5 0) c = z c := fun c hc => by rw [va_up_n _ _ hc, va_up_n _ _ hc]
  generalize va_up (va_up z 181 (va_up (z 181) 2 0)) 181 (va_up (va_up z 181 (va_up (z 181) 2 0) 181) 5 0) = x1 at i1 i2 i3 ⊢
  refine eg_al_n dX3_read_10 rfl rfl ?_
  refine eg_get fl_X3_21 dX3_read_11 (by first | exact er181 | exact er182 | exact er183 | exact ep0 hb | exact ep1 hb | exact ep3 hb | exact ep5 hb | exact ep7 hb) rfl ?_
  refine eg_Vpv0 cs_X3_38 dX3_read_14 (c_X2_clear hb) (by first | exact er181 | exact er182 | exact er183 | exact ep0 hb | exact ep1 hb | exact ep3 hb | exact ep5 hb | exact ep7 hb) rfl (Nat.le_of_ble_eq_true rfl) (by decide) ?_
  rintro x2 ⟨m2, c0, c1, c3, c5, c7, c10, c9⟩
  have hT2 : TP x2 L t := hT.c ((m2 182 (by decide)).trans (i3 182 (by decide))) ((m2 183 (by decide)).trans (i3 183 (by decide)))
  refine eg_al_n dX3_read_17 rfl rfl ?_
  refine eg_Vpv0 cs_X3_41 dX3_read_18 (c_readHubs hT2 (by rw [m2 181 (by decide)]; exact i1) (by rw [m2 181 (by decide)]; exact i2) ⟨c0, c1, c3, c5, c7, c10⟩) (by first | exact er181 | exact er182 | exact er183 | exact ep0 hb | exact ep1 hb | exact ep3 hb | exact ep5 hb | exact ep7 hb) rfl (Nat.le_of_ble_eq_true rfl) (by decide) ?_
  rintro x3 ⟨⟨j3, l3, p3⟩, e3, d3, d4, d5, d6⟩
  have hT3 : TP x3 L t := hT2.c (d3 182 (by decide) (by decide)) (d3 183 (by decide) (by decide))
  refine eg_al_n dX3_read_21 rfl rfl ?_
  refine eg_Vpv0 cs_X3_44 dX3_read_22 (c_skipBlanks hT3 l3 p3) (by first | exact er181 | exact er182 | exact er183 | exact ep0 hb | exact ep1 hb | exact ep3 hb | exact ep5 hb | exact ep7 hb) rfl (Nat.le_of_ble_eq_true rfl) (by decide) ?_
  rintro x4 ⟨f4, g4, a4⟩
  refine eg_iconst dX3_read_25 ?_
  refine eg_istore_n dX3_read_26 rfl rfl rfl ?_
  have fr4 : ∀ c, c ≠ 181 → (c < 184 ∨ 196 ≤ c) → x4 c = z c := fun c9 h9 h8 => (f4 c9 h9).trans ((d3 c9 h9 h8).trans ((m2 c9 (by omega)).trans (i3 c9 h9)))
  have e4 : x4 181 5 = x3 181 5 := g4 5 (by decide)
  cases hH : hbR L t with
  | inl e =>
    have fb := FB_hb (t := t) hT.1 e hH
    rw [hH, ft_l] at e3
    exact JF 0 e x4 (by omega) fb fr4 (by rw [e4]; exact e3) (by unfold TL; rw [hH, bd_l])
  | inr a =>
    have d6a := d6 a hH
    have pt := hb_t hH
    rw [hH, ft_r] at e3
    have ja : j3 = a.1 := by have := d6a.1; omega
    subst ja
    exact LM (L + 2) 0 (L + 1) a.1 x4 a.2 (by omega) (by omega) l3 fr4 a4 (by rw [e4]; exact e3) (hP_k (fun j hj => f4 _ (by omega)) d6a.2) pt.2 (fun q9 hq => by rw [f4 193 (by decide), d5]; exact c9 q9 hq) (by omega) (by unfold TL; rw [hH, bd_r]) (by omega)
