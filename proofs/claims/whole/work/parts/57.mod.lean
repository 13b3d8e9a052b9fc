theorem nw_e {y : eg_Z} {f g : eg_v} (h : nw y f) (e : ∀ i : Nat, i < 220 → f i = g i) : nw y g := fun i hi => (h i hi).trans (e i hi)
theorem c_behind {k : eg_K} {z : eg_Z} {X : eg_M} {n : Nat} {v : eg_v} (hN : nw z v) {B : Int} (hv : VV B v) {i x : Int} (h0 : 0 ≤ i) (h1 : i < 7) (hx : 0 ≤ x ∧ x ≤ 99999) : eg_P k gX9_behind 1 0 0 [vR k 202, vI i, vI x] n (enc k z X) (eg_f (some (vI (bh v i x))) n (enc k z X)) := by
  refine eg_P.of (by decide) (Nat.le_of_ble_eq_true rfl) ?_
  show eg_E k gX9_behind 1 0 0 n (enc k z X) [vR k 202, vI i, vI x] [] 0 _
  have o1 := hv.S (i := i) h0 h1; unfold okS at o1
  have m1 := mul_b hx.1 hx.2 o1.2.1 o1.2.2
  refine eg_iload_n dX9_behind_0 rfl ?_
  refine eg_iload_n dX9_behind_1 rfl ?_
  refine eg_i2l dX9_behind_2 ⟨by omega, by omega⟩ ?_
  refine eg_al_n dX9_behind_3 rfl rfl ?_
  refine eg_iload_n dX9_behind_4 rfl ?_
  refine eg_iconst dX9_behind_5 ?_
  refine eg_Vf2 cs_X9_256 dX9_behind_6 (c_seg hN h0 h1 (by omega) (by omega)) (by first | exact er202 | exact er203 | exact er204 | exact er205 | exact er206 | exact er207 | exact er208 | exact er209 | exact er210 | exact er211 | exact er212 | exact er213 | exact er214 | exact er215) rfl (Nat.le_of_ble_eq_true rfl) (by decide) ?_
  refine eg_i2l dX9_behind_9 ⟨by omega, by omega⟩ ?_
  refine eg_lmul dX9_behind_10 ?_
  refine eg_ldc2 kw_X9_285 dX9_behind_11 ?_
  refine eg_ldiv dX9_behind_14 ⟨by omega, by omega⟩ ⟨by omega, by omega⟩ (by omega) (by omega) ?_
  refine eg_l2i dX9_behind_15 ?_
  refine eg_isub dX9_behind_16 ?_
  refine eg_ireturn dX9_behind_17 rfl rfl ?_
  exact ⟨rfl, rfl, rfl⟩
theorem c_leftOver {k : eg_K} {z : eg_Z} {X : eg_M} {n : Nat} {v : eg_v} (hN : nw z v) {B : Int} (hv : VV B v) {h o x : Int} (hh : 0 ≤ h ∧ h < v 0) (ho : 0 ≤ o ∧ o < v 0) (hx : 0 ≤ x ∧ x ≤ 99999) : eg_P k gX9_leftOver 2 0 0 [vR k 202, vI h, vI o, vI x] n (enc k z X) (eg_f (some (vI (sLeft v h o x))) n (enc k z X)) := by
  refine eg_P.of (by decide) (Nat.le_of_ble_eq_true rfl) ?_
  show eg_E k gX9_leftOver 2 0 0 n (enc k z X) [vR k 202, vI h, vI o, vI x, vU, vU] [] 0 _
  have q := hv.r.2
  have L2 : ∀ (m : Nat) (i : Int) (y : Int), dnF v (i + 1 - o).toNat i y = sLeft v h o x → -1 ≤ i → i < segs v → 0 ≤ y → y ≤ 99999 → ((i + 1 - o).toNat : Int) < (m : Int) → eg_E k gX9_leftOver 2 0 0 n (enc k z X) [vR k 202, vI h, vI o, vI x, vI y, vI i] [] 33 (eg_f (some (vI (sLeft v h o x))) n (enc k z X)) := by
    intro m
    induction m with
    | zero => intro i y hy h0 h1 h2 h3 hm; exfalso; omega
    | succ m ih =>
      intro i y hy h0 h1 h2 h3 hm
      refine eg_iload dX9_leftOver_33 rfl ?_
      refine eg_iload_n dX9_leftOver_35 rfl ?_
      refine eg_icmp_lt 55 dX9_leftOver_36 ⟨by omega, by omega⟩ ⟨by omega, by omega⟩ rfl (fun h36 => ?_) (fun h36 => ?_)
      · refine eg_iload dX9_leftOver_55 rfl ?_
        refine eg_ireturn dX9_leftOver_57 rfl rfl ?_
        have e9 : (i + 1 - o).toNat = 0 := by omega
        exact ⟨congrArg (fun q => some (vI q)) (by rw [← hy, e9]; rfl), rfl, rfl⟩
      · have o1 := hv.S (i := i) (by omega) (by omega); unfold okS at o1
        refine eg_al_n dX9_leftOver_39 rfl rfl ?_
        refine eg_iload dX9_leftOver_40 rfl ?_
        refine eg_iload dX9_leftOver_42 rfl ?_
        refine eg_Vf2 cs_X9_287 dX9_leftOver_44 (c_behind hN hv (by omega) (by omega) ⟨by omega, by omega⟩) (by first | exact er202 | exact er203 | exact er204 | exact er205 | exact er206 | exact er207 | exact er208 | exact er209 | exact er210 | exact er211 | exact er212 | exact er213 | exact er214 | exact er215) rfl (Nat.le_of_ble_eq_true rfl) (by decide) ?_
        refine eg_istore dX9_leftOver_47 rfl rfl rfl ?_
        refine eg_iinc dX9_leftOver_49 rfl rfl rfl ?_
        refine eg_goto 33 dX9_leftOver_52 rfl ?_
        have e8 : (i + 1 - o).toNat = (i + -1 + 1 - o).toNat + 1 := by omega
        have b1 := bh_b (v := v) (i := i) o1.2 (show 0 ≤ y by omega)
        refine ih (i + -1) _ ?_ (by omega) (by omega) (by omega) (by omega) (by omega)
        rw [← hy, e8]
        show dnF v _ (i + -1) (bh v i y) = dnF v _ (i - 1) (bh v i y)
        rfl
  have L1 : ∀ (m : Nat) (i : Int) (y : Int), upF v (o - i).toNat i y = upF v (o - h).toNat h x → h ≤ i → i ≤ (if h ≤ o then o else h) → 0 ≤ y → y ≤ 99999 → (if h ≤ o then o else h) - i < (m : Int) → eg_E k gX9_leftOver 2 0 0 n (enc k z X) [vR k 202, vI h, vI o, vI x, vI y, vI i] [] 6 (eg_f (some (vI (sLeft v h o x))) n (enc k z X)) := by
    intro m
    induction m with
    | zero => intro i y hy h0 h1 h2 h3 hm; exfalso; omega
    | succ m ih =>
      intro i y hy h0 h1 h2 h3 hm
      have h9 : i ≤ 7 := by split at h1 <;> omega
      refine eg_iload dX9_leftOver_6 rfl ?_
      refine eg_iload_n dX9_leftOver_8 rfl ?_
      refine eg_icmp_ge 28 dX9_leftOver_9 ⟨by omega, by omega⟩ ⟨by omega, by omega⟩ rfl (fun h9 => ?_) (fun h9 => ?_)
      · refine eg_iload_n dX9_leftOver_28 rfl ?_
        refine eg_iconst dX9_leftOver_29 ?_
        refine eg_isub dX9_leftOver_30 ?_
        refine eg_istore dX9_leftOver_31 rfl rfl rfl ?_
        refine L2 9 (h - 1) y ?_ (by omega) (by omega) h2 h3 (by omega)
        rw [show h - 1 + 1 - o = h - o by omega]; unfold sLeft; rw [← hy, show (o - i).toNat = 0 by omega]; rfl
      · have o1 := hv.S (i := i) (by omega) (by omega); unfold okS at o1
        refine eg_al_n dX9_leftOver_12 rfl rfl ?_
        refine eg_iload dX9_leftOver_13 rfl ?_
        refine eg_iload dX9_leftOver_15 rfl ?_
        refine eg_Vf2 cs_X9_287 dX9_leftOver_17 (c_behind hN hv (by omega) (by omega) ⟨by omega, by omega⟩) (by first | exact er202 | exact er203 | exact er204 | exact er205 | exact er206 | exact er207 | exact er208 | exact er209 | exact er210 | exact er211 | exact er212 | exact er213 | exact er214 | exact er215) rfl (Nat.le_of_ble_eq_true rfl) (by decide) ?_
        refine eg_istore dX9_leftOver_20 rfl rfl rfl ?_
        refine eg_iinc dX9_leftOver_22 rfl rfl rfl ?_
        refine eg_goto 6 dX9_leftOver_25 rfl ?_
        have e8 : (o - i).toNat = (o - (i + 1)).toNat + 1 := by omega
        have b1 := bh_b (v := v) (i := i) o1.2 (show 0 ≤ y by omega)
        refine ih (i + 1) _ ?_ (by omega) (by omega) (by omega) (by omega) (by omega)
        rw [← hy, e8]
        rfl
  refine eg_iload_n dX9_leftOver_0 rfl ?_
  refine eg_istore dX9_leftOver_1 rfl rfl rfl ?_
  refine eg_iload_n dX9_leftOver_3 rfl ?_
  refine eg_istore dX9_leftOver_4 rfl rfl rfl ?_
  exact L1 9 h x rfl (by omega) (by split <;> omega) (by omega) (by omega) (by split <;> omega)
theorem c_delivered {k : eg_K} {z : eg_Z} {X : eg_M} {n : Nat} {v : eg_v} (hN : nw z v) {B : Int} (hv : VV B v) {r p : Int} (h0 : 0 ≤ r) (h1 : r < v 3) (hJ : z 213 r.toNat = p) (hp : 0 ≤ p ∧ p ≤ 9999) : eg_P k gX9_delivered 3 0 0 [vR k 202, vI r] n (enc k z X) (eg_f (some (vI (sDel v r p))) n (enc k z X)) := by
  refine eg_P.of (by decide) (Nat.le_of_ble_eq_true rfl) ?_
  show eg_E k gX9_delivered 3 0 0 n (enc k z X) [vR k 202, vI r, vU, vU] [] 0 _
  have o1 := hv.N h0 h1
  simp only [okN, isIn, isOut] at o1
  obtain ⟨oa, ob, oc, od⟩ := o1
  have q := hv.r.2
  have b1 : -1 ≤ gN v r 1 ∧ gN v r 1 < 10 := by
    rcases ob with ob | ob <;> omega
  have b2 : -1 ≤ gN v r 2 ∧ gN v r 2 < 10 := by
    rcases oc with oc | oc <;> omega
  have p1 : gN v r 1 ≠ -1 → 0 ≤ gN v r 1 ∧ gN v r 1 < v 1 := fun e => by
    rcases ob with ob | ob <;> omega
  have p2 : gN v r 2 ≠ -1 → 0 ≤ gN v r 2 ∧ gN v r 2 < v 1 := fun e => by
    rcases oc with oc | oc <;> omega
  clear ob oc od
  refine eg_al_n dX9_delivered_0 rfl rfl ?_
  refine eg_iload_n dX9_delivered_1 rfl ?_
  refine eg_iconst dX9_delivered_2 ?_
  refine eg_Vf2 cs_X9_259 dX9_delivered_3 (c_nom hN (by omega) (by omega) (by omega) (by omega)) (by first | exact er202 | exact er203 | exact er204 | exact er205 | exact er206 | exact er207 | exact er208 | exact er209 | exact er210 | exact er211 | exact er212 | exact er213 | exact er214 | exact er215) rfl (Nat.le_of_ble_eq_true rfl) (by decide) ?_
  refine eg_istore_n dX9_delivered_6 rfl rfl rfl ?_
  refine eg_al_n dX9_delivered_7 rfl rfl ?_
  refine eg_iload_n dX9_delivered_8 rfl ?_
  refine eg_iconst dX9_delivered_9 ?_
  refine eg_Vf2 cs_X9_259 dX9_delivered_10 (c_nom hN (by omega) (by omega) (by omega) (by omega)) (by first | exact er202 | exact er203 | exact er204 | exact er205 | exact er206 | exact er207 | exact er208 | exact er209 | exact er210 | exact er211 | exact er212 | exact er213 | exact er214 | exact er215) rfl (Nat.le_of_ble_eq_true rfl) (by decide) ?_
  refine eg_istore_n dX9_delivered_13 rfl rfl rfl ?_
  refine eg_iload_n dX9_delivered_14 rfl ?_
  refine eg_iconst dX9_delivered_15 ?_
  refine eg_icmp_eq 24 dX9_delivered_16 ⟨by omega, by omega⟩ ⟨by omega, by omega⟩ rfl (fun h16 => ?_) (fun h16 => ?_)
  · refine eg_al_n dX9_delivered_24 rfl rfl ?_
    refine eg_get fl_X9_43 dX9_delivered_25 (by first | exact er202 | exact er203 | exact er204 | exact er205 | exact er206 | exact er207 | exact er208 | exact er209 | exact er210 | exact er211 | exact er212 | exact er213 | exact er214 | exact er215) rfl ?_
    refine eg_iload_n dX9_delivered_28 rfl ?_
    refine eg_iald dX9_delivered_29 (by first | exact er202 | exact er203 | exact er204 | exact er205 | exact er206 | exact er207 | exact er208 | exact er209 | exact er210 | exact er211 | exact er212 | exact er213 | exact er214 | exact er215) (by omega) (by omega) (by decide) ?_
    refine eg_eqI hJ ?_
    refine eg_goto 55 dX9_delivered_30 rfl ?_
    refine eg_ireturn dX9_delivered_55 rfl rfl ?_
    exact ⟨congrArg (fun q => some (vI q)) (by unfold sDel; first | (rw [if_pos (by omega)]) | (rw [if_neg (by omega)])), rfl, rfl⟩
  · refine eg_iload_n dX9_delivered_19 rfl ?_
    refine eg_iconst dX9_delivered_20 ?_
    refine eg_icmp_ne 33 dX9_delivered_21 ⟨by omega, by omega⟩ ⟨by omega, by omega⟩ rfl (fun h21 => ?_) (fun h21 => ?_)
    · have hh := hv.hub h0 h1 (by omega) (by omega)
      refine eg_al_n dX9_delivered_33 rfl rfl ?_
      refine eg_al_n dX9_delivered_34 rfl rfl ?_
      refine eg_iload_n dX9_delivered_35 rfl ?_
      refine eg_iconst dX9_delivered_36 ?_
      refine eg_Vf2 cs_X9_189 dX9_delivered_37 (c_pointOf hN (by omega) (by omega) (by omega) (by omega)) (by first | exact er202 | exact er203 | exact er204 | exact er205 | exact er206 | exact er207 | exact er208 | exact er209 | exact er210 | exact er211 | exact er212 | exact er213 | exact er214 | exact er215) rfl (Nat.le_of_ble_eq_true rfl) (by decide) ?_
      refine eg_al_n dX9_delivered_40 rfl rfl ?_
      refine eg_iload_n dX9_delivered_41 rfl ?_
      refine eg_iconst dX9_delivered_42 ?_
      refine eg_Vf2 cs_X9_189 dX9_delivered_43 (c_pointOf hN (by omega) (by omega) (by omega) (by omega)) (by first | exact er202 | exact er203 | exact er204 | exact er205 | exact er206 | exact er207 | exact er208 | exact er209 | exact er210 | exact er211 | exact er212 | exact er213 | exact er214 | exact er215) rfl (Nat.le_of_ble_eq_true rfl) (by decide) ?_
      refine eg_al_n dX9_delivered_46 rfl rfl ?_
      refine eg_get fl_X9_43 dX9_delivered_47 (by first | exact er202 | exact er203 | exact er204 | exact er205 | exact er206 | exact er207 | exact er208 | exact er209 | exact er210 | exact er211 | exact er212 | exact er213 | exact er214 | exact er215) rfl ?_
      refine eg_iload_n dX9_delivered_50 rfl ?_
      refine eg_iald dX9_delivered_51 (by first | exact er202 | exact er203 | exact er204 | exact er205 | exact er206 | exact er207 | exact er208 | exact er209 | exact er210 | exact er211 | exact er212 | exact er213 | exact er214 | exact er215) (by omega) (by omega) (by decide) ?_
      refine eg_eqI hJ ?_
      refine eg_Vf3 cs_X9_290 dX9_delivered_52 (c_leftOver hN hv hh.2.2.1 hh.2.2.2 ⟨by omega, by omega⟩) (by first | exact er202 | exact er203 | exact er204 | exact er205 | exact er206 | exact er207 | exact er208 | exact er209 | exact er210 | exact er211 | exact er212 | exact er213 | exact er214 | exact er215) rfl (Nat.le_of_ble_eq_true rfl) (by decide) ?_
      refine eg_ireturn dX9_delivered_55 rfl rfl ?_
      exact ⟨congrArg (fun q => some (vI q)) (by unfold sDel; first | (rw [if_pos (by omega)]) | (rw [if_neg (by omega)])), rfl, rfl⟩
    · refine eg_al_n dX9_delivered_24 rfl rfl ?_
      refine eg_get fl_X9_43 dX9_delivered_25 (by first | exact er202 | exact er203 | exact er204 | exact er205 | exact er206 | exact er207 | exact er208 | exact er209 | exact er210 | exact er211 | exact er212 | exact er213 | exact er214 | exact er215) rfl ?_
      refine eg_iload_n dX9_delivered_28 rfl ?_
      refine eg_iald dX9_delivered_29 (by first | exact er202 | exact er203 | exact er204 | exact er205 | exact er206 | exact er207 | exact er208 | exact er209 | exact er210 | exact er211 | exact er212 | exact er213 | exact er214 | exact er215) (by omega) (by omega) (by decide) ?_
      refine eg_eqI hJ ?_
      refine eg_goto 55 dX9_delivered_30 rfl ?_
      refine eg_ireturn dX9_delivered_55 rfl rfl ?_
      exact ⟨congrArg (fun q => some (vI q)) (by unfold sDel; first | (rw [if_pos (by omega)]) | (rw [if_neg (by omega)])), rfl, rfl⟩
theorem c_swung {k : eg_K} {M : eg_M} {n : Nat} {x w : Int} (hx : 0 ≤ x ∧ x ≤ 99999) (hw : -99 ≤ w ∧ w ≤ 99) : eg_P k gX9_swung 0 0 0 [vL x, vI w] n (M) (eg_f (some (vL (x * (100 + w) / 100))) n (M)) := by
  refine eg_P.of (by decide) (Nat.le_of_ble_eq_true rfl) ?_
  show eg_E k gX9_swung 0 0 0 n (M) [vL x, vU, vI w] [] 0 _
  have m1 := mul_b hx.1 hx.2 (show 0 ≤ 100 + w by omega) (show 100 + w ≤ 199 by omega)
  refine eg_lload_n dX9_swung_0 rfl ?_
  refine eg_bipush dX9_swung_1 (by decide) ?_
  refine eg_iload_n dX9_swung_3 rfl ?_
  refine eg_iadd dX9_swung_4 ?_
  refine eg_i2l dX9_swung_5 ⟨by omega, by omega⟩ ?_
  refine eg_lmul dX9_swung_6 ?_
  refine eg_ldc2 kw_X9_293 dX9_swung_7 ?_
  refine eg_ldiv dX9_swung_10 ⟨by omega, by omega⟩ ⟨by omega, by omega⟩ (by omega) (by omega) ?_
  refine eg_lreturn dX9_swung_11 rfl ?_
  exact ⟨rfl, rfl, rfl⟩
theorem c_dayOf {k : eg_K} {z : eg_Z} {X : eg_M} {n : Nat} {v : eg_v} (hN : nw z v) {B : Int} (hv : VV B v) {r p : Int} (h0 : 0 ≤ r) (h1 : r < v 3) (hJ : z 213 r.toNat = p) (hp : 0 ≤ p ∧ p ≤ 9999) : eg_P k gX9_dayOf 4 0 0 [vR k 202, vI r] n (enc k z X) (eg_p k none n X (fun z' => (∀ c, c ≠ 203 → z' c = z c) ∧ nw z' (dayV v r p))) := by
  refine eg_P.of (by decide) (Nat.le_of_ble_eq_true rfl) ?_
  show eg_E k gX9_dayOf 4 0 0 n (enc k z X) [vR k 202, vI r, vU, vU, vU, vU, vU, vU, vU, vU, vU, vU, vU] [] 0 _
  have o1 := hv.N h0 h1
  simp only [okN, isIn, isOut] at o1
  obtain ⟨oa, ob, oc, od⟩ := o1
  have q := hv.r.2
  have b1 : -1 ≤ gN v r 1 ∧ gN v r 1 < 10 := by
    rcases ob with ob | ob <;> omega
  have b2 : -1 ≤ gN v r 2 ∧ gN v r 2 < 10 := by
    rcases oc with oc | oc <;> omega
  have p1 : gN v r 1 ≠ -1 → 0 ≤ gN v r 1 ∧ gN v r 1 < v 1 := fun e => by
    rcases ob with ob | ob <;> omega
  have p2 : gN v r 2 ≠ -1 → 0 ≤ gN v r 2 ∧ gN v r 2 < v 1 := fun e => by
    rcases oc with oc | oc <;> omega
  clear ob oc od
  have db := day_b hv h0 h1 hp
  have s6 : 0 ≤ gN v r 0 ∧ gN v r 0 < 6 := ⟨by omega, by omega⟩
  have J125 : eg_E k gX9_dayOf 4 0 0 n (enc k z X) [vR k 202, vI r, vI (gN v r 0), vI (gN v r 1), vI (gN v r 2), vL (cmF v r p), vU, vL (gsF v r p), vU, vL (bnF v r p), vU, vU, vU] [vL (hdF v r p)] 125 (eg_p k none n X (fun z' => (∀ c, c ≠ 203 → z' c = z c) ∧ nw z' (dayV v r p))) := by
    refine eg_lstore dX9_dayOf_125 rfl rfl rfl ?_
    have hF : ∀ c, c ≠ 203 → z c = z c := fun _ _ => rfl
    refine eg_al_n dX9_dayOf_127 rfl rfl ?_
    refine eg_get fl_X9_9 dX9_dayOf_128 (by first | exact er202 | exact er203 | exact er204 | exact er205 | exact er206 | exact er207 | exact er208 | exact er209 | exact er210 | exact er211 | exact er212 | exact er213 | exact er214 | exact er215) rfl ?_
    refine eg_bipush dX9_dayOf_131 (by decide) ?_
    refine eg_bipush dX9_dayOf_133 (by decide) ?_
    refine eg_iload_n dX9_dayOf_135 rfl ?_
    refine eg_imul dX9_dayOf_136 ?_
    refine eg_iadd dX9_dayOf_137 ?_
    refine eg_iconst dX9_dayOf_138 ?_
    refine eg_iadd dX9_dayOf_139 ?_
    refine eg_dup2 dX9_dayOf_140 rfl rfl ?_
    refine eg_nowL dX9_dayOf_141 hN (by omega) (by omega) ?_
    refine eg_eqL (y := gH v (gN v r 0) 4) rfl ?_
    refine eg_lload dX9_dayOf_142 rfl ?_
    refine eg_lload dX9_dayOf_144 rfl ?_
    refine eg_lsub dX9_dayOf_146 ?_
    refine eg_lload dX9_dayOf_147 rfl ?_
    refine eg_lsub dX9_dayOf_149 ?_
    refine eg_lload dX9_dayOf_150 rfl ?_
    refine eg_ladd dX9_dayOf_152 ?_
    refine eg_ladd dX9_dayOf_153 ?_
    refine eg_nowS dX9_dayOf_154 hN (by omega) (by omega) (fun y f1 hN => ?_)
    have hF := fun c hc => (f1 c hc).trans (hF c hc)
    refine eg_al_n dX9_dayOf_155 rfl rfl ?_
    refine eg_get fl_X9_9 dX9_dayOf_156 (by first | exact er202 | exact er203 | exact er204 | exact er205 | exact er206 | exact er207 | exact er208 | exact er209 | exact er210 | exact er211 | exact er212 | exact er213 | exact er214 | exact er215) rfl ?_
    refine eg_bipush dX9_dayOf_159 (by decide) ?_
    refine eg_bipush dX9_dayOf_161 (by decide) ?_
    refine eg_iload_n dX9_dayOf_163 rfl ?_
    refine eg_imul dX9_dayOf_164 ?_
    refine eg_iadd dX9_dayOf_165 ?_
    refine eg_iconst dX9_dayOf_166 ?_
    refine eg_iadd dX9_dayOf_167 ?_
    refine eg_dup2 dX9_dayOf_168 rfl rfl ?_
    refine eg_nowL dX9_dayOf_169 hN (by omega) (by omega) ?_
    refine eg_eqL (y := gH v (gN v r 0) 5) (va_up_n _ _ (by omega)) ?_
    refine eg_lload dX9_dayOf_170 rfl ?_
    refine eg_lsub dX9_dayOf_172 ?_
    refine eg_nowS dX9_dayOf_173 hN (by omega) (by omega) (fun y f1 hN => ?_)
    have hF := fun c hc => (f1 c hc).trans (hF c hc)
    refine eg_al_n dX9_dayOf_174 rfl rfl ?_
    refine eg_get fl_X9_9 dX9_dayOf_175 (by first | exact er202 | exact er203 | exact er204 | exact er205 | exact er206 | exact er207 | exact er208 | exact er209 | exact er210 | exact er211 | exact er212 | exact er213 | exact er214 | exact er215) rfl ?_
    refine eg_bipush dX9_dayOf_178 (by decide) ?_
    refine eg_dup2 dX9_dayOf_180 rfl rfl ?_
    refine eg_nowL dX9_dayOf_181 hN (by omega) (by omega) ?_
    refine eg_eqL (y := v 7) (by rw [va_up_n _ _ (by omega), va_up_n _ _ (by omega)]; rfl) ?_
    refine eg_lload dX9_dayOf_182 rfl ?_
    refine eg_ladd dX9_dayOf_184 ?_
    refine eg_nowS dX9_dayOf_185 hN (by omega) (by omega) (fun y f1 hN => ?_)
    have hF := fun c hc => (f1 c hc).trans (hF c hc)
    refine eg_al_n dX9_dayOf_186 rfl rfl ?_
    refine eg_get fl_X9_9 dX9_dayOf_187 (by first | exact er202 | exact er203 | exact er204 | exact er205 | exact er206 | exact er207 | exact er208 | exact er209 | exact er210 | exact er211 | exact er212 | exact er213 | exact er214 | exact er215) rfl ?_
    refine eg_bipush dX9_dayOf_190 (by decide) ?_
    refine eg_dup2 dX9_dayOf_192 rfl rfl ?_
    refine eg_nowL dX9_dayOf_193 hN (by omega) (by omega) ?_
    refine eg_eqL (y := v 8) (by rw [va_up_n _ _ (by omega), va_up_n _ _ (by omega), va_up_n _ _ (by omega)]; rfl) ?_
    refine eg_lload dX9_dayOf_194 rfl ?_
    refine eg_ladd dX9_dayOf_196 ?_
    refine eg_nowS dX9_dayOf_197 hN (by omega) (by omega) (fun y f1 hN => ?_)
    have hF := fun c hc => (f1 c hc).trans (hF c hc)
    refine eg_al_n dX9_dayOf_198 rfl rfl ?_
    refine eg_get fl_X9_9 dX9_dayOf_199 (by first | exact er202 | exact er203 | exact er204 | exact er205 | exact er206 | exact er207 | exact er208 | exact er209 | exact er210 | exact er211 | exact er212 | exact er213 | exact er214 | exact er215) rfl ?_
    refine eg_bipush dX9_dayOf_202 (by decide) ?_
    refine eg_dup2 dX9_dayOf_204 rfl rfl ?_
    refine eg_nowL dX9_dayOf_205 hN (by omega) (by omega) ?_
    refine eg_eqL (y := v 9) (by rw [va_up_n _ _ (by omega), va_up_n _ _ (by omega), va_up_n _ _ (by omega), va_up_n _ _ (by omega)]; rfl) ?_
    refine eg_lload dX9_dayOf_206 rfl ?_
    refine eg_ladd dX9_dayOf_208 ?_
    refine eg_nowS dX9_dayOf_209 hN (by omega) (by omega) (fun y f1 hN => ?_)
    have hF := fun c hc => (f1 c hc).trans (hF c hc)
    refine eg_return dX9_dayOf_210 rfl ?_
    exact ⟨rfl, rfl, y, rfl, hF, hN⟩
  have J75 : eg_E k gX9_dayOf 4 0 0 n (enc k z X) [vR k 202, vI r, vI (gN v r 0), vI (gN v r 1), vI (gN v r 2), vL (cmF v r p), vU, vU, vU, vU, vU, vU, vU] [vL (gsF v r p)] 75 (eg_p k none n X (fun z' => (∀ c, c ≠ 203 → z' c = z c) ∧ nw z' (dayV v r p))) := by
    refine eg_lstore dX9_dayOf_75 rfl rfl rfl ?_
    refine eg_al_n dX9_dayOf_77 rfl rfl ?_
    refine eg_get fl_X9_43 dX9_dayOf_78 (by first | exact er202 | exact er203 | exact er204 | exact er205 | exact er206 | exact er207 | exact er208 | exact er209 | exact er210 | exact er211 | exact er212 | exact er213 | exact er214 | exact er215) rfl ?_
    refine eg_iload_n dX9_dayOf_81 rfl ?_
    refine eg_iald dX9_dayOf_82 (by first | exact er202 | exact er203 | exact er204 | exact er205 | exact er206 | exact er207 | exact er208 | exact er209 | exact er210 | exact er211 | exact er212 | exact er213 | exact er214 | exact er215) (by omega) (by omega) (by decide) ?_
    refine eg_eqI hJ ?_
    refine eg_al_n dX9_dayOf_83 rfl rfl ?_
    refine eg_iload_n dX9_dayOf_84 rfl ?_
    refine eg_Vf1 cs_X9_299 dX9_dayOf_85 (c_delivered hN hv h0 h1 hJ hp) (by first | exact er202 | exact er203 | exact er204 | exact er205 | exact er206 | exact er207 | exact er208 | exact er209 | exact er210 | exact er211 | exact er212 | exact er213 | exact er214 | exact er215) rfl (Nat.le_of_ble_eq_true rfl) (by decide) ?_
    refine eg_isub dX9_dayOf_88 ?_
    refine eg_i2l dX9_dayOf_89 ⟨by omega, by omega⟩ ?_
    refine eg_lstore dX9_dayOf_90 rfl rfl rfl ?_
    refine eg_iload_n dX9_dayOf_92 rfl ?_
    refine eg_iconst dX9_dayOf_93 ?_
    refine eg_icmp_ne 107 dX9_dayOf_94 ⟨by omega, by omega⟩ ⟨by omega, by omega⟩ rfl (fun h94 => ?_) (fun h94 => ?_)
    · refine eg_iload dX9_dayOf_107 rfl ?_
      refine eg_iconst dX9_dayOf_109 ?_
      refine eg_icmp_ne 124 dX9_dayOf_110 ⟨by omega, by omega⟩ ⟨by omega, by omega⟩ rfl (fun h110 => ?_) (fun h110 => ?_)
      · refine eg_lk0 dX9_dayOf_124 ?_
        refine eg_eqL (y := hdF v r p) (by unfold hdF; first | rw [if_pos (by omega)] | rw [if_neg (by omega), if_pos (by omega)] | rw [if_neg (by omega), if_neg (by omega)]) ?_
        exact J125
      · refine eg_al_n dX9_dayOf_113 rfl rfl ?_
        refine eg_get fl_X9_43 dX9_dayOf_114 (by first | exact er202 | exact er203 | exact er204 | exact er205 | exact er206 | exact er207 | exact er208 | exact er209 | exact er210 | exact er211 | exact er212 | exact er213 | exact er214 | exact er215) rfl ?_
        refine eg_iload_n dX9_dayOf_117 rfl ?_
        refine eg_iald dX9_dayOf_118 (by first | exact er202 | exact er203 | exact er204 | exact er205 | exact er206 | exact er207 | exact er208 | exact er209 | exact er210 | exact er211 | exact er212 | exact er213 | exact er214 | exact er215) (by omega) (by omega) (by decide) ?_
        refine eg_eqI hJ ?_
        refine eg_ineg dX9_dayOf_119 ?_
        refine eg_i2l dX9_dayOf_120 ⟨by omega, by omega⟩ ?_
        refine eg_goto 125 dX9_dayOf_121 rfl ?_
        refine eg_eqL (y := hdF v r p) (by unfold hdF; first | rw [if_pos (by omega)] | rw [if_neg (by omega), if_pos (by omega)] | rw [if_neg (by omega), if_neg (by omega)]) ?_
        exact J125
    · refine eg_al_n dX9_dayOf_97 rfl rfl ?_
      refine eg_get fl_X9_43 dX9_dayOf_98 (by first | exact er202 | exact er203 | exact er204 | exact er205 | exact er206 | exact er207 | exact er208 | exact er209 | exact er210 | exact er211 | exact er212 | exact er213 | exact er214 | exact er215) rfl ?_
      refine eg_iload_n dX9_dayOf_101 rfl ?_
      refine eg_iald dX9_dayOf_102 (by first | exact er202 | exact er203 | exact er204 | exact er205 | exact er206 | exact er207 | exact er208 | exact er209 | exact er210 | exact er211 | exact er212 | exact er213 | exact er214 | exact er215) (by omega) (by omega) (by decide) ?_
      refine eg_eqI hJ ?_
      refine eg_i2l dX9_dayOf_103 ⟨by omega, by omega⟩ ?_
      refine eg_goto 125 dX9_dayOf_104 rfl ?_
      refine eg_eqL (y := hdF v r p) (by unfold hdF; first | rw [if_pos (by omega)] | rw [if_neg (by omega), if_pos (by omega)] | rw [if_neg (by omega), if_neg (by omega)]) ?_
      exact J125
  have J47 : eg_E k gX9_dayOf 4 0 0 n (enc k z X) [vR k 202, vI r, vI (gN v r 0), vI (gN v r 1), vI (gN v r 2), vU, vU, vU, vU, vU, vU, vU, vU] [vL (cmF v r p)] 47 (eg_p k none n X (fun z' => (∀ c, c ≠ 203 → z' c = z c) ∧ nw z' (dayV v r p))) := by
    refine eg_lstore dX9_dayOf_47 rfl rfl rfl ?_
    refine eg_iload dX9_dayOf_49 rfl ?_
    refine eg_iconst dX9_dayOf_51 ?_
    refine eg_icmp_ne 59 dX9_dayOf_52 ⟨by omega, by omega⟩ ⟨by omega, by omega⟩ rfl (fun h52 => ?_) (fun h52 => ?_)
    · have t2 := p2 (by omega)
      have o2 := hv.P t2.1 t2.2
      unfold okP at o2
      refine eg_al_n dX9_dayOf_59 rfl rfl ?_
      refine eg_iload_n dX9_dayOf_60 rfl ?_
      refine eg_Vf1 cs_X9_299 dX9_dayOf_61 (c_delivered hN hv h0 h1 hJ hp) (by first | exact er202 | exact er203 | exact er204 | exact er205 | exact er206 | exact er207 | exact er208 | exact er209 | exact er210 | exact er211 | exact er212 | exact er213 | exact er214 | exact er215) rfl (Nat.le_of_ble_eq_true rfl) (by decide) ?_
      refine eg_i2l dX9_dayOf_64 ⟨by omega, by omega⟩ ?_
      refine eg_al_n dX9_dayOf_65 rfl rfl ?_
      refine eg_iload dX9_dayOf_66 rfl ?_
      refine eg_iconst dX9_dayOf_68 ?_
      refine eg_Vf2 cs_X9_189 dX9_dayOf_69 (c_pointOf hN (by omega) (by omega) (by omega) (by omega)) (by first | exact er202 | exact er203 | exact er204 | exact er205 | exact er206 | exact er207 | exact er208 | exact er209 | exact er210 | exact er211 | exact er212 | exact er213 | exact er214 | exact er215) rfl (Nat.le_of_ble_eq_true rfl) (by decide) ?_
      refine eg_Sf2 cs_X9_295 dX9_dayOf_72 (c_swung ⟨by omega, by omega⟩ ⟨by omega, by omega⟩) (Nat.le_of_ble_eq_true rfl) (by decide) ?_
      refine eg_eqL (y := gsF v r p) (by unfold gsF; first | rw [if_pos (by omega)] | rw [if_neg (by omega)]) ?_
      exact J75
    · refine eg_lk0 dX9_dayOf_55 ?_
      refine eg_goto 75 dX9_dayOf_56 rfl ?_
      refine eg_eqL (y := gsF v r p) (by unfold gsF; first | rw [if_pos (by omega)] | rw [if_neg (by omega)]) ?_
      exact J75
  refine eg_al_n dX9_dayOf_0 rfl rfl ?_
  refine eg_iload_n dX9_dayOf_1 rfl ?_
  refine eg_iconst dX9_dayOf_2 ?_
  refine eg_Vf2 cs_X9_259 dX9_dayOf_3 (c_nom hN (by omega) (by omega) (by omega) (by omega)) (by first | exact er202 | exact er203 | exact er204 | exact er205 | exact er206 | exact er207 | exact er208 | exact er209 | exact er210 | exact er211 | exact er212 | exact er213 | exact er214 | exact er215) rfl (Nat.le_of_ble_eq_true rfl) (by decide) ?_
  refine eg_istore_n dX9_dayOf_6 rfl rfl rfl ?_
  refine eg_al_n dX9_dayOf_7 rfl rfl ?_
  refine eg_iload_n dX9_dayOf_8 rfl ?_
  refine eg_iconst dX9_dayOf_9 ?_
  refine eg_Vf2 cs_X9_259 dX9_dayOf_10 (c_nom hN (by omega) (by omega) (by omega) (by omega)) (by first | exact er202 | exact er203 | exact er204 | exact er205 | exact er206 | exact er207 | exact er208 | exact er209 | exact er210 | exact er211 | exact er212 | exact er213 | exact er214 | exact er215) rfl (Nat.le_of_ble_eq_true rfl) (by decide) ?_
  refine eg_istore_n dX9_dayOf_13 rfl rfl rfl ?_
  refine eg_al_n dX9_dayOf_14 rfl rfl ?_
  refine eg_iload_n dX9_dayOf_15 rfl ?_
  refine eg_iconst dX9_dayOf_16 ?_
  refine eg_Vf2 cs_X9_259 dX9_dayOf_17 (c_nom hN (by omega) (by omega) (by omega) (by omega)) (by first | exact er202 | exact er203 | exact er204 | exact er205 | exact er206 | exact er207 | exact er208 | exact er209 | exact er210 | exact er211 | exact er212 | exact er213 | exact er214 | exact er215) rfl (Nat.le_of_ble_eq_true rfl) (by decide) ?_
  refine eg_istore dX9_dayOf_20 rfl rfl rfl ?_
  refine eg_iload_n dX9_dayOf_22 rfl ?_
  refine eg_iconst dX9_dayOf_23 ?_
  refine eg_icmp_ne 31 dX9_dayOf_24 ⟨by omega, by omega⟩ ⟨by omega, by omega⟩ rfl (fun h24 => ?_) (fun h24 => ?_)
  · have t1 := p1 (by omega)
    have o2 := hv.P t1.1 t1.2
    unfold okP at o2
    refine eg_al_n dX9_dayOf_31 rfl rfl ?_
    refine eg_get fl_X9_43 dX9_dayOf_32 (by first | exact er202 | exact er203 | exact er204 | exact er205 | exact er206 | exact er207 | exact er208 | exact er209 | exact er210 | exact er211 | exact er212 | exact er213 | exact er214 | exact er215) rfl ?_
    refine eg_iload_n dX9_dayOf_35 rfl ?_
    refine eg_iald dX9_dayOf_36 (by first | exact er202 | exact er203 | exact er204 | exact er205 | exact er206 | exact er207 | exact er208 | exact er209 | exact er210 | exact er211 | exact er212 | exact er213 | exact er214 | exact er215) (by omega) (by omega) (by decide) ?_
    refine eg_eqI hJ ?_
    refine eg_i2l dX9_dayOf_37 ⟨by omega, by omega⟩ ?_
    refine eg_al_n dX9_dayOf_38 rfl rfl ?_
    refine eg_iload_n dX9_dayOf_39 rfl ?_
    refine eg_iconst dX9_dayOf_40 ?_
    refine eg_Vf2 cs_X9_189 dX9_dayOf_41 (c_pointOf hN (by omega) (by omega) (by omega) (by omega)) (by first | exact er202 | exact er203 | exact er204 | exact er205 | exact er206 | exact er207 | exact er208 | exact er209 | exact er210 | exact er211 | exact er212 | exact er213 | exact er214 | exact er215) rfl (Nat.le_of_ble_eq_true rfl) (by decide) ?_
    refine eg_Sf2 cs_X9_295 dX9_dayOf_44 (c_swung ⟨by omega, by omega⟩ ⟨by omega, by omega⟩) (Nat.le_of_ble_eq_true rfl) (by decide) ?_
    refine eg_eqL (y := cmF v r p) (by unfold cmF; first | rw [if_pos (by omega)] | rw [if_neg (by omega)]) ?_
    exact J47
  · refine eg_lk0 dX9_dayOf_27 ?_
    refine eg_goto 47 dX9_dayOf_28 rfl ?_
    refine eg_eqL (y := cmF v r p) (by unfold cmF; first | rw [if_pos (by omega)] | rw [if_neg (by omega)]) ?_
    exact J47
theorem c_dayGoes {k : eg_K} {z : eg_Z} {X : eg_M} {n : Nat} {v : eg_v} (hN : nw z v) {B : Int} (hv : VV B v) (hk : PK v) : eg_P k gX9_dayGoes 6 0 0 [vR k 202] n (enc k z X) (eg_p k (some (vI (sm (SS v 10) (v 3).toNat))) n X (fun z' => (∀ d, d ≠ 203 → (d < 210 ∨ 216 ≤ d) → z' d = z d) ∧ nw z' (dayA v (SS v 10)))) := by
  refine eg_P.of (by decide) (Nat.le_of_ble_eq_true rfl) ?_
  show eg_E k gX9_dayGoes 6 0 0 n (enc k z X) [vR k 202, vU, vU] [] 0 _
  have q := hv.r.2
  have L1 : ∀ (mm : Nat) (i : Int) (y : eg_Z), (0 ≤ i) → (i ≤ v 3) → (∀ d, d ≠ 203 → (d < 210 ∨ 216 ≤ d) → y d = z d) → (nw y (dayIt v (SS v 10) i.toNat)) → (∀ q : Int, 0 ≤ q → q < v 3 → y 213 q.toNat = SS v 10 q) → v 3 - i < (mm : Int) → eg_E k gX9_dayGoes 6 0 0 n (enc k y X) [vR k 202, vI (sm (SS v 10) (v 3).toNat), vI i] [] 11 (eg_p k (some (vI (sm (SS v 10) (v 3).toNat))) n X (fun z' => (∀ d, d ≠ 203 → (d < 210 ∨ 216 ≤ d) → z' d = z d) ∧ nw z' (dayA v (SS v 10)))) := by
    intro mm
    induction mm with
    | zero => intro i y h0 h1 hf hNi hJ hmm; exfalso; omega
    | succ mm ih =>
      intro i y h0 h1 hf hNi hJ hmm
      obtain ⟨hvi, hwi⟩ := dayIt_p hv (okpS hv hk) i.toNat (by omega)
      have e3 := hwi 3 (by omega)
      have hF := hf
      refine eg_iload_n dX9_dayGoes_11 rfl ?_
      refine eg_al_n dX9_dayGoes_12 rfl rfl ?_
      refine eg_iconst dX9_dayGoes_13 ?_
      refine eg_Vf1 cs_X9_179 dX9_dayGoes_14 (many_3 hNi) (by first | exact er202 | exact er203 | exact er204 | exact er205 | exact er206 | exact er207 | exact er208 | exact er209 | exact er210 | exact er211 | exact er212 | exact er213 | exact er214 | exact er215) rfl (Nat.le_of_ble_eq_true rfl) (by decide) ?_
      rw [e3]
      refine eg_icmp_ge 31 dX9_dayGoes_17 ⟨by omega, by omega⟩ ⟨by omega, by omega⟩ rfl (fun h17 => ?_) (fun h17 => ?_)
      · have hN := hNi
        have e : i = v 3 := by omega
        subst e
        have hF : ∀ c, c ≠ 203 → y c = y c := fun _ _ => rfl
        refine eg_al_n dX9_dayGoes_31 rfl rfl ?_
        refine eg_get fl_X9_9 dX9_dayGoes_32 (by first | exact er202 | exact er203 | exact er204 | exact er205 | exact er206 | exact er207 | exact er208 | exact er209 | exact er210 | exact er211 | exact er212 | exact er213 | exact er214 | exact er215) rfl ?_
        refine eg_iconst dX9_dayGoes_35 ?_
        refine eg_dup2 dX9_dayGoes_36 rfl rfl ?_
        refine eg_nowL dX9_dayGoes_37 hN (by omega) (by omega) ?_
        refine eg_eqL (y := v 4) (hwi 4 (by omega)) ?_
        refine eg_lk1 dX9_dayGoes_38 ?_
        refine eg_ladd dX9_dayGoes_39 ?_
        refine eg_nowS dX9_dayGoes_40 hN (by omega) (by omega) (fun y f1 hN => ?_)
        have hF := fun c hc => (f1 c hc).trans (hF c hc)
        refine eg_iload_n dX9_dayGoes_41 rfl ?_
        refine eg_ireturn dX9_dayGoes_42 rfl rfl ?_
        refine ⟨rfl, rfl, _, rfl, fun d d1 d2 => (hF d d1).trans (hf d d1 d2), hN⟩
      · refine eg_al_n dX9_dayGoes_20 rfl rfl ?_
        refine eg_iload_n dX9_dayGoes_21 rfl ?_
        refine eg_Vpv1 cs_X9_308 dX9_dayGoes_22 (c_dayOf (p := SS v 10 i) hNi hvi h0 (by rw [e3]; omega) (hJ i h0 (by omega)) (okpS hv hk i h0 (by omega))) (by first | exact er202 | exact er203 | exact er204 | exact er205 | exact er206 | exact er207 | exact er208 | exact er209 | exact er210 | exact er211 | exact er212 | exact er213 | exact er214 | exact er215) rfl (Nat.le_of_ble_eq_true rfl) (by decide) ?_
        rintro y1 ⟨f1, n1⟩
        refine eg_iinc dX9_dayGoes_25 rfl rfl rfl ?_
        refine eg_goto 11 dX9_dayGoes_28 rfl ?_
        exact ih (i + 1) y1 (by omega) (by omega) (fun d d1 d2 => (f1 d d1).trans (hf d d1 d2)) (by rw [dayIt_s h0]; exact n1) (fun q9 a b => by rw [f1 213 (by decide)]; exact hJ q9 a b) (by omega)
  refine eg_al_n dX9_dayGoes_0 rfl rfl ?_
  refine eg_Vpv0 cs_X9_302 dX9_dayGoes_1 (c_schedules hN hv hk) (by first | exact er202 | exact er203 | exact er204 | exact er205 | exact er206 | exact er207 | exact er208 | exact er209 | exact er210 | exact er211 | exact er212 | exact er213 | exact er214 | exact er215) rfl (Nat.le_of_ble_eq_true rfl) (by decide) ?_
  rintro y1 ⟨f1, j1, p1⟩
  have hN1 : nw y1 v := nw_c (f1 203 (by omega)) hN
  refine eg_al_n dX9_dayGoes_4 rfl rfl ?_
  refine eg_Vf0 cs_X9_305 dX9_dayGoes_5 (c_allPlanned (p := SS v 10) hN1 hv (fun q9 a b => (j1.2 q9 a b).1)) (by first | exact er202 | exact er203 | exact er204 | exact er205 | exact er206 | exact er207 | exact er208 | exact er209 | exact er210 | exact er211 | exact er212 | exact er213 | exact er214 | exact er215) rfl (Nat.le_of_ble_eq_true rfl) (by decide) ?_
  refine eg_istore_n dX9_dayGoes_8 rfl rfl rfl ?_
  refine eg_iconst dX9_dayGoes_9 ?_
  refine eg_istore_n dX9_dayGoes_10 rfl rfl rfl ?_
  exact L1 17 0 y1 (by omega) (by omega) (fun d _ d2 => f1 d d2) hN1 (fun q9 a b => (j1.2 q9 a b).1) (by omega)
def lgA (w : eg_v) (i : Int) : eg_v := fun j => if 178 ≤ j ∧ i < (j : Int) ∧ j < 220 then w (j - 6) else w j
def lgB (w : eg_v) (i : Int) : eg_v := fun j => if 172 ≤ j ∧ (j : Int) < 172 + i then gH w ((j : Int) - 172) 4 else if 178 ≤ j ∧ j < 220 then w (j - 6) else w j
theorem lgA_s {w : eg_v} {i : Int} (h0 : 178 ≤ i) (h1 : i < 220) : ∀ j : Nat, j < 220 → va_up (lgA w i) i.toNat (lgA w i (i - 6).toNat) j = lgA w (i - 1) j := fun j hj => by
  by_cases e : j = i.toNat
  · rw [e, va_up_s]
    unfold lgA
    rw [if_neg (by omega), if_pos (by omega)]
    congr 1
    omega
  · rw [va_up_n _ _ e]
    unfold lgA
    by_cases c : 178 ≤ j ∧ i < (j : Int) ∧ j < 220
    · rw [if_pos c, if_pos (by omega)]
    · rw [if_neg c, if_neg (by omega)]
theorem lgB_0 {w : eg_v} : ∀ j : Nat, j < 220 → lgA w 177 j = lgB w 0 j := fun j hj => by
  unfold lgA lgB
  rw [if_neg (show ¬ (172 ≤ j ∧ (j : Int) < 172 + 0) by omega)]
  by_cases c : 178 ≤ j
  · rw [if_pos (by omega), if_pos (by omega)]
  · rw [if_neg (by omega), if_neg (by omega)]
theorem lgB_h {w : eg_v} {i s : Int} (h0 : 0 ≤ s) (h1 : s < 6) (h2 : i ≤ 6) : gH (lgB w i) s 4 = gH w s 4 := by
  unfold gH lgB
  rw [if_neg (by omega), if_neg (by omega)]
theorem lgB_s {w : eg_v} {i : Int} (h0 : 0 ≤ i) (h1 : i < 6) : ∀ j : Nat, j < 220 → va_up (lgB w i) (172 + i).toNat (gH w i 4) j = lgB w (i + 1) j := fun j hj => by
  by_cases e : j = (172 + i).toNat
  · rw [e, va_up_s]
    unfold lgB
    rw [if_pos (by omega)]
    congr 1
    omega
  · rw [va_up_n _ _ e]
    unfold lgB
    by_cases c : 172 ≤ j ∧ (j : Int) < 172 + i
    · rw [if_pos c, if_pos (by omega)]
    · rw [if_neg c, if_neg (show ¬ (172 ≤ j ∧ (j : Int) < 172 + (i + 1)) by omega)]
theorem lgB_6 {v w : eg_v} (h1 : w 11 = if v 11 < 8 then v 11 + 1 else v 11) (h2 : ∀ i : Nat, i ≠ 11 → w i = v i) : ∀ j : Nat, j < 220 → lgB w 6 j = logV v j := fun j hj => by
  unfold lgB logV
  by_cases e : j = 11
  · subst e; rw [if_neg (by omega), if_neg (by omega), if_pos rfl]; exact h1
  · rw [if_neg e]
    by_cases c : 172 ≤ j ∧ (j : Int) < 172 + 6
    · rw [if_pos c, if_pos (by omega)]
      unfold gH
      exact h2 _ (by omega)
    · rw [if_neg c, if_neg (show ¬ (172 ≤ j ∧ j < 178) by omega)]
      by_cases c2 : 178 ≤ j ∧ j < 220
      · rw [if_pos c2, if_pos c2]; exact h2 _ (by omega)
      · rw [if_neg c2, if_neg c2]; exact h2 _ e
theorem c_logs {k : eg_K} {z : eg_Z} {X : eg_M} {n : Nat} {v : eg_v} (hN : nw z v) (h11 : 0 ≤ v 11 ∧ v 11 ≤ 8) : eg_P k gX9_logs 1 0 0 [vR k 202] n (enc k z X) (eg_p k none n X (fun z' => (∀ c, c ≠ 203 → z' c = z c) ∧ nw z' (logV v))) := by
  refine eg_P.of (by decide) (Nat.le_of_ble_eq_true rfl) ?_
  show eg_E k gX9_logs 1 0 0 n (enc k z X) [vR k 202, vU] [] 0 _
  have J25 : ∀ (w : eg_v) (y : eg_Z), (w 11 = if v 11 < 8 then v 11 + 1 else v 11) → (∀ i : Nat, i ≠ 11 → w i = v i) → (∀ c, c ≠ 203 → y c = z c) → nw y w → eg_E k gX9_logs 1 0 0 n (enc k y X) [vR k 202, vU] [] 25 (eg_p k none n X (fun z' => (∀ c, c ≠ 203 → z' c = z c) ∧ nw z' (logV v))) := by
    intro w y hw1 hw2 hf hN
    have LB : ∀ (mm : Nat) (i : Int) (y : eg_Z), (0 ≤ i) → (i ≤ 6) → (∀ c, c ≠ 203 → y c = z c) → (nw y (lgB w i)) → 6 - i < (mm : Int) → eg_E k gX9_logs 1 0 0 n (enc k y X) [vR k 202, vI i] [] 59 (eg_p k none n X (fun z' => (∀ c, c ≠ 203 → z' c = z c) ∧ nw z' (logV v))) := by
      intro mm
      induction mm with
      | zero => intro i y h0 h1 hf hN hmm; exfalso; omega
      | succ mm ih =>
        intro i y h0 h1 hf hN hmm
        refine eg_iload_n dX9_logs_59 rfl ?_
        refine eg_bipush dX9_logs_60 (by decide) ?_
        refine eg_icmp_ge 87 dX9_logs_62 ⟨by omega, by omega⟩ ⟨by omega, by omega⟩ rfl (fun h62 => ?_) (fun h62 => ?_)
        · refine eg_return dX9_logs_87 rfl ?_
          have e : i = 6 := by omega
          subst e
          exact ⟨rfl, rfl, y, rfl, hf, nw_e hN (lgB_6 hw1 hw2)⟩
        · have hF : ∀ c, c ≠ 203 → y c = y c := fun _ _ => rfl
          refine eg_al_n dX9_logs_65 rfl rfl ?_
          refine eg_get fl_X9_9 dX9_logs_66 (by first | exact er202 | exact er203 | exact er204 | exact er205 | exact er206 | exact er207 | exact er208 | exact er209 | exact er210 | exact er211 | exact er212 | exact er213 | exact er214 | exact er215) rfl ?_
          refine eg_sipush dX9_logs_69 (by decide) ?_
          refine eg_iload_n dX9_logs_72 rfl ?_
          refine eg_iadd dX9_logs_73 ?_
          refine eg_al_n dX9_logs_74 rfl rfl ?_
          refine eg_iload_n dX9_logs_75 rfl ?_
          refine eg_iconst dX9_logs_76 ?_
          refine eg_Vf2 cs_X9_237 dX9_logs_77 (c_ship hN (by omega) (by omega) (by omega) (by omega)) (by first | exact er202 | exact er203 | exact er204 | exact er205 | exact er206 | exact er207 | exact er208 | exact er209 | exact er210 | exact er211 | exact er212 | exact er213 | exact er214 | exact er215) rfl (Nat.le_of_ble_eq_true rfl) (by decide) ?_
          refine eg_eqL (lgB_h h0 (by omega) (by omega)) ?_
          refine eg_nowS dX9_logs_80 hN (by omega) (by omega) (fun y f1 hN => ?_)
          have hF := fun c hc => (f1 c hc).trans (hF c hc)
          have hN := nw_e hN (lgB_s h0 (by omega))
          refine eg_iinc dX9_logs_81 rfl rfl rfl ?_
          refine eg_goto 59 dX9_logs_84 rfl ?_
          exact ih (i + 1) _ (by omega) (by omega) (fun c hc => (hF c hc).trans (hf c hc)) hN (by omega)
    have LA : ∀ (mm : Nat) (i : Int) (y : eg_Z), (177 ≤ i) → (i < 220) → (∀ c, c ≠ 203 → y c = z c) → (nw y (lgA w i)) → i - 177 < (mm : Int) → eg_E k gX9_logs 1 0 0 n (enc k y X) [vR k 202, vI i] [] 29 (eg_p k none n X (fun z' => (∀ c, c ≠ 203 → z' c = z c) ∧ nw z' (logV v))) := by
      intro mm
      induction mm with
      | zero => intro i y h0 h1 hf hN hmm; exfalso; omega
      | succ mm ih =>
        intro i y h0 h1 hf hN hmm
        refine eg_iload_n dX9_logs_29 rfl ?_
        refine eg_sipush dX9_logs_30 (by decide) ?_
        refine eg_icmp_lt 57 dX9_logs_33 ⟨by omega, by omega⟩ ⟨by omega, by omega⟩ rfl (fun h33 => ?_) (fun h33 => ?_)
        · refine eg_iconst dX9_logs_57 ?_
          refine eg_istore_n dX9_logs_58 rfl rfl rfl ?_
          have e : i = 177 := by omega
          subst e
          exact LB 7 0 y (by omega) (by omega) hf (nw_e hN lgB_0) (by omega)
        · have hF : ∀ c, c ≠ 203 → y c = y c := fun _ _ => rfl
          refine eg_al_n dX9_logs_36 rfl rfl ?_
          refine eg_get fl_X9_9 dX9_logs_37 (by first | exact er202 | exact er203 | exact er204 | exact er205 | exact er206 | exact er207 | exact er208 | exact er209 | exact er210 | exact er211 | exact er212 | exact er213 | exact er214 | exact er215) rfl ?_
          refine eg_iload_n dX9_logs_40 rfl ?_
          refine eg_al_n dX9_logs_41 rfl rfl ?_
          refine eg_get fl_X9_9 dX9_logs_42 (by first | exact er202 | exact er203 | exact er204 | exact er205 | exact er206 | exact er207 | exact er208 | exact er209 | exact er210 | exact er211 | exact er212 | exact er213 | exact er214 | exact er215) rfl ?_
          refine eg_iload_n dX9_logs_45 rfl ?_
          refine eg_bipush dX9_logs_46 (by decide) ?_
          refine eg_isub dX9_logs_48 ?_
          refine eg_nowL dX9_logs_49 hN (by omega) (by omega) ?_
          refine eg_nowS dX9_logs_50 hN (by omega) (by omega) (fun y f1 hN => ?_)
          have hF := fun c hc => (f1 c hc).trans (hF c hc)
          have hN := nw_e hN (lgA_s (by omega) (by omega))
          refine eg_iinc dX9_logs_51 rfl rfl rfl ?_
          refine eg_goto 29 dX9_logs_54 rfl ?_
          exact ih (i + -1) _ (by omega) (by omega) (fun c hc => (hF c hc).trans (hf c hc)) hN (by omega)
    refine eg_sipush dX9_logs_25 (by decide) ?_
    refine eg_istore_n dX9_logs_28 rfl rfl rfl ?_
    exact LA 43 219 y (by omega) (by omega) hf (nw_e hN (fun j hj => by unfold lgA; rw [if_neg (by omega)])) (by omega)
  refine eg_al_n dX9_logs_0 rfl rfl ?_
  refine eg_get fl_X9_9 dX9_logs_1 (by first | exact er202 | exact er203 | exact er204 | exact er205 | exact er206 | exact er207 | exact er208 | exact er209 | exact er210 | exact er211 | exact er212 | exact er213 | exact er214 | exact er215) rfl ?_
  refine eg_bipush dX9_logs_4 (by decide) ?_
  refine eg_nowL dX9_logs_6 hN (by omega) (by omega) ?_
  refine eg_eqL (y := v 11) rfl ?_
  refine eg_ldc2 kw_X9_311 dX9_logs_7 ?_
  refine eg_lc_ge 25 dX9_logs_10 dX9_logs_11 ⟨by omega, by omega⟩ ⟨by omega, by omega⟩ rfl (fun h10 => ?_) (fun h10 => ?_)
  · exact J25 v z (by rw [if_neg (by omega)]) (fun _ _ => rfl) (fun _ _ => rfl) hN
  · have hF : ∀ c, c ≠ 203 → z c = z c := fun _ _ => rfl
    refine eg_al_n dX9_logs_14 rfl rfl ?_
    refine eg_get fl_X9_9 dX9_logs_15 (by first | exact er202 | exact er203 | exact er204 | exact er205 | exact er206 | exact er207 | exact er208 | exact er209 | exact er210 | exact er211 | exact er212 | exact er213 | exact er214 | exact er215) rfl ?_
    refine eg_bipush dX9_logs_18 (by decide) ?_
    refine eg_dup2 dX9_logs_20 rfl rfl ?_
    refine eg_nowL dX9_logs_21 hN (by omega) (by omega) ?_
    refine eg_eqL (y := v 11) rfl ?_
    refine eg_lk1 dX9_logs_22 ?_
    refine eg_ladd dX9_logs_23 ?_
    refine eg_nowS dX9_logs_24 hN (by omega) (by omega) (fun y f1 hN => ?_)
    have hF := fun c hc => (f1 c hc).trans (hF c hc)
    exact J25 _ _ (by rw [if_pos (by omega)]; exact va_up_s _ _ _) (fun i hi => va_up_n _ _ hi) hF hN
theorem c_areBalances {k : eg_K} {z : eg_Z} {X : eg_M} {n : Nat} {v : eg_v} (hN : nw z v) {B : Int} (hv : VV B v) (hB : B ≤ 100000000) : eg_P k gX9_areBalances 1 0 0 [vR k 202] n (enc k z X) (eg_f (some (vI (bi (fitN v (v 2).toNat = true)))) n (enc k z X)) := by
  refine eg_P.of (by decide) (Nat.le_of_ble_eq_true rfl) ?_
  show eg_E k gX9_areBalances 1 0 0 n (enc k z X) [vR k 202, vU, vU] [] 0 _
  have q := hv.r.2
  have L1 : ∀ (mm : Nat) (i : Int), (0 ≤ i) → (i ≤ v 2) → v 2 - i < (mm : Int) → eg_E k gX9_areBalances 1 0 0 n (enc k z X) [vR k 202, vI (bi (fitN v i.toNat = true)), vI i] [] 4 (eg_f (some (vI (bi (fitN v (v 2).toNat = true)))) n (enc k z X)) := by
    intro mm
    induction mm with
    | zero => intro i h0 h1 hmm; exfalso; omega
    | succ mm ih =>
      intro i h0 h1 hmm
      refine eg_iload_n dX9_areBalances_4 rfl ?_
      refine eg_al_n dX9_areBalances_5 rfl rfl ?_
      refine eg_iconst dX9_areBalances_6 ?_
      refine eg_Vf1 cs_X9_179 dX9_areBalances_7 (many_2 hN) (by first | exact er202 | exact er203 | exact er204 | exact er205 | exact er206 | exact er207 | exact er208 | exact er209 | exact er210 | exact er211 | exact er212 | exact er213 | exact er214 | exact er215) rfl (Nat.le_of_ble_eq_true rfl) (by decide) ?_
      refine eg_icmp_ge 45 dX9_areBalances_10 ⟨by omega, by omega⟩ ⟨by omega, by omega⟩ rfl (fun h10 => ?_) (fun h10 => ?_)
      · refine eg_iload_n dX9_areBalances_45 rfl ?_
        refine eg_ireturn dX9_areBalances_46 rfl (by first | rfl | exact bi_nar _ | (unfold bi; split <;> rfl)) ?_
        have e : i = v 2 := by omega
        subst e
        exact ⟨rfl, rfl, rfl⟩
      · refine eg_iload_n dX9_areBalances_13 rfl ?_
        refine eg_bi_eq 37 dX9_areBalances_14 rfl (fun h14 => ?_) (fun h14 => ?_)
        · refine eg_iconst dX9_areBalances_37 ?_
          refine eg_istore_n dX9_areBalances_38 rfl rfl rfl ?_
          refine eg_iinc dX9_areBalances_39 rfl rfl rfl ?_
          refine eg_goto 4 dX9_areBalances_42 rfl ?_
          have e : bi (fitN v (i + 1).toNat = true) = 0 := by rw [fitN_s v h0, Bool.eq_false_iff.mpr h14, Bool.false_and]; rfl
          have t := ih (i + 1) (by omega) (by omega) (by omega)
          rw [e] at t
          exact t
        · have o1 := hv.H (s := i) h0 (by omega); unfold okH at o1
          refine eg_al_n dX9_areBalances_17 rfl rfl ?_
          refine eg_iload_n dX9_areBalances_18 rfl ?_
          refine eg_iconst dX9_areBalances_19 ?_
          refine eg_Vf2 cs_X9_237 dX9_areBalances_20 (c_ship hN (by omega) (by omega) (by omega) (by omega)) (by first | exact er202 | exact er203 | exact er204 | exact er205 | exact er206 | exact er207 | exact er208 | exact er209 | exact er210 | exact er211 | exact er212 | exact er213 | exact er214 | exact er215) rfl (Nat.le_of_ble_eq_true rfl) (by decide) ?_
          refine eg_mabsL cs_X9_241 dX9_areBalances_23 ⟨by omega, by omega⟩ (Nat.le_of_ble_eq_true rfl) (by decide) ?_
          have w1 : lR (if 0 < gH v i 4 then gH v i 4 else -gH v i 4) := by split <;> exact ⟨by omega, by omega⟩
          have w2 := w1.1; have w3 := w1.2
          refine eg_ldc2 kw_X9_313 dX9_areBalances_26 ?_
          refine eg_lc_gt 37 dX9_areBalances_29 dX9_areBalances_30 ⟨by omega, by omega⟩ ⟨by omega, by omega⟩ rfl (fun h29 => ?_) (fun h29 => ?_)
          · refine eg_iconst dX9_areBalances_37 ?_
            refine eg_istore_n dX9_areBalances_38 rfl rfl rfl ?_
            refine eg_iinc dX9_areBalances_39 rfl rfl rfl ?_
            refine eg_goto 4 dX9_areBalances_42 rfl ?_
            have n9 : ¬ (-999999 ≤ gH v i 4 ∧ gH v i 4 ≤ 999999) := by split at h29 <;> omega
            have e : bi (fitN v (i + 1).toNat = true) = 0 := by rw [fitN_s v h0, decide_eq_false n9, Bool.and_false]; rfl
            have t := ih (i + 1) (by omega) (by omega) (by omega)
            rw [e] at t
            exact t
          · refine eg_iconst dX9_areBalances_33 ?_
            refine eg_goto 38 dX9_areBalances_34 rfl ?_
            refine eg_istore_n dX9_areBalances_38 rfl rfl rfl ?_
            refine eg_iinc dX9_areBalances_39 rfl rfl rfl ?_
            refine eg_goto 4 dX9_areBalances_42 rfl ?_
            have n9 : (-999999 ≤ gH v i 4 ∧ gH v i 4 ≤ 999999) := by split at h29 <;> omega
            have e : bi (fitN v (i + 1).toNat = true) = 1 := by rw [fitN_s v h0, decide_eq_true n9, h14]; rfl
            have t := ih (i + 1) (by omega) (by omega) (by omega)
            rw [e] at t
            exact t
  refine eg_iconst dX9_areBalances_0 ?_
  refine eg_istore_n dX9_areBalances_1 rfl rfl rfl ?_
  refine eg_iconst dX9_areBalances_2 ?_
  refine eg_istore_n dX9_areBalances_3 rfl rfl rfl ?_
  exact L1 7 0 (by omega) (by omega) (by omega)
theorem c_overOf {k : eg_K} {z : eg_Z} {X : eg_M} {n : Nat} {v : eg_v} (hN : nw z v) {B : Int} (hv : VV B v) (hB : B ≤ 100000000) {r : Int} (h0 : 0 ≤ r) (h1 : r < v 2) : eg_P k gX9_overOf 1 0 0 [vR k 202, vI r] n (enc k z X) (eg_f (some (vL (sOver v r))) n (enc k z X)) := by
  refine eg_P.of (by decide) (Nat.le_of_ble_eq_true rfl) ?_
  show eg_E k gX9_overOf 1 0 0 n (enc k z X) [vR k 202, vI r, vU, vU, vU, vU] [] 0 _
  have q := hv.r.2
  have o1 := hv.H (s := r) h0 h1; unfold okH at o1
  refine eg_al_n dX9_overOf_0 rfl rfl ?_
  refine eg_iload_n dX9_overOf_1 rfl ?_
  refine eg_iconst dX9_overOf_2 ?_
  refine eg_Vf2 cs_X9_237 dX9_overOf_3 (c_ship hN (by omega) (by omega) (by omega) (by omega)) (by first | exact er202 | exact er203 | exact er204 | exact er205 | exact er206 | exact er207 | exact er208 | exact er209 | exact er210 | exact er211 | exact er212 | exact er213 | exact er214 | exact er215) rfl (Nat.le_of_ble_eq_true rfl) (by decide) ?_
  refine eg_lstore_n dX9_overOf_6 rfl rfl rfl ?_
  refine eg_al_n dX9_overOf_7 rfl rfl ?_
  refine eg_iload_n dX9_overOf_8 rfl ?_
  refine eg_iconst dX9_overOf_9 ?_
  refine eg_Vf2 cs_X9_237 dX9_overOf_10 (c_ship hN (by omega) (by omega) (by omega) (by omega)) (by first | exact er202 | exact er203 | exact er204 | exact er205 | exact er206 | exact er207 | exact er208 | exact er209 | exact er210 | exact er211 | exact er212 | exact er213 | exact er214 | exact er215) rfl (Nat.le_of_ble_eq_true rfl) (by decide) ?_
  refine eg_lstore dX9_overOf_13 rfl rfl rfl ?_
  refine eg_lload_n dX9_overOf_15 rfl ?_
  refine eg_lload dX9_overOf_16 rfl ?_
  refine eg_lc_le 29 dX9_overOf_18 dX9_overOf_19 ⟨by omega, by omega⟩ ⟨by omega, by omega⟩ rfl (fun h18 => ?_) (fun h18 => ?_)
  · refine eg_lload_n dX9_overOf_29 rfl ?_
    refine eg_lload dX9_overOf_30 rfl ?_
    refine eg_lneg dX9_overOf_32 ?_
    refine eg_lc_ge 44 dX9_overOf_33 dX9_overOf_34 ⟨by omega, by omega⟩ ⟨by omega, by omega⟩ rfl (fun h33 => ?_) (fun h33 => ?_)
    · refine eg_lk0 dX9_overOf_44 ?_
      refine eg_lreturn dX9_overOf_45 rfl ?_
      exact ⟨congrArg (fun q => some (vL q)) (by unfold sOver; first | rw [if_pos (by omega)] | rw [if_neg (by omega), if_pos (by omega)] | rw [if_neg (by omega), if_neg (by omega)]), rfl, rfl⟩
    · refine eg_lload_n dX9_overOf_37 rfl ?_
      refine eg_lload dX9_overOf_38 rfl ?_
      refine eg_ladd dX9_overOf_40 ?_
      refine eg_goto 45 dX9_overOf_41 rfl ?_
      refine eg_lreturn dX9_overOf_45 rfl ?_
      exact ⟨congrArg (fun q => some (vL q)) (by unfold sOver; first | rw [if_pos (by omega)] | rw [if_neg (by omega), if_pos (by omega)] | rw [if_neg (by omega), if_neg (by omega)]), rfl, rfl⟩
  · refine eg_lload_n dX9_overOf_22 rfl ?_
    refine eg_lload dX9_overOf_23 rfl ?_
    refine eg_lsub dX9_overOf_25 ?_
    refine eg_goto 45 dX9_overOf_26 rfl ?_
    refine eg_lreturn dX9_overOf_45 rfl ?_
    exact ⟨congrArg (fun q => some (vL q)) (by unfold sOver; first | rw [if_pos (by omega)] | rw [if_neg (by omega), if_pos (by omega)] | rw [if_neg (by omega), if_neg (by omega)]), rfl, rfl⟩
theorem c_owedBy {k : eg_K} {z : eg_Z} {X : eg_M} {n : Nat} {v : eg_v} (hN : nw z v) {B : Int} (hv : VV B v) (hB : B ≤ 100000000) {r : Int} (h0 : 0 ≤ r) (h1 : r < v 2) : eg_P k gX9_owedBy 2 0 0 [vR k 202, vI r] n (enc k z X) (eg_f (some (vL (sDue v r))) n (enc k z X)) := by
  refine eg_P.of (by decide) (Nat.le_of_ble_eq_true rfl) ?_
  show eg_E k gX9_owedBy 2 0 0 n (enc k z X) [vR k 202, vI r, vU, vU] [] 0 _
  have q := hv.r.2
  have ob := sOver_b hv h0 h1
  refine eg_al_n dX9_owedBy_0 rfl rfl ?_
  refine eg_iload_n dX9_owedBy_1 rfl ?_
  refine eg_Vf1 cs_X9_329 dX9_owedBy_2 (c_overOf hN hv hB h0 h1) (by first | exact er202 | exact er203 | exact er204 | exact er205 | exact er206 | exact er207 | exact er208 | exact er209 | exact er210 | exact er211 | exact er212 | exact er213 | exact er214 | exact er215) rfl (Nat.le_of_ble_eq_true rfl) (by decide) ?_
  refine eg_lstore_n dX9_owedBy_5 rfl rfl rfl ?_
  refine eg_lload_n dX9_owedBy_6 rfl ?_
  refine eg_lk0 dX9_owedBy_7 ?_
  refine eg_lc_ge 38 dX9_owedBy_8 dX9_owedBy_9 ⟨by omega, by omega⟩ ⟨by omega, by omega⟩ rfl (fun h8 => ?_) (fun h8 => ?_)
  · have m1 := due_b hv hB (x := sOver v r) (by omega) (y := 100 - v 6) (by omega)
    refine eg_lload_n dX9_owedBy_38 rfl ?_
    refine eg_al_n dX9_owedBy_39 rfl rfl ?_
    refine eg_get fl_X9_9 dX9_owedBy_40 (by first | exact er202 | exact er203 | exact er204 | exact er205 | exact er206 | exact er207 | exact er208 | exact er209 | exact er210 | exact er211 | exact er212 | exact er213 | exact er214 | exact er215) rfl ?_
    refine eg_iconst dX9_owedBy_43 ?_
    refine eg_nowL dX9_owedBy_44 hN (by omega) (by omega) ?_
    refine eg_eqL (y := v 5) rfl ?_
    refine eg_lmul dX9_owedBy_45 ?_
    refine eg_ldc2 kw_X9_293 dX9_owedBy_46 ?_
    refine eg_al_n dX9_owedBy_49 rfl rfl ?_
    refine eg_get fl_X9_9 dX9_owedBy_50 (by first | exact er202 | exact er203 | exact er204 | exact er205 | exact er206 | exact er207 | exact er208 | exact er209 | exact er210 | exact er211 | exact er212 | exact er213 | exact er214 | exact er215) rfl ?_
    refine eg_bipush dX9_owedBy_53 (by decide) ?_
    refine eg_nowL dX9_owedBy_55 hN (by omega) (by omega) ?_
    refine eg_eqL (y := v 6) rfl ?_
    refine eg_lsub dX9_owedBy_56 ?_
    refine eg_lmul dX9_owedBy_57 ?_
    refine eg_ldc2 kw_X9_293 dX9_owedBy_58 ?_
    refine eg_ldiv dX9_owedBy_61 ⟨by omega, by omega⟩ ⟨by omega, by omega⟩ (by omega) (by omega) ?_
    refine eg_lneg dX9_owedBy_62 ?_
    refine eg_lreturn dX9_owedBy_63 rfl ?_
    exact ⟨congrArg (fun q => some (vL q)) (by unfold sDue; first | rw [if_pos (by omega)] | rw [if_neg (by omega)]), rfl, rfl⟩
  · have m1 := due_b hv hB (x := -sOver v r) (by omega) (y := 100 + v 6) (by omega)
    refine eg_lload_n dX9_owedBy_12 rfl ?_
    refine eg_lneg dX9_owedBy_13 ?_
    refine eg_al_n dX9_owedBy_14 rfl rfl ?_
    refine eg_get fl_X9_9 dX9_owedBy_15 (by first | exact er202 | exact er203 | exact er204 | exact er205 | exact er206 | exact er207 | exact er208 | exact er209 | exact er210 | exact er211 | exact er212 | exact er213 | exact er214 | exact er215) rfl ?_
    refine eg_iconst dX9_owedBy_18 ?_
    refine eg_nowL dX9_owedBy_19 hN (by omega) (by omega) ?_
    refine eg_eqL (y := v 5) rfl ?_
    refine eg_lmul dX9_owedBy_20 ?_
    refine eg_ldc2 kw_X9_293 dX9_owedBy_21 ?_
    refine eg_al_n dX9_owedBy_24 rfl rfl ?_
    refine eg_get fl_X9_9 dX9_owedBy_25 (by first | exact er202 | exact er203 | exact er204 | exact er205 | exact er206 | exact er207 | exact er208 | exact er209 | exact er210 | exact er211 | exact er212 | exact er213 | exact er214 | exact er215) rfl ?_
    refine eg_bipush dX9_owedBy_28 (by decide) ?_
    refine eg_nowL dX9_owedBy_30 hN (by omega) (by omega) ?_
    refine eg_eqL (y := v 6) rfl ?_
    refine eg_ladd dX9_owedBy_31 ?_
    refine eg_lmul dX9_owedBy_32 ?_
    refine eg_ldc2 kw_X9_293 dX9_owedBy_33 ?_
    refine eg_ldiv dX9_owedBy_36 ⟨by omega, by omega⟩ ⟨by omega, by omega⟩ (by omega) (by omega) ?_
    refine eg_lreturn dX9_owedBy_37 rfl ?_
    exact ⟨congrArg (fun q => some (vL q)) (by unfold sDue; first | rw [if_pos (by omega)] | rw [if_neg (by omega)]), rfl, rfl⟩
theorem eg_Spv4 {k : eg_K} {g : eg_G} {d bc bs n : Nat} {M : eg_M} {ls st : List Value} {pc : Nat} {Q : eg_Q} {g' : eg_G} {idx d' n' : Nat} {X : eg_M} {P : eg_Z → Prop} {a0 a1 a2 a3 : Value} (hx : eg_cs g.1.cls idx g' 4) (hd : decode g.2.1 pc = .ok (.invokestatic idx, 3)) (hp : eg_P k g' d' 0 0 [a0, a1, a2, a3] n M (eg_p k none n' X P)) (hst : (st.map fun v => v.category).sum ≤ 8) (hdd : d' + 1 ≤ d) (h : ∀ z', P z' → eg_E k g d bc bs n' (enc k z' X) ls st (pc + 3) Q) : eg_E k g d bc bs n M ls (a3 :: a2 :: a1 :: a0 :: st) pc Q :=
  eg_cS (As := [a0, a1, a2, a3]) (bc' := bc) (bs' := bs) hx hd hp rfl hst hdd (Nat.zero_add _).symm (Nat.zero_add _).symm (fun _ _ _ ⟨e1, e2, z', e3, h'⟩ => by subst e1; subst e2; subst e3; exact h z' h')
theorem mvA {k : eg_K} {z : eg_Z} {X : eg_M} {n : Nat} {v : eg_v} (hN : nw z v) : eg_P k gX9_moves 0 0 0 [vR k 203, vI 0, vR k 205, vI 0] n (enc k z X) (eg_p k none n X (fun z' => (∀ c, c ≠ 205 → z' c = z c) ∧ ∀ i : Nat, i < 220 → z' 205 i = v i)) :=
  mv_203_205.weak (fun a b c ⟨e1, e2, e3⟩ => ⟨e1, e2, _, e3, fun d hd => va_up_n _ _ hd, fun i hi => by rw [va_up_s, show i = 220 * 0 + i by omega, cpR_i hi, Nat.mul_zero, Nat.zero_add]; exact hN i hi⟩)
theorem mvB {k : eg_K} {z : eg_Z} {X : eg_M} {n : Nat} {v : eg_v} (h : ∀ i : Nat, i < 220 → z 205 i = v i) : eg_P k gX9_moves 0 0 0 [vR k 205, vI 0, vR k 203, vI 0] n (enc k z X) (eg_p k none n X (fun z' => (∀ c, c ≠ 203 → z' c = z c) ∧ nw z' v)) :=
  mv_205_203.weak (fun a b c ⟨e1, e2, e3⟩ => ⟨e1, e2, _, e3, fun d hd => va_up_n _ _ hd, fun i hi => by rw [va_up_s, show i = 220 * 0 + i by omega, cpR_i hi, Nat.mul_zero, Nat.zero_add]; exact h i hi⟩)
theorem c_laysAside {k : eg_K} {z : eg_Z} {X : eg_M} {n : Nat} {v : eg_v} (hN : nw z v) : eg_P k gX9_laysAside 1 0 0 [vR k 202] n (enc k z X) (eg_p k none n X (fun z' => (∀ c, c ≠ 205 → z' c = z c) ∧ ∀ i : Nat, i < 220 → z' 205 i = v i)) := by
  refine eg_P.of (by decide) (Nat.le_of_ble_eq_true rfl) ?_
  show eg_E k gX9_laysAside 1 0 0 n (enc k z X) [vR k 202] [] 0 _
  refine eg_al_n dX9_laysAside_0 rfl rfl ?_
  refine eg_get fl_X9_9 dX9_laysAside_1 (by first | exact er202 | exact er203 | exact er204 | exact er205 | exact er206 | exact er207 | exact er208 | exact er209 | exact er210 | exact er211 | exact er212 | exact er213 | exact er214 | exact er215) rfl ?_
  refine eg_iconst dX9_laysAside_4 ?_
  refine eg_al_n dX9_laysAside_5 rfl rfl ?_
  refine eg_get fl_X9_16 dX9_laysAside_6 (by first | exact er202 | exact er203 | exact er204 | exact er205 | exact er206 | exact er207 | exact er208 | exact er209 | exact er210 | exact er211 | exact er212 | exact er213 | exact er214 | exact er215) rfl ?_
  refine eg_iconst dX9_laysAside_9 ?_
  refine eg_Spv4 cs_X9_172 dX9_laysAside_10 (mvA hN) (Nat.le_of_ble_eq_true rfl) (by decide) ?_
  rintro y1 ⟨f1, g1⟩
  refine eg_return dX9_laysAside_13 rfl ?_
  exact ⟨rfl, rfl, y1, rfl, f1, g1⟩
theorem c_laysBack {k : eg_K} {z : eg_Z} {X : eg_M} {n : Nat} {v : eg_v} (h : ∀ i : Nat, i < 220 → z 205 i = v i) : eg_P k gX9_laysBack 1 0 0 [vR k 202] n (enc k z X) (eg_p k none n X (fun z' => (∀ c, c ≠ 203 → z' c = z c) ∧ nw z' v)) := by
  refine eg_P.of (by decide) (Nat.le_of_ble_eq_true rfl) ?_
  show eg_E k gX9_laysBack 1 0 0 n (enc k z X) [vR k 202] [] 0 _
  refine eg_al_n dX9_laysBack_0 rfl rfl ?_
  refine eg_get fl_X9_16 dX9_laysBack_1 (by first | exact er202 | exact er203 | exact er204 | exact er205 | exact er206 | exact er207 | exact er208 | exact er209 | exact er210 | exact er211 | exact er212 | exact er213 | exact er214 | exact er215) rfl ?_
  refine eg_iconst dX9_laysBack_4 ?_
  refine eg_al_n dX9_laysBack_5 rfl rfl ?_
  refine eg_get fl_X9_9 dX9_laysBack_6 (by first | exact er202 | exact er203 | exact er204 | exact er205 | exact er206 | exact er207 | exact er208 | exact er209 | exact er210 | exact er211 | exact er212 | exact er213 | exact er214 | exact er215) rfl ?_
  refine eg_iconst dX9_laysBack_9 ?_
  refine eg_Spv4 cs_X9_172 dX9_laysBack_10 (mvB h) (Nat.le_of_ble_eq_true rfl) (by decide) ?_
  rintro y1 ⟨f1, g1⟩
  refine eg_return dX9_laysBack_13 rfl ?_
  exact ⟨rfl, rfl, y1, rfl, f1, g1⟩
