theorem va_up_c {α : Type} (f : Nat → α) {i j : Nat} (x y : α) (h : i ≠ j) : va_up (va_up f i x) j y = va_up (va_up f j y) i x := by
  funext q
  unfold va_up
  by_cases h1 : q = j
  · subst h1; rw [if_pos rfl, if_neg (fun e => h e.symm), if_pos rfl]
  · by_cases h2 : q = i
    · subst h2; rw [if_neg h1, if_pos rfl, if_pos rfl]
    · rw [if_neg h1, if_neg h2, if_neg h2, if_neg h1]
theorem bec_1 {k : eg_K} {z : eg_Z} {X : eg_M} {n b b2 : Nat} (hb : isB b = true) (hb2 : isB b2 = true) (hd : b + 12 ≤ b2 ∨ b2 + 12 ≤ b) (hc : 0 ≤ z (b2 + 1) 3 ∧ z (b2 + 1) 3 ≤ 7) : eg_P k gX5_become 1 0 0 [vR k (b + 1), vR k (b2 + 1)] n (enc k z X) (eg_p k none n X (fun z' => (∀ c, c ≠ b + 1 → c ≠ b + 2 → z' c = z c) ∧ z' (b + 1) 3 = z (b2 + 1) 3 ∧ ∀ q : Nat, q < 14 → z' (b + 2) q = z (b2 + 2) q)) := by
  refine eg_P.of (by decide) (Nat.le_of_ble_eq_true rfl) ?_
  show eg_E k gX5_become 1 0 0 n (enc k z X) [vR k (b + 1), vR k (b2 + 1)] [] 0 _
  refine eg_al_n dX5_become_0 rfl rfl ?_
  refine eg_al_n dX5_become_1 rfl rfl ?_
  refine eg_get fl_X5_9 dX5_become_2 (by first | exact ep1 hb | exact ep1 hb2 | exact ep2 hb | exact ep2 hb2) rfl ?_
  refine eg_al_n dX5_become_5 rfl rfl ?_
  refine eg_get fl_X5_24 dX5_become_6 (by first | exact ep1 hb | exact ep1 hb2 | exact ep2 hb | exact ep2 hb2) rfl ?_
  refine eg_mmin cs_X5_46 dX5_become_9 ⟨by omega, by omega⟩ ⟨by omega, by omega⟩ (Nat.le_of_ble_eq_true rfl) (by decide) ?_
  rw [if_neg (by omega)]
  refine eg_put fl_X5_9 dX5_become_12 (by first | exact ep1 hb | exact ep1 hb2 | exact ep2 hb | exact ep2 hb2) rfl rfl rfl rfl ?_
  refine eg_eqM (es1 hb) ?_
  generalize w0 : va_up z (b + 1) _ = y0
  have f0 : (∀ c, c ≠ b + 1 → y0 c = z c) ∧ y0 (b + 1) 3 = z (b2 + 1) 3 := ⟨fun c hc9 => by rw [← w0, va_up_n _ _ hc9], by rw [← w0, va_up_s, va_up_s]⟩
  clear w0
  refine eg_al_n dX5_become_15 rfl rfl ?_
  refine eg_get fl_X5_27 dX5_become_16 (by first | exact ep1 hb | exact ep1 hb2 | exact ep2 hb | exact ep2 hb2) rfl ?_
  refine eg_iconst dX5_become_19 ?_
  refine eg_al_n dX5_become_20 rfl rfl ?_
  refine eg_get fl_X5_27 dX5_become_21 (by first | exact ep1 hb | exact ep1 hb2 | exact ep2 hb | exact ep2 hb2) rfl ?_
  refine eg_iconst dX5_become_24 ?_
  refine eg_al_n dX5_become_25 rfl rfl ?_
  refine eg_get fl_X5_27 dX5_become_26 (by first | exact ep1 hb | exact ep1 hb2 | exact ep2 hb | exact ep2 hb2) rfl ?_
  refine eg_lenI dX5_become_29 (by first | exact ep1 hb | exact ep1 hb2 | exact ep2 hb | exact ep2 hb2) ?_
  refine eg_al_n dX5_become_30 rfl rfl ?_
  refine eg_get fl_X5_27 dX5_become_31 (by first | exact ep1 hb | exact ep1 hb2 | exact ep2 hb | exact ep2 hb2) rfl ?_
  refine eg_lenI dX5_become_34 (by first | exact ep1 hb | exact ep1 hb2 | exact ep2 hb | exact ep2 hb2) ?_
  refine eg_mmin cs_X5_46 dX5_become_35 ⟨by omega, by omega⟩ ⟨by omega, by omega⟩ (Nat.le_of_ble_eq_true rfl) (by decide) ?_
  rw [if_neg (by omega)]
  refine eg_acI (SP := 0) (DP := 0) (N := 14) ac_X5_49 ac_nat dX5_become_38 (ep2 hb2) (ep2 hb) rfl rfl rfl (by decide) (by decide) (by decide) (by decide) (Nat.le_of_ble_eq_true rfl) (by decide) ?_
  refine eg_return dX5_become_41 rfl ?_
  refine ⟨rfl, rfl, va_up y0 (b + 2) (va_cpy (y0 (b2 + 2)) (y0 (b + 2)) 0 0 14), es2 hb, ?_, ?_, ?_⟩
  · intro c h1 h2
    rw [va_up_n _ _ h2, f0.1 c h1]
  · rw [va_up_n _ _ (by omega)]; exact f0.2
  · intro q hq
    rw [va_up_s]
    unfold va_cpy
    rw [if_pos (by omega), f0.1 _ (by omega)]
    congr 1; omega
theorem bec_3 {k : eg_K} {z : eg_Z} {X : eg_M} {n b b2 : Nat} (hb : isB b = true) (hb2 : isB b2 = true) (hd : b + 12 ≤ b2 ∨ b2 + 12 ≤ b) (hc : 0 ≤ z (b2 + 3) 3 ∧ z (b2 + 3) 3 ≤ 10) : eg_P k gX5_become 1 0 0 [vR k (b + 3), vR k (b2 + 3)] n (enc k z X) (eg_p k none n X (fun z' => (∀ c, c ≠ b + 3 → c ≠ b + 4 → z' c = z c) ∧ z' (b + 3) 3 = z (b2 + 3) 3 ∧ ∀ q : Nat, q < 40 → z' (b + 4) q = z (b2 + 4) q)) := by
  refine eg_P.of (by decide) (Nat.le_of_ble_eq_true rfl) ?_
  show eg_E k gX5_become 1 0 0 n (enc k z X) [vR k (b + 3), vR k (b2 + 3)] [] 0 _
  refine eg_al_n dX5_become_0 rfl rfl ?_
  refine eg_al_n dX5_become_1 rfl rfl ?_
  refine eg_get fl_X5_9 dX5_become_2 (by first | exact ep3 hb | exact ep3 hb2 | exact ep4 hb | exact ep4 hb2) rfl ?_
  refine eg_al_n dX5_become_5 rfl rfl ?_
  refine eg_get fl_X5_24 dX5_become_6 (by first | exact ep3 hb | exact ep3 hb2 | exact ep4 hb | exact ep4 hb2) rfl ?_
  refine eg_mmin cs_X5_46 dX5_become_9 ⟨by omega, by omega⟩ ⟨by omega, by omega⟩ (Nat.le_of_ble_eq_true rfl) (by decide) ?_
  rw [if_neg (by omega)]
  refine eg_put fl_X5_9 dX5_become_12 (by first | exact ep3 hb | exact ep3 hb2 | exact ep4 hb | exact ep4 hb2) rfl rfl rfl rfl ?_
  refine eg_eqM (es3 hb) ?_
  generalize w0 : va_up z (b + 3) _ = y0
  have f0 : (∀ c, c ≠ b + 3 → y0 c = z c) ∧ y0 (b + 3) 3 = z (b2 + 3) 3 := ⟨fun c hc9 => by rw [← w0, va_up_n _ _ hc9], by rw [← w0, va_up_s, va_up_s]⟩
  clear w0
  refine eg_al_n dX5_become_15 rfl rfl ?_
  refine eg_get fl_X5_27 dX5_become_16 (by first | exact ep3 hb | exact ep3 hb2 | exact ep4 hb | exact ep4 hb2) rfl ?_
  refine eg_iconst dX5_become_19 ?_
  refine eg_al_n dX5_become_20 rfl rfl ?_
  refine eg_get fl_X5_27 dX5_become_21 (by first | exact ep3 hb | exact ep3 hb2 | exact ep4 hb | exact ep4 hb2) rfl ?_
  refine eg_iconst dX5_become_24 ?_
  refine eg_al_n dX5_become_25 rfl rfl ?_
  refine eg_get fl_X5_27 dX5_become_26 (by first | exact ep3 hb | exact ep3 hb2 | exact ep4 hb | exact ep4 hb2) rfl ?_
  refine eg_lenI dX5_become_29 (by first | exact ep3 hb | exact ep3 hb2 | exact ep4 hb | exact ep4 hb2) ?_
  refine eg_al_n dX5_become_30 rfl rfl ?_
  refine eg_get fl_X5_27 dX5_become_31 (by first | exact ep3 hb | exact ep3 hb2 | exact ep4 hb | exact ep4 hb2) rfl ?_
  refine eg_lenI dX5_become_34 (by first | exact ep3 hb | exact ep3 hb2 | exact ep4 hb | exact ep4 hb2) ?_
  refine eg_mmin cs_X5_46 dX5_become_35 ⟨by omega, by omega⟩ ⟨by omega, by omega⟩ (Nat.le_of_ble_eq_true rfl) (by decide) ?_
  rw [if_neg (by omega)]
  refine eg_acI (SP := 0) (DP := 0) (N := 40) ac_X5_49 ac_nat dX5_become_38 (ep4 hb2) (ep4 hb) rfl rfl rfl (by decide) (by decide) (by decide) (by decide) (Nat.le_of_ble_eq_true rfl) (by decide) ?_
  refine eg_return dX5_become_41 rfl ?_
  refine ⟨rfl, rfl, va_up y0 (b + 4) (va_cpy (y0 (b2 + 4)) (y0 (b + 4)) 0 0 40), es4 hb, ?_, ?_, ?_⟩
  · intro c h1 h2
    rw [va_up_n _ _ h2, f0.1 c h1]
  · rw [va_up_n _ _ (by omega)]; exact f0.2
  · intro q hq
    rw [va_up_s]
    unfold va_cpy
    rw [if_pos (by omega), f0.1 _ (by omega)]
    congr 1; omega
theorem bec_5 {k : eg_K} {z : eg_Z} {X : eg_M} {n b b2 : Nat} (hb : isB b = true) (hb2 : isB b2 = true) (hd : b + 12 ≤ b2 ∨ b2 + 12 ≤ b) (hc : 0 ≤ z (b2 + 5) 3 ∧ z (b2 + 5) 3 ≤ 6) : eg_P k gX5_become 1 0 0 [vR k (b + 5), vR k (b2 + 5)] n (enc k z X) (eg_p k none n X (fun z' => (∀ c, c ≠ b + 5 → c ≠ b + 6 → z' c = z c) ∧ z' (b + 5) 3 = z (b2 + 5) 3 ∧ ∀ q : Nat, q < 36 → z' (b + 6) q = z (b2 + 6) q)) := by
  refine eg_P.of (by decide) (Nat.le_of_ble_eq_true rfl) ?_
  show eg_E k gX5_become 1 0 0 n (enc k z X) [vR k (b + 5), vR k (b2 + 5)] [] 0 _
  refine eg_al_n dX5_become_0 rfl rfl ?_
  refine eg_al_n dX5_become_1 rfl rfl ?_
  refine eg_get fl_X5_9 dX5_become_2 (by first | exact ep5 hb | exact ep5 hb2 | exact ep6 hb | exact ep6 hb2) rfl ?_
  refine eg_al_n dX5_become_5 rfl rfl ?_
  refine eg_get fl_X5_24 dX5_become_6 (by first | exact ep5 hb | exact ep5 hb2 | exact ep6 hb | exact ep6 hb2) rfl ?_
  refine eg_mmin cs_X5_46 dX5_become_9 ⟨by omega, by omega⟩ ⟨by omega, by omega⟩ (Nat.le_of_ble_eq_true rfl) (by decide) ?_
  rw [if_neg (by omega)]
  refine eg_put fl_X5_9 dX5_become_12 (by first | exact ep5 hb | exact ep5 hb2 | exact ep6 hb | exact ep6 hb2) rfl rfl rfl rfl ?_
  refine eg_eqM (es5 hb) ?_
  generalize w0 : va_up z (b + 5) _ = y0
  have f0 : (∀ c, c ≠ b + 5 → y0 c = z c) ∧ y0 (b + 5) 3 = z (b2 + 5) 3 := ⟨fun c hc9 => by rw [← w0, va_up_n _ _ hc9], by rw [← w0, va_up_s, va_up_s]⟩
  clear w0
  refine eg_al_n dX5_become_15 rfl rfl ?_
  refine eg_get fl_X5_27 dX5_become_16 (by first | exact ep5 hb | exact ep5 hb2 | exact ep6 hb | exact ep6 hb2) rfl ?_
  refine eg_iconst dX5_become_19 ?_
  refine eg_al_n dX5_become_20 rfl rfl ?_
  refine eg_get fl_X5_27 dX5_become_21 (by first | exact ep5 hb | exact ep5 hb2 | exact ep6 hb | exact ep6 hb2) rfl ?_
  refine eg_iconst dX5_become_24 ?_
  refine eg_al_n dX5_become_25 rfl rfl ?_
  refine eg_get fl_X5_27 dX5_become_26 (by first | exact ep5 hb | exact ep5 hb2 | exact ep6 hb | exact ep6 hb2) rfl ?_
  refine eg_lenI dX5_become_29 (by first | exact ep5 hb | exact ep5 hb2 | exact ep6 hb | exact ep6 hb2) ?_
  refine eg_al_n dX5_become_30 rfl rfl ?_
  refine eg_get fl_X5_27 dX5_become_31 (by first | exact ep5 hb | exact ep5 hb2 | exact ep6 hb | exact ep6 hb2) rfl ?_
  refine eg_lenI dX5_become_34 (by first | exact ep5 hb | exact ep5 hb2 | exact ep6 hb | exact ep6 hb2) ?_
  refine eg_mmin cs_X5_46 dX5_become_35 ⟨by omega, by omega⟩ ⟨by omega, by omega⟩ (Nat.le_of_ble_eq_true rfl) (by decide) ?_
  rw [if_neg (by omega)]
  refine eg_acI (SP := 0) (DP := 0) (N := 36) ac_X5_49 ac_nat dX5_become_38 (ep6 hb2) (ep6 hb) rfl rfl rfl (by decide) (by decide) (by decide) (by decide) (Nat.le_of_ble_eq_true rfl) (by decide) ?_
  refine eg_return dX5_become_41 rfl ?_
  refine ⟨rfl, rfl, va_up y0 (b + 6) (va_cpy (y0 (b2 + 6)) (y0 (b + 6)) 0 0 36), es6 hb, ?_, ?_, ?_⟩
  · intro c h1 h2
    rw [va_up_n _ _ h2, f0.1 c h1]
  · rw [va_up_n _ _ (by omega)]; exact f0.2
  · intro q hq
    rw [va_up_s]
    unfold va_cpy
    rw [if_pos (by omega), f0.1 _ (by omega)]
    congr 1; omega
theorem bec_7 {k : eg_K} {z : eg_Z} {X : eg_M} {n b b2 : Nat} (hb : isB b = true) (hb2 : isB b2 = true) (hd : b + 12 ≤ b2 ∨ b2 + 12 ≤ b) (hc : 0 ≤ z (b2 + 7) 3 ∧ z (b2 + 7) 3 ≤ 16) : eg_P k gX5_become 1 0 0 [vR k (b + 7), vR k (b2 + 7)] n (enc k z X) (eg_p k none n X (fun z' => (∀ c, c ≠ b + 7 → c ≠ b + 8 → z' c = z c) ∧ z' (b + 7) 3 = z (b2 + 7) 3 ∧ ∀ q : Nat, q < 64 → z' (b + 8) q = z (b2 + 8) q)) := by
  refine eg_P.of (by decide) (Nat.le_of_ble_eq_true rfl) ?_
  show eg_E k gX5_become 1 0 0 n (enc k z X) [vR k (b + 7), vR k (b2 + 7)] [] 0 _
  refine eg_al_n dX5_become_0 rfl rfl ?_
  refine eg_al_n dX5_become_1 rfl rfl ?_
  refine eg_get fl_X5_9 dX5_become_2 (by first | exact ep7 hb | exact ep7 hb2 | exact ep8 hb | exact ep8 hb2) rfl ?_
  refine eg_al_n dX5_become_5 rfl rfl ?_
  refine eg_get fl_X5_24 dX5_become_6 (by first | exact ep7 hb | exact ep7 hb2 | exact ep8 hb | exact ep8 hb2) rfl ?_
  refine eg_mmin cs_X5_46 dX5_become_9 ⟨by omega, by omega⟩ ⟨by omega, by omega⟩ (Nat.le_of_ble_eq_true rfl) (by decide) ?_
  rw [if_neg (by omega)]
  refine eg_put fl_X5_9 dX5_become_12 (by first | exact ep7 hb | exact ep7 hb2 | exact ep8 hb | exact ep8 hb2) rfl rfl rfl rfl ?_
  refine eg_eqM (es7 hb) ?_
  generalize w0 : va_up z (b + 7) _ = y0
  have f0 : (∀ c, c ≠ b + 7 → y0 c = z c) ∧ y0 (b + 7) 3 = z (b2 + 7) 3 := ⟨fun c hc9 => by rw [← w0, va_up_n _ _ hc9], by rw [← w0, va_up_s, va_up_s]⟩
  clear w0
  refine eg_al_n dX5_become_15 rfl rfl ?_
  refine eg_get fl_X5_27 dX5_become_16 (by first | exact ep7 hb | exact ep7 hb2 | exact ep8 hb | exact ep8 hb2) rfl ?_
  refine eg_iconst dX5_become_19 ?_
  refine eg_al_n dX5_become_20 rfl rfl ?_
  refine eg_get fl_X5_27 dX5_become_21 (by first | exact ep7 hb | exact ep7 hb2 | exact ep8 hb | exact ep8 hb2) rfl ?_
  refine eg_iconst dX5_become_24 ?_
  refine eg_al_n dX5_become_25 rfl rfl ?_
  refine eg_get fl_X5_27 dX5_become_26 (by first | exact ep7 hb | exact ep7 hb2 | exact ep8 hb | exact ep8 hb2) rfl ?_
  refine eg_lenI dX5_become_29 (by first | exact ep7 hb | exact ep7 hb2 | exact ep8 hb | exact ep8 hb2) ?_
  refine eg_al_n dX5_become_30 rfl rfl ?_
  refine eg_get fl_X5_27 dX5_become_31 (by first | exact ep7 hb | exact ep7 hb2 | exact ep8 hb | exact ep8 hb2) rfl ?_
  refine eg_lenI dX5_become_34 (by first | exact ep7 hb | exact ep7 hb2 | exact ep8 hb | exact ep8 hb2) ?_
  refine eg_mmin cs_X5_46 dX5_become_35 ⟨by omega, by omega⟩ ⟨by omega, by omega⟩ (Nat.le_of_ble_eq_true rfl) (by decide) ?_
  rw [if_neg (by omega)]
  refine eg_acI (SP := 0) (DP := 0) (N := 64) ac_X5_49 ac_nat dX5_become_38 (ep8 hb2) (ep8 hb) rfl rfl rfl (by decide) (by decide) (by decide) (by decide) (Nat.le_of_ble_eq_true rfl) (by decide) ?_
  refine eg_return dX5_become_41 rfl ?_
  refine ⟨rfl, rfl, va_up y0 (b + 8) (va_cpy (y0 (b2 + 8)) (y0 (b + 8)) 0 0 64), es8 hb, ?_, ?_, ?_⟩
  · intro c h1 h2
    rw [va_up_n _ _ h2, f0.1 c h1]
  · rw [va_up_n _ _ (by omega)]; exact f0.2
  · intro q hq
    rw [va_up_s]
    unfold va_cpy
    rw [if_pos (by omega), f0.1 _ (by omega)]
    congr 1; omega
theorem c_X2_become {k : eg_K} {z : eg_Z} {X : eg_M} {n b b2 : Nat} {v : eg_v} {B : Int} (hb : isB b = true) (hb2 : isB b2 = true) (hne : b ≠ b2) (hp : hP z b2 v) (hv : VV B v) : eg_P k gX2_become 2 0 0 [vR k b, vR k b2] n (enc k z X) (eg_p k none n X (fun z' => Md z z' b ∧ hP z' b v ∧ (hL z b2 v → hL z' b v))) := by
  refine eg_P.of (by decide) (Nat.le_of_ble_eq_true rfl) ?_
  show eg_E k gX2_become 2 0 0 n (enc k z X) [vR k b, vR k b2] [] 0 _
  have q := hv.r
  have hdj := isB_a hb hb2 hne
  obtain ⟨⟨z0, z1, z2, z3⟩, ⟨c1, c3, c5, c7⟩, -⟩ := id hp
  refine eg_al_n dX2_become_0 rfl rfl ?_
  refine eg_al_n dX2_become_1 rfl rfl ?_
  refine eg_get fl_X2_9 dX2_become_2 (by first | exact ep0 hb | exact ep0 hb2 | exact ep1 hb | exact ep3 hb | exact ep5 hb | exact ep7 hb | exact ep9 hb | exact ep9 hb2 | exact ep10 hb | exact ep10 hb2 | exact ep11 hb | exact ep11 hb2) rfl ?_
  refine eg_put fl_X2_9 dX2_become_5 (by first | exact ep0 hb | exact ep0 hb2 | exact ep1 hb | exact ep3 hb | exact ep5 hb | exact ep7 hb | exact ep9 hb | exact ep9 hb2 | exact ep10 hb | exact ep10 hb2 | exact ep11 hb | exact ep11 hb2) rfl rfl rfl rfl ?_
  refine eg_eqM (es0_0 hb) ?_
  generalize w0 : va_up z b _ = y0
  have f0 : (∀ c, c ≠ b → y0 c = z c) ∧ (∀ q, q ≤ 0 → y0 b q = z b2 q) := ⟨fun c hc9 => by rw [← w0, va_up_n _ _ hc9], fun q9 hq9 => by
    rw [← w0, va_up_s]
    by_cases h9 : q9 = 0
    · rw [h9, va_up_s]
    · rw [va_up_n _ _ h9]; omega⟩
  clear w0
  refine eg_al_n dX2_become_8 rfl rfl ?_
  refine eg_al_n dX2_become_9 rfl rfl ?_
  refine eg_get fl_X2_15 dX2_become_10 (by first | exact ep0 hb | exact ep0 hb2 | exact ep1 hb | exact ep3 hb | exact ep5 hb | exact ep7 hb | exact ep9 hb | exact ep9 hb2 | exact ep10 hb | exact ep10 hb2 | exact ep11 hb | exact ep11 hb2) rfl ?_
  refine eg_put fl_X2_15 dX2_become_13 (by first | exact ep0 hb | exact ep0 hb2 | exact ep1 hb | exact ep3 hb | exact ep5 hb | exact ep7 hb | exact ep9 hb | exact ep9 hb2 | exact ep10 hb | exact ep10 hb2 | exact ep11 hb | exact ep11 hb2) rfl rfl rfl rfl ?_
  refine eg_eqM (es0_1 hb) ?_
  generalize w1 : va_up y0 b _ = y1
  have f1 : (∀ c, c ≠ b → y1 c = z c) ∧ (∀ q, q ≤ 1 → y1 b q = z b2 q) := ⟨fun c hc9 => by rw [← w1, va_up_n _ _ hc9]; exact f0.1 c hc9, fun q9 hq9 => by
    rw [← w1, va_up_s]
    by_cases h9 : q9 = 1
    · rw [h9, va_up_s]; rw [f0.1 b2 (by omega)]
    · rw [va_up_n _ _ h9]; exact f0.2 q9 (by omega)⟩
  clear w1
  refine eg_al_n dX2_become_16 rfl rfl ?_
  refine eg_al_n dX2_become_17 rfl rfl ?_
  refine eg_get fl_X2_18 dX2_become_18 (by first | exact ep0 hb | exact ep0 hb2 | exact ep1 hb | exact ep3 hb | exact ep5 hb | exact ep7 hb | exact ep9 hb | exact ep9 hb2 | exact ep10 hb | exact ep10 hb2 | exact ep11 hb | exact ep11 hb2) rfl ?_
  refine eg_put fl_X2_18 dX2_become_21 (by first | exact ep0 hb | exact ep0 hb2 | exact ep1 hb | exact ep3 hb | exact ep5 hb | exact ep7 hb | exact ep9 hb | exact ep9 hb2 | exact ep10 hb | exact ep10 hb2 | exact ep11 hb | exact ep11 hb2) rfl rfl rfl rfl ?_
  refine eg_eqM (es0_2 hb) ?_
  generalize w2 : va_up y1 b _ = y2
  have f2 : (∀ c, c ≠ b → y2 c = z c) ∧ (∀ q, q ≤ 2 → y2 b q = z b2 q) := ⟨fun c hc9 => by rw [← w2, va_up_n _ _ hc9]; exact f1.1 c hc9, fun q9 hq9 => by
    rw [← w2, va_up_s]
    by_cases h9 : q9 = 2
    · rw [h9, va_up_s]; rw [f1.1 b2 (by omega)]
    · rw [va_up_n _ _ h9]; exact f1.2 q9 (by omega)⟩
  clear w2
  refine eg_al_n dX2_become_24 rfl rfl ?_
  refine eg_al_n dX2_become_25 rfl rfl ?_
  refine eg_get fl_X2_21 dX2_become_26 (by first | exact ep0 hb | exact ep0 hb2 | exact ep1 hb | exact ep3 hb | exact ep5 hb | exact ep7 hb | exact ep9 hb | exact ep9 hb2 | exact ep10 hb | exact ep10 hb2 | exact ep11 hb | exact ep11 hb2) rfl ?_
  refine eg_put fl_X2_21 dX2_become_29 (by first | exact ep0 hb | exact ep0 hb2 | exact ep1 hb | exact ep3 hb | exact ep5 hb | exact ep7 hb | exact ep9 hb | exact ep9 hb2 | exact ep10 hb | exact ep10 hb2 | exact ep11 hb | exact ep11 hb2) rfl rfl rfl rfl ?_
  refine eg_eqM (es0_3 hb) ?_
  generalize w3 : va_up y2 b _ = y3
  have f3 : (∀ c, c ≠ b → y3 c = z c) ∧ (∀ q, q ≤ 3 → y3 b q = z b2 q) := ⟨fun c hc9 => by rw [← w3, va_up_n _ _ hc9]; exact f2.1 c hc9, fun q9 hq9 => by
    rw [← w3, va_up_s]
    by_cases h9 : q9 = 3
    · rw [h9, va_up_s]; rw [f2.1 b2 (by omega)]
    · rw [va_up_n _ _ h9]; exact f2.2 q9 (by omega)⟩
  clear w3
  have F3 : ∀ c, c < b ∨ b + 12 ≤ c → y3 c = z c := fun c hc => f3.1 c (by omega)
  refine eg_al_n dX2_become_32 rfl rfl ?_
  refine eg_get fl_X2_29 dX2_become_33 (by first | exact ep0 hb | exact ep0 hb2 | exact ep1 hb | exact ep3 hb | exact ep5 hb | exact ep7 hb | exact ep9 hb | exact ep9 hb2 | exact ep10 hb | exact ep10 hb2 | exact ep11 hb | exact ep11 hb2) rfl ?_
  refine eg_al_n dX2_become_36 rfl rfl ?_
  refine eg_get fl_X2_29 dX2_become_37 (by first | exact ep0 hb | exact ep0 hb2 | exact ep1 hb | exact ep3 hb | exact ep5 hb | exact ep7 hb | exact ep9 hb | exact ep9 hb2 | exact ep10 hb | exact ep10 hb2 | exact ep11 hb | exact ep11 hb2) rfl ?_
  refine eg_Vpv1 cs_X2_65 dX2_become_40 (bec_1 hb hb2 hdj (by rw [F3 (b2 + 1) (by omega), c1]; omega)) (by first | exact ep0 hb | exact ep0 hb2 | exact ep1 hb | exact ep3 hb | exact ep5 hb | exact ep7 hb | exact ep9 hb | exact ep9 hb2 | exact ep10 hb | exact ep10 hb2 | exact ep11 hb | exact ep11 hb2) rfl (Nat.le_of_ble_eq_true rfl) (by decide) ?_
  rintro y4 ⟨a4, b4, d4⟩
  have F4 : ∀ c, c < b ∨ b + 12 ≤ c → y4 c = z c := fun c hc => by rw [a4 c (by omega) (by omega)]; exact F3 c hc
  refine eg_al_n dX2_become_43 rfl rfl ?_
  refine eg_get fl_X2_33 dX2_become_44 (by first | exact ep0 hb | exact ep0 hb2 | exact ep1 hb | exact ep3 hb | exact ep5 hb | exact ep7 hb | exact ep9 hb | exact ep9 hb2 | exact ep10 hb | exact ep10 hb2 | exact ep11 hb | exact ep11 hb2) rfl ?_
  refine eg_al_n dX2_become_47 rfl rfl ?_
  refine eg_get fl_X2_33 dX2_become_48 (by first | exact ep0 hb | exact ep0 hb2 | exact ep1 hb | exact ep3 hb | exact ep5 hb | exact ep7 hb | exact ep9 hb | exact ep9 hb2 | exact ep10 hb | exact ep10 hb2 | exact ep11 hb | exact ep11 hb2) rfl ?_
  refine eg_Vpv1 cs_X2_65 dX2_become_51 (bec_3 hb hb2 hdj (by rw [F4 (b2 + 3) (by omega), c3]; omega)) (by first | exact ep0 hb | exact ep0 hb2 | exact ep1 hb | exact ep3 hb | exact ep5 hb | exact ep7 hb | exact ep9 hb | exact ep9 hb2 | exact ep10 hb | exact ep10 hb2 | exact ep11 hb | exact ep11 hb2) rfl (Nat.le_of_ble_eq_true rfl) (by decide) ?_
  rintro y5 ⟨a5, b5, d5⟩
  have F5 : ∀ c, c < b ∨ b + 12 ≤ c → y5 c = z c := fun c hc => by rw [a5 c (by omega) (by omega)]; exact F4 c hc
  refine eg_al_n dX2_become_54 rfl rfl ?_
  refine eg_get fl_X2_36 dX2_become_55 (by first | exact ep0 hb | exact ep0 hb2 | exact ep1 hb | exact ep3 hb | exact ep5 hb | exact ep7 hb | exact ep9 hb | exact ep9 hb2 | exact ep10 hb | exact ep10 hb2 | exact ep11 hb | exact ep11 hb2) rfl ?_
  refine eg_al_n dX2_become_58 rfl rfl ?_
  refine eg_get fl_X2_36 dX2_become_59 (by first | exact ep0 hb | exact ep0 hb2 | exact ep1 hb | exact ep3 hb | exact ep5 hb | exact ep7 hb | exact ep9 hb | exact ep9 hb2 | exact ep10 hb | exact ep10 hb2 | exact ep11 hb | exact ep11 hb2) rfl ?_
  refine eg_Vpv1 cs_X2_65 dX2_become_62 (bec_5 hb hb2 hdj (by rw [F5 (b2 + 5) (by omega), c5]; omega)) (by first | exact ep0 hb | exact ep0 hb2 | exact ep1 hb | exact ep3 hb | exact ep5 hb | exact ep7 hb | exact ep9 hb | exact ep9 hb2 | exact ep10 hb | exact ep10 hb2 | exact ep11 hb | exact ep11 hb2) rfl (Nat.le_of_ble_eq_true rfl) (by decide) ?_
  rintro y6 ⟨a6, b6, d6⟩
  have F6 : ∀ c, c < b ∨ b + 12 ≤ c → y6 c = z c := fun c hc => by rw [a6 c (by omega) (by omega)]; exact F5 c hc
  refine eg_al_n dX2_become_65 rfl rfl ?_
  refine eg_get fl_X2_39 dX2_become_66 (by first | exact ep0 hb | exact ep0 hb2 | exact ep1 hb | exact ep3 hb | exact ep5 hb | exact ep7 hb | exact ep9 hb | exact ep9 hb2 | exact ep10 hb | exact ep10 hb2 | exact ep11 hb | exact ep11 hb2) rfl ?_
  refine eg_al_n dX2_become_69 rfl rfl ?_
  refine eg_get fl_X2_39 dX2_become_70 (by first | exact ep0 hb | exact ep0 hb2 | exact ep1 hb | exact ep3 hb | exact ep5 hb | exact ep7 hb | exact ep9 hb | exact ep9 hb2 | exact ep10 hb | exact ep10 hb2 | exact ep11 hb | exact ep11 hb2) rfl ?_
  refine eg_Vpv1 cs_X2_65 dX2_become_73 (bec_7 hb hb2 hdj (by rw [F6 (b2 + 7) (by omega), c7]; omega)) (by first | exact ep0 hb | exact ep0 hb2 | exact ep1 hb | exact ep3 hb | exact ep5 hb | exact ep7 hb | exact ep9 hb | exact ep9 hb2 | exact ep10 hb | exact ep10 hb2 | exact ep11 hb | exact ep11 hb2) rfl (Nat.le_of_ble_eq_true rfl) (by decide) ?_
  rintro y7 ⟨a7, b7, d7⟩
  have F7 : ∀ c, c < b ∨ b + 12 ≤ c → y7 c = z c := fun c hc => by rw [a7 c (by omega) (by omega)]; exact F6 c hc
  refine eg_al_n dX2_become_76 rfl rfl ?_
  refine eg_get fl_X2_42 dX2_become_77 (by first | exact ep0 hb | exact ep0 hb2 | exact ep1 hb | exact ep3 hb | exact ep5 hb | exact ep7 hb | exact ep9 hb | exact ep9 hb2 | exact ep10 hb | exact ep10 hb2 | exact ep11 hb | exact ep11 hb2) rfl ?_
  refine eg_iconst dX2_become_80 ?_
  refine eg_al_n dX2_become_81 rfl rfl ?_
  refine eg_get fl_X2_42 dX2_become_82 (by first | exact ep0 hb | exact ep0 hb2 | exact ep1 hb | exact ep3 hb | exact ep5 hb | exact ep7 hb | exact ep9 hb | exact ep9 hb2 | exact ep10 hb | exact ep10 hb2 | exact ep11 hb | exact ep11 hb2) rfl ?_
  refine eg_iconst dX2_become_85 ?_
  refine eg_bipush dX2_become_86 (by decide) ?_
  refine eg_acL (SP := 0) (DP := 0) (N := 6) ac_X2_69 ac_nat dX2_become_88 (ep9 hb2) (ep9 hb) rfl rfl rfl (by decide) (by decide) (by decide) (by decide) (Nat.le_of_ble_eq_true rfl) (by decide) ?_
  refine eg_eqM (es9 hb) ?_
  generalize w8 : va_up y7 (b + 9) _ = y8
  have a8 : (∀ c, c ≠ b + 9 → y8 c = y7 c) := fun c hc9 => by rw [← w8, va_up_n _ _ hc9]
  have F8 : ∀ c, c < b ∨ b + 12 ≤ c → y8 c = z c := fun c hc => by rw [a8 c (by omega)]; exact F7 c hc
  have d8 : ∀ q : Nat, q < 6 → y8 (b + 9) q = z (b2 + 9) q := fun q9 hq9 => by
    rw [← w8, va_up_s]
    unfold va_cpy
    rw [if_pos (by omega), F7 _ (by omega)]
    congr 1; omega
  clear w8
  refine eg_al_n dX2_become_91 rfl rfl ?_
  refine eg_get fl_X2_46 dX2_become_92 (by first | exact ep0 hb | exact ep0 hb2 | exact ep1 hb | exact ep3 hb | exact ep5 hb | exact ep7 hb | exact ep9 hb | exact ep9 hb2 | exact ep10 hb | exact ep10 hb2 | exact ep11 hb | exact ep11 hb2) rfl ?_
  refine eg_iconst dX2_become_95 ?_
  refine eg_al_n dX2_become_96 rfl rfl ?_
  refine eg_get fl_X2_46 dX2_become_97 (by first | exact ep0 hb | exact ep0 hb2 | exact ep1 hb | exact ep3 hb | exact ep5 hb | exact ep7 hb | exact ep9 hb | exact ep9 hb2 | exact ep10 hb | exact ep10 hb2 | exact ep11 hb | exact ep11 hb2) rfl ?_
  refine eg_iconst dX2_become_100 ?_
  refine eg_iconst dX2_become_101 ?_
  refine eg_acL (SP := 0) (DP := 0) (N := 4) ac_X2_69 ac_nat dX2_become_102 (ep10 hb2) (ep10 hb) rfl rfl rfl (by decide) (by decide) (by decide) (by decide) (Nat.le_of_ble_eq_true rfl) (by decide) ?_
  refine eg_eqM (es10 hb) ?_
  generalize w9 : va_up y8 (b + 10) _ = y9
  have a9 : (∀ c, c ≠ b + 10 → y9 c = y8 c) := fun c hc9 => by rw [← w9, va_up_n _ _ hc9]
  have F9 : ∀ c, c < b ∨ b + 12 ≤ c → y9 c = z c := fun c hc => by rw [a9 c (by omega)]; exact F8 c hc
  have d9 : ∀ q : Nat, q < 4 → y9 (b + 10) q = z (b2 + 10) q := fun q9 hq9 => by
    rw [← w9, va_up_s]
    unfold va_cpy
    rw [if_pos (by omega), F8 _ (by omega)]
    congr 1; omega
  clear w9
  refine eg_al_n dX2_become_105 rfl rfl ?_
  refine eg_get fl_X2_49 dX2_become_106 (by first | exact ep0 hb | exact ep0 hb2 | exact ep1 hb | exact ep3 hb | exact ep5 hb | exact ep7 hb | exact ep9 hb | exact ep9 hb2 | exact ep10 hb | exact ep10 hb2 | exact ep11 hb | exact ep11 hb2) rfl ?_
  refine eg_iconst dX2_become_109 ?_
  refine eg_al_n dX2_become_110 rfl rfl ?_
  refine eg_get fl_X2_49 dX2_become_111 (by first | exact ep0 hb | exact ep0 hb2 | exact ep1 hb | exact ep3 hb | exact ep5 hb | exact ep7 hb | exact ep9 hb | exact ep9 hb2 | exact ep10 hb | exact ep10 hb2 | exact ep11 hb | exact ep11 hb2) rfl ?_
  refine eg_iconst dX2_become_114 ?_
  refine eg_bipush dX2_become_115 (by decide) ?_
  refine eg_acI (SP := 0) (DP := 0) (N := 48) ac_X2_69 ac_nat dX2_become_117 (ep11 hb2) (ep11 hb) rfl rfl rfl (by decide) (by decide) (by decide) (by decide) (Nat.le_of_ble_eq_true rfl) (by decide) ?_
  refine eg_eqM (es11 hb) ?_
  generalize w10 : va_up y9 (b + 11) _ = y10
  have a10 : (∀ c, c ≠ b + 11 → y10 c = y9 c) := fun c hc9 => by rw [← w10, va_up_n _ _ hc9]
  have F10 : ∀ c, c < b ∨ b + 12 ≤ c → y10 c = z c := fun c hc => by rw [a10 c (by omega)]; exact F9 c hc
  have d10 : ∀ q : Nat, q < 48 → y10 (b + 11) q = z (b2 + 11) q := fun q9 hq9 => by
    rw [← w10, va_up_s]
    unfold va_cpy
    rw [if_pos (by omega), F9 _ (by omega)]
    congr 1; omega
  clear w10
  refine eg_return dX2_become_120 rfl ?_
  have H0 : ∀ q, q ≤ 3 → y10 b q = z b2 q := fun q9 hq9 => by rw [a10 _ (by omega), a9 _ (by omega), a8 _ (by omega), a7 _ (by omega) (by omega), a6 _ (by omega) (by omega), a5 _ (by omega) (by omega), a4 _ (by omega) (by omega)]; exact f3.2 q9 hq9
  have H1 : y10 (b + 1) 3 = z (b2 + 1) 3 := by rw [a10 _ (by omega), a9 _ (by omega), a8 _ (by omega), a7 _ (by omega) (by omega), a6 _ (by omega) (by omega), a5 _ (by omega) (by omega), b4, F3 _ (by omega)]
  have H2 : ∀ q : Nat, q < 14 → y10 (b + 2) q = z (b2 + 2) q := fun q9 hq9 => by rw [a10 _ (by omega), a9 _ (by omega), a8 _ (by omega), a7 _ (by omega) (by omega), a6 _ (by omega) (by omega), a5 _ (by omega) (by omega), d4 q9 hq9, F3 _ (by omega)]
  have H3 : y10 (b + 3) 3 = z (b2 + 3) 3 := by rw [a10 _ (by omega), a9 _ (by omega), a8 _ (by omega), a7 _ (by omega) (by omega), a6 _ (by omega) (by omega), b5, F4 _ (by omega)]
  have H4 : ∀ q : Nat, q < 40 → y10 (b + 4) q = z (b2 + 4) q := fun q9 hq9 => by rw [a10 _ (by omega), a9 _ (by omega), a8 _ (by omega), a7 _ (by omega) (by omega), a6 _ (by omega) (by omega), d5 q9 hq9, F4 _ (by omega)]
  have H5 : y10 (b + 5) 3 = z (b2 + 5) 3 := by rw [a10 _ (by omega), a9 _ (by omega), a8 _ (by omega), a7 _ (by omega) (by omega), b6, F5 _ (by omega)]
  have H6 : ∀ q : Nat, q < 36 → y10 (b + 6) q = z (b2 + 6) q := fun q9 hq9 => by rw [a10 _ (by omega), a9 _ (by omega), a8 _ (by omega), a7 _ (by omega) (by omega), d6 q9 hq9, F5 _ (by omega)]
  have H7 : y10 (b + 7) 3 = z (b2 + 7) 3 := by rw [a10 _ (by omega), a9 _ (by omega), a8 _ (by omega), b7, F6 _ (by omega)]
  have H8 : ∀ q : Nat, q < 64 → y10 (b + 8) q = z (b2 + 8) q := fun q9 hq9 => by rw [a10 _ (by omega), a9 _ (by omega), a8 _ (by omega), d7 q9 hq9, F6 _ (by omega)]
  have H9 : ∀ q : Nat, q < 6 → y10 (b + 9) q = z (b2 + 9) q := fun q9 hq9 => by rw [a10 _ (by omega), a9 _ (by omega), d8 q9 hq9]
  have H10 : ∀ q : Nat, q < 4 → y10 (b + 10) q = z (b2 + 10) q := fun q9 hq9 => by rw [a10 _ (by omega), d9 q9 hq9]
  obtain ⟨⟨p0, p1, p2, p3⟩, ⟨e1, e3, e5, e7⟩, pS, pP, pH, pO, pN, t0, t1, t2, t3⟩ := hp
  refine ⟨rfl, rfl, y10, rfl, F10, ⟨⟨?_, ?_, ?_, ?_⟩, ⟨?_, ?_, ?_, ?_⟩, ?_, ?_, ?_, ?_, ?_, ?_, ?_, ?_, ?_⟩, ?_⟩
  · rw [H0 0 (by omega)]; exact p0
  · rw [H0 1 (by omega)]; exact p1
  · rw [H0 2 (by omega)]; exact p2
  · rw [H0 3 (by omega)]; exact p3
  · rw [H1]; exact e1
  · rw [H3]; exact e3
  · rw [H5]; exact e5
  · rw [H7]; exact e7
  · intro r c h0 h1 h2 h3
    rw [H2 _ (by omega)]; exact pS r c h0 h1 h2 h3
  · intro r c h0 h1 h2 h3
    rw [H4 _ (by omega)]; exact pP r c h0 h1 h2 h3
  · intro r c h0 h1 h2 h3
    rw [H6 _ (by omega)]; exact pH r c h0 h1 h2 h3
  · intro r h0 h1
    rw [H9 _ (by omega)]; exact pO r h0 h1
  · intro r c h0 h1 h2 h3
    rw [H8 _ (by omega)]; exact pN r c h0 h1 h2 h3
  · rw [H10 0 (by omega)]; exact t0
  · rw [H10 1 (by omega)]; exact t1
  · rw [H10 2 (by omega)]; exact t2
  · rw [H10 3 (by omega)]; exact t3
  · intro hl
    refine ⟨fun i s h0 h1 h2 h3 h4 => ?_, hl.2⟩
    rw [d10 _ (by omega)]
    exact hl.1 i s h0 h1 h2 h3 h4
