theorem c_X8_within {k : eg_K} {M : eg_M} {n : Nat} {x y w : Int} (hx : iR x) (hy : iR y) (hw : iR w) : eg_P k gX8_within 0 0 0 [vI x, vI y, vI w] n (M) (eg_f (some (vI (bi (y ≤ x ∧ x ≤ w)))) n (M)) := by
  refine eg_P.of (by decide) (Nat.le_of_ble_eq_true rfl) ?_
  show eg_E k gX8_within 0 0 0 n (M) [vI x, vI y, vI w] [] 0 _
  have hx1 := hx.1; have hx2 := hx.2; have hy1 := hy.1; have hy2 := hy.2; have hw1 := hw.1; have hw2 := hw.2
  refine eg_iload_n dX8_within_0 rfl ?_
  refine eg_iload_n dX8_within_1 rfl ?_
  refine eg_icmp_lt 14 dX8_within_2 ⟨by omega, by omega⟩ ⟨by omega, by omega⟩ rfl (fun h2 => ?_) (fun h2 => ?_)
  · refine eg_iconst dX8_within_14 ?_
    refine eg_ireturn dX8_within_15 rfl rfl ?_
    exact ⟨congrArg (fun q => some (vI q)) (by first | rfl | (unfold bi; split <;> omega) | omega), rfl, rfl⟩
  · refine eg_iload_n dX8_within_5 rfl ?_
    refine eg_iload_n dX8_within_6 rfl ?_
    refine eg_icmp_gt 14 dX8_within_7 ⟨by omega, by omega⟩ ⟨by omega, by omega⟩ rfl (fun h7 => ?_) (fun h7 => ?_)
    · refine eg_iconst dX8_within_14 ?_
      refine eg_ireturn dX8_within_15 rfl rfl ?_
      exact ⟨congrArg (fun q => some (vI q)) (by first | rfl | (unfold bi; split <;> omega) | omega), rfl, rfl⟩
    · refine eg_iconst dX8_within_10 ?_
      refine eg_goto 15 dX8_within_11 rfl ?_
      refine eg_ireturn dX8_within_15 rfl rfl ?_
      exact ⟨congrArg (fun q => some (vI q)) (by first | rfl | (unfold bi; split <;> omega) | omega), rfl, rfl⟩
theorem c_J9_min_7cf53 {k : eg_K} {M : eg_M} {n : Nat} {x y : Int} (hx : iR x) (hy : iR y) : eg_P k gJ9_min_7cf53 0 0 0 [vI x, vI y] n (M) (eg_f (some (vI (if x ≤ y then x else y))) n (M)) := by
  refine eg_P.of (by decide) (Nat.le_of_ble_eq_true rfl) ?_
  show eg_E k gJ9_min_7cf53 0 0 0 n (M) [vI x, vI y] [] 0 _
  have hx1 := hx.1; have hx2 := hx.2; have hy1 := hy.1; have hy2 := hy.2
  refine eg_iload_n dJ9_min_7cf53_0 rfl ?_
  refine eg_iload_n dJ9_min_7cf53_1 rfl ?_
  refine eg_icmp_gt 9 dJ9_min_7cf53_2 ⟨by omega, by omega⟩ ⟨by omega, by omega⟩ rfl (fun h2 => ?_) (fun h2 => ?_)
  · refine eg_iload_n dJ9_min_7cf53_9 rfl ?_
    refine eg_ireturn dJ9_min_7cf53_10 rfl rfl ?_
    exact ⟨congrArg (fun q => some (vI q)) (by split <;> omega), rfl, rfl⟩
  · refine eg_iload_n dJ9_min_7cf53_5 rfl ?_
    refine eg_goto 10 dJ9_min_7cf53_6 rfl ?_
    refine eg_ireturn dJ9_min_7cf53_10 rfl rfl ?_
    exact ⟨congrArg (fun q => some (vI q)) (by split <;> omega), rfl, rfl⟩
theorem c_J9_max_7cf53 {k : eg_K} {M : eg_M} {n : Nat} {x y : Int} (hx : iR x) (hy : iR y) : eg_P k gJ9_max_7cf53 0 0 0 [vI x, vI y] n (M) (eg_f (some (vI (if y ≤ x then x else y))) n (M)) := by
  refine eg_P.of (by decide) (Nat.le_of_ble_eq_true rfl) ?_
  show eg_E k gJ9_max_7cf53 0 0 0 n (M) [vI x, vI y] [] 0 _
  have hx1 := hx.1; have hx2 := hx.2; have hy1 := hy.1; have hy2 := hy.2
  refine eg_iload_n dJ9_max_7cf53_0 rfl ?_
  refine eg_iload_n dJ9_max_7cf53_1 rfl ?_
  refine eg_icmp_lt 9 dJ9_max_7cf53_2 ⟨by omega, by omega⟩ ⟨by omega, by omega⟩ rfl (fun h2 => ?_) (fun h2 => ?_)
  · refine eg_iload_n dJ9_max_7cf53_9 rfl ?_
    refine eg_ireturn dJ9_max_7cf53_10 rfl rfl ?_
    exact ⟨congrArg (fun q => some (vI q)) (by split <;> omega), rfl, rfl⟩
  · refine eg_iload_n dJ9_max_7cf53_5 rfl ?_
    refine eg_goto 10 dJ9_max_7cf53_6 rfl ?_
    refine eg_ireturn dJ9_max_7cf53_10 rfl rfl ?_
    exact ⟨congrArg (fun q => some (vI q)) (by split <;> omega), rfl, rfl⟩
theorem c_J9_abs_0f7a4 {k : eg_K} {M : eg_M} {n : Nat} {x : Int} (hx : iR x) : eg_P k gJ9_abs_0f7a4 0 0 0 [vI x] n (M) (eg_f (some (vI (if 0 ≤ x then x else -x))) n (M)) := by
  refine eg_P.of (by decide) (Nat.le_of_ble_eq_true rfl) ?_
  show eg_E k gJ9_abs_0f7a4 0 0 0 n (M) [vI x] [] 0 _
  have hx1 := hx.1; have hx2 := hx.2
  refine eg_iload_n dJ9_abs_0f7a4_0 rfl ?_
  refine eg_if_ge 9 dJ9_abs_0f7a4_1 ⟨by omega, by omega⟩ rfl (fun h1 => ?_) (fun h1 => ?_)
  · refine eg_iload_n dJ9_abs_0f7a4_9 rfl ?_
    refine eg_ireturn dJ9_abs_0f7a4_10 rfl rfl ?_
    exact ⟨congrArg (fun q => some (vI q)) (by split <;> omega), rfl, rfl⟩
  · refine eg_iload_n dJ9_abs_0f7a4_4 rfl ?_
    refine eg_ineg dJ9_abs_0f7a4_5 ?_
    refine eg_goto 10 dJ9_abs_0f7a4_6 rfl ?_
    refine eg_ireturn dJ9_abs_0f7a4_10 rfl rfl ?_
    exact ⟨congrArg (fun q => some (vI q)) (by split <;> omega), rfl, rfl⟩
theorem c_J9_abs_067f4 {k : eg_K} {M : eg_M} {n : Nat} {x : Int} (hx : lR x) : eg_P k gJ9_abs_067f4 0 0 0 [vL x] n (M) (eg_f (some (vL (if 0 ≤ x then x else -x))) n (M)) := by
  refine eg_P.of (by decide) (Nat.le_of_ble_eq_true rfl) ?_
  show eg_E k gJ9_abs_067f4 0 0 0 n (M) [vL x, vU] [] 0 _
  have hx1 := hx.1; have hx2 := hx.2
  refine eg_lload_n dJ9_abs_067f4_0 rfl ?_
  refine eg_lconst dJ9_abs_067f4_1 ?_
  refine eg_lc_ge 11 dJ9_abs_067f4_2 dJ9_abs_067f4_3 hx ⟨by decide, by decide⟩ rfl (fun h2 => ?_) (fun h2 => ?_)
  · refine eg_lload_n dJ9_abs_067f4_11 rfl ?_
    refine eg_lreturn dJ9_abs_067f4_12 rfl ?_
    exact ⟨congrArg (fun q => some (vL q)) (by have h3 : (0 : Int) ≤ x := h2; rw [if_pos h3]), rfl, rfl⟩
  · refine eg_lload_n dJ9_abs_067f4_6 rfl ?_
    refine eg_lneg dJ9_abs_067f4_7 ?_
    refine eg_goto 12 dJ9_abs_067f4_8 rfl ?_
    refine eg_lreturn dJ9_abs_067f4_12 rfl ?_
    exact ⟨congrArg (fun q => some (vL q)) (by have h3 : x < 0 := h2; rw [if_neg (by omega)]), rfl, rfl⟩
theorem c_J9_min_f86c9 {k : eg_K} {M : eg_M} {n : Nat} {x y : Int} (hx : lR x) (hy : lR y) : eg_P k gJ9_min_f86c9 0 0 0 [vL x, vL y] n (M) (eg_f (some (vL (if x ≤ y then x else y))) n (M)) := by
  refine eg_P.of (by decide) (Nat.le_of_ble_eq_true rfl) ?_
  show eg_E k gJ9_min_f86c9 0 0 0 n (M) [vL x, vU, vL y, vU] [] 0 _
  have hx1 := hx.1; have hx2 := hx.2; have hy1 := hy.1; have hy2 := hy.2
  refine eg_lload_n dJ9_min_f86c9_0 rfl ?_
  refine eg_lload_n dJ9_min_f86c9_1 rfl ?_
  refine eg_lc_gt 10 dJ9_min_f86c9_2 dJ9_min_f86c9_3 (by assumption) (by assumption) rfl (fun h2 => ?_) (fun h2 => ?_)
  · refine eg_lload_n dJ9_min_f86c9_10 rfl ?_
    refine eg_lreturn dJ9_min_f86c9_11 rfl ?_
    exact ⟨congrArg (fun q => some (vL q)) (by split <;> omega), rfl, rfl⟩
  · refine eg_lload_n dJ9_min_f86c9_6 rfl ?_
    refine eg_goto 11 dJ9_min_f86c9_7 rfl ?_
    refine eg_lreturn dJ9_min_f86c9_11 rfl ?_
    exact ⟨congrArg (fun q => some (vL q)) (by split <;> omega), rfl, rfl⟩
def fl_ (x : Int) (f : Nat → Int) (n : Nat) : Nat → Int := fun q => if q < n then x else f q
theorem fl_0 (x : Int) (f : Nat → Int) : fl_ x f 0 = f := by funext q; simp [fl_]
theorem fl_s (x : Int) (f : Nat → Int) (n : Nat) : va_up (fl_ x f n) n x = fl_ x f (n + 1) := by
  funext q
  unfold va_up fl_
  by_cases h : q = n
  · subst h; simp
  · by_cases h2 : q < n
    · rw [if_neg h, if_pos h2, if_pos (by omega)]
    · rw [if_neg h, if_neg h2, if_neg (by omega)]
theorem va_up2 {α : Type} (f : Nat → α) (i : Nat) (x y : α) : va_up (va_up f i x) i y = va_up f i y := by
  funext q
  unfold va_up
  by_cases h : q = i
  · rw [if_pos h, if_pos h]
  · rw [if_neg h, if_neg h, if_neg h]
theorem c_J7_fill_53178 {k : eg_K} {M : eg_M} {n a len : Nat} {x : Int} {f : Nat → Int} (hA : M a = some (aI k len f)) (hl : len ≤ 65536) : eg_P k gJ7_fill_53178 0 0 0 [vR k a, vI x] n M (eg_f none n (va_up M a (some (aI k len (fl_ x f len))))) := by
  refine eg_P.of (by decide) (Nat.le_of_ble_eq_true rfl) ?_
  show eg_E k gJ7_fill_53178 0 0 0 n M [vR k a, vI x, vU, vU] [] 0 _
  have L : ∀ (m : Nat) (j : Int), 0 ≤ j → (len : Int) - j < m → j ≤ len → eg_E k gJ7_fill_53178 0 0 0 n (va_up M a (some (aI k len (fl_ x f j.toNat)))) [vR k a, vI x, vI j, vI (len : Int)] [] 5 (eg_f none n (va_up M a (some (aI k len (fl_ x f len))))) := by
    intro m
    induction m with
    | zero => intro j h0 h1 h2; omega
    | succ m ih =>
      intro j h0 h1 h2
      refine eg_iload_n dJ7_fill_53178_5 rfl ?_
      refine eg_iload_n dJ7_fill_53178_6 rfl ?_
      refine eg_icmp_ge 20 dJ7_fill_53178_7 ⟨by omega, by omega⟩ ⟨by omega, by omega⟩ rfl (fun h7 => ?_) (fun h7 => ?_)
      · refine eg_return dJ7_fill_53178_20 rfl ?_
        have e9 : j.toNat = len := by omega
        rw [e9]
        exact ⟨rfl, rfl, rfl⟩
      · refine eg_al_n dJ7_fill_53178_10 rfl rfl ?_
        refine eg_iload_n dJ7_fill_53178_11 rfl ?_
        refine eg_iload_n dJ7_fill_53178_12 rfl ?_
        refine eg_iast dJ7_fill_53178_13 (by rw [va_up_s]) (by omega) (by omega) hl ?_
        refine eg_iinc dJ7_fill_53178_14 rfl rfl rfl ?_
        refine eg_goto 5 dJ7_fill_53178_17 rfl ?_
        rw [va_up2, fl_s, show j.toNat + 1 = (j + 1).toNat by omega]
        exact ih (j + 1) (by omega) (by omega) (by omega)
  have e0 : M = va_up M a (some (aI k len (fl_ x f 0))) := by
    rw [fl_0]
    funext q
    by_cases h : q = a
    · subst h; rw [va_up_s]; exact hA
    · rw [va_up_n _ _ h]
  refine eg_iconst dJ7_fill_53178_0 ?_
  refine eg_istore_n dJ7_fill_53178_1 rfl rfl rfl ?_
  refine eg_al_n dJ7_fill_53178_2 rfl rfl ?_
  refine eg_lenI dJ7_fill_53178_3 (by exact hA) ?_
  refine eg_istore_n dJ7_fill_53178_4 rfl rfl rfl ?_
  refine eg_eqM e0 ?_
  exact L (len + 1) 0 (by omega) (by omega) (by omega)
theorem c_J7_fill_d0a16 {k : eg_K} {M : eg_M} {n a len : Nat} {x : Int} {f : Nat → Int} (hA : M a = some (aL k len f)) (hl : len ≤ 65536) : eg_P k gJ7_fill_d0a16 0 0 0 [vR k a, vL x] n M (eg_f none n (va_up M a (some (aL k len (fl_ x f len))))) := by
  refine eg_P.of (by decide) (Nat.le_of_ble_eq_true rfl) ?_
  show eg_E k gJ7_fill_d0a16 0 0 0 n M [vR k a, vL x, vU, vU, vU] [] 0 _
  have L : ∀ (m : Nat) (j : Int), 0 ≤ j → (len : Int) - j < m → j ≤ len → eg_E k gJ7_fill_d0a16 0 0 0 n (va_up M a (some (aL k len (fl_ x f j.toNat)))) [vR k a, vL x, vU, vI j, vI (len : Int)] [] 6 (eg_f none n (va_up M a (some (aL k len (fl_ x f len))))) := by
    intro m
    induction m with
    | zero => intro j h0 h1 h2; omega
    | succ m ih =>
      intro j h0 h1 h2
      refine eg_iload_n dJ7_fill_d0a16_6 rfl ?_
      refine eg_iload dJ7_fill_d0a16_7 rfl ?_
      refine eg_icmp_ge 22 dJ7_fill_d0a16_9 ⟨by omega, by omega⟩ ⟨by omega, by omega⟩ rfl (fun h9 => ?_) (fun h9 => ?_)
      · refine eg_return dJ7_fill_d0a16_22 rfl ?_
        have e9 : j.toNat = len := by omega
        rw [e9]
        exact ⟨rfl, rfl, rfl⟩
      · refine eg_al_n dJ7_fill_d0a16_12 rfl rfl ?_
        refine eg_iload_n dJ7_fill_d0a16_13 rfl ?_
        refine eg_lload_n dJ7_fill_d0a16_14 rfl ?_
        refine eg_last dJ7_fill_d0a16_15 (by rw [va_up_s]) (by omega) (by omega) hl ?_
        refine eg_iinc dJ7_fill_d0a16_16 rfl rfl rfl ?_
        refine eg_goto 6 dJ7_fill_d0a16_19 rfl ?_
        rw [va_up2, fl_s, show j.toNat + 1 = (j + 1).toNat by omega]
        exact ih (j + 1) (by omega) (by omega) (by omega)
  have e0 : M = va_up M a (some (aL k len (fl_ x f 0))) := by
    rw [fl_0]
    funext q
    by_cases h : q = a
    · subst h; rw [va_up_s]; exact hA
    · rw [va_up_n _ _ h]
  refine eg_iconst dJ7_fill_d0a16_0 ?_
  refine eg_istore_n dJ7_fill_d0a16_1 rfl rfl rfl ?_
  refine eg_al_n dJ7_fill_d0a16_2 rfl rfl ?_
  refine eg_lenL dJ7_fill_d0a16_3 (by exact hA) ?_
  refine eg_istore dJ7_fill_d0a16_4 rfl rfl rfl ?_
  refine eg_eqM e0 ?_
  exact L (len + 1) 0 (by omega) (by omega) (by omega)
