theorem c_X8_within {k : eg_K} {M : eg_M} {n : Nat} {x y w : Int} (hx : iR x) (hy : iR y) (hw : iR w) : eg_P k gX8_within 0 0 0 [vI x, vI y, vI w] n (M) (eg_f (some (vI (bi (y ≤ x ∧ x ≤ w)))) n (M)) := by
  refine eg_P.of (by decide) (Nat.le_of_ble_eq_true rfl) ?_
  show eg_E k gX8_within 0 0 0 n (M) [vI x, vI y, vI w] [] 0 _
  have hx1 := hx.1; have hx2 := hx.2; have hy1 := hy.1; have hy2 := hy.2; have hw1 := hw.1; have hw2 := hw.2
  refine eg_iload_n dX8_within_0 rfl ?_
  refine eg_iload_n dX8_within_1 rfl ?_
  refine eg_icmp_lt 14 dX8_within_2 ⟨by omega, by omega⟩ ⟨by omega, by omega⟩ rfl (fun h2 => ?_) (fun h2 => ?_)
  · refine eg_iconst dX8_within_14 ?_
    refine eg_ireturn dX8_within_15 rfl rfl ?_
    exact ⟨congrArg (fun q => some (vI q)) (by first | rfl | (unfold bi; split <;> omega) | omega), rfl, rfl⟩
  · refine eg_iload_n dX8_within_5 rfl ?_
    refine eg_iload_n dX8_within_6 rfl ?_
    refine eg_icmp_gt 14 dX8_within_7 ⟨by omega, by omega⟩ ⟨by omega, by omega⟩ rfl (fun h7 => ?_) (fun h7 => ?_)
    · refine eg_iconst dX8_within_14 ?_
      refine eg_ireturn dX8_within_15 rfl rfl ?_
      exact ⟨congrArg (fun q => some (vI q)) (by first | rfl | (unfold bi; split <;> omega) | omega), rfl, rfl⟩
    · refine eg_iconst dX8_within_10 ?_
      refine eg_goto 15 dX8_within_11 rfl ?_
      refine eg_ireturn dX8_within_15 rfl rfl ?_
      exact ⟨congrArg (fun q => some (vI q)) (by first | rfl | (unfold bi; split <;> omega) | omega), rfl, rfl⟩
theorem eg_mmin {k : eg_K} {g : eg_G} {d bc bs n : Nat} {M : eg_M} {ls st : List Value} {pc : Nat} {Q : eg_Q} {idx : Nat} {x y : Int} (hx9 : eg_cs g.1.cls idx gJ9_min_7cf53 2) (hd : decode g.2.1 pc = .ok (.invokestatic idx, 3)) (hx : iR x) (hy : iR y) (hst : (st.map fun v => v.category).sum ≤ 8) (hdd : 1 ≤ d) (h : eg_E k g d bc bs n M ls (vI (if y < x then y else x) :: st) (pc + 3) Q) : eg_E k g d bc bs n M ls (vI y :: vI x :: st) (pc) Q := by
  intro p e R s m args below meth c H locs cells slots sl Z C hW hz hl hL hc hs hR
  have hts := C.2.2.2.2.2.1
  have g1 := C.2.2.2.2.2.2.2.2.1
  have g2 := C.2.2.2.2.2.2.2.2.2
  have ey : gJ9_min_7cf53.1 = Lib.Math.min.name := by decide +kernel
  have ec : gJ9_min_7cf53.2.1 = Lib.Math.min.code := by decide +kernel
  have w1 := hts _ hx9.2.1
  have w2 := hts _ hx9.2.2
  have w3 := hts _ hx9.1.1
  rw [ey] at w1 w2 w3
  rw [ec] at w3
  have ev : (if Int32.ofInt y < Int32.ofInt x then Int32.ofInt y else Int32.ofInt x) = Int32.ofInt (if y < x then y else x) := by
    by_cases q : y < x
    · rw [if_pos q, if_pos ((i_lt hy hx).mpr q)]
    · rw [if_neg q, if_neg (fun z => q ((i_lt hy hx).mp z))]
  refine va_mmin C.1 C.2.1 (by rw [hL.2.1]; exact C.2.2.1) C.2.2.2.2.1 w1 w2 (hts _ hx9.1.2.1) w3 (by omega) (by omega) (by omega) (by omega) hd ?_
  rw [ev]
  exact h p e R s m args below meth c H locs cells slots sl Z C hW hz hl hL hc hs hR
theorem eg_mmax {k : eg_K} {g : eg_G} {d bc bs n : Nat} {M : eg_M} {ls st : List Value} {pc : Nat} {Q : eg_Q} {idx : Nat} {x y : Int} (hx9 : eg_cs g.1.cls idx gJ9_max_7cf53 2) (hd : decode g.2.1 pc = .ok (.invokestatic idx, 3)) (hx : iR x) (hy : iR y) (hst : (st.map fun v => v.category).sum ≤ 8) (hdd : 1 ≤ d) (h : eg_E k g d bc bs n M ls (vI (if x < y then y else x) :: st) (pc + 3) Q) : eg_E k g d bc bs n M ls (vI y :: vI x :: st) (pc) Q := by
  intro p e R s m args below meth c H locs cells slots sl Z C hW hz hl hL hc hs hR
  have hts := C.2.2.2.2.2.1
  have g1 := C.2.2.2.2.2.2.2.2.1
  have g2 := C.2.2.2.2.2.2.2.2.2
  have ey : gJ9_max_7cf53.1 = Lib.Math.max.name := by decide +kernel
  have ec : gJ9_max_7cf53.2.1 = Lib.Math.max.code := by decide +kernel
  have w1 := hts _ hx9.2.1
  have w2 := hts _ hx9.2.2
  have w3 := hts _ hx9.1.1
  rw [ey] at w1 w2 w3
  rw [ec] at w3
  have ev : (if Int32.ofInt x < Int32.ofInt y then Int32.ofInt y else Int32.ofInt x) = Int32.ofInt (if x < y then y else x) := by
    by_cases q : x < y
    · rw [if_pos q, if_pos ((i_lt hx hy).mpr q)]
    · rw [if_neg q, if_neg (fun z => q ((i_lt hx hy).mp z))]
  refine va_mmax C.1 C.2.1 (by rw [hL.2.1]; exact C.2.2.1) C.2.2.2.2.1 w1 w2 (hts _ hx9.1.2.1) w3 (by omega) (by omega) (by omega) (by omega) hd ?_
  rw [ev]
  exact h p e R s m args below meth c H locs cells slots sl Z C hW hz hl hL hc hs hR
theorem eg_mabs {k : eg_K} {g : eg_G} {d bc bs n : Nat} {M : eg_M} {ls st : List Value} {pc : Nat} {Q : eg_Q} {idx : Nat} {x : Int} (hx9 : eg_cs g.1.cls idx gJ9_abs_0f7a4 1) (hd : decode g.2.1 pc = .ok (.invokestatic idx, 3)) (hx : iR x) (hst : (st.map fun v => v.category).sum ≤ 8) (hdd : 1 ≤ d) (h : eg_E k g d bc bs n M ls (vI (if 0 ≤ x then x else -x) :: st) (pc + 3) Q) : eg_E k g d bc bs n M ls (vI x :: st) (pc) Q := by
  intro p e R s m args below meth c H locs cells slots sl Z C hW hz hl hL hc hs hR
  have hts := C.2.2.2.2.2.1
  have g1 := C.2.2.2.2.2.2.2.2.1
  have g2 := C.2.2.2.2.2.2.2.2.2
  have ey : gJ9_abs_0f7a4.1 = Lib.Math.abs.name := by decide +kernel
  have ec : gJ9_abs_0f7a4.2.1 = Lib.Math.abs.code := by decide +kernel
  have w1 := hts _ hx9.2.1
  have w2 := hts _ hx9.2.2
  have w3 := hts _ hx9.1.1
  rw [ey] at w1 w2 w3
  rw [ec] at w3
  have ev : (if 0 ≤ Int32.ofInt x then Int32.ofInt x else 0 - Int32.ofInt x) = Int32.ofInt (if 0 ≤ x then x else -x) := by
    by_cases q : 0 ≤ x
    · rw [if_pos q, if_pos (show (0 : Int32) ≤ Int32.ofInt x from (i_le iR0 hx).mpr q)]
    · rw [if_neg q, if_neg (fun z : (0 : Int32) ≤ Int32.ofInt x => q ((i_le iR0 hx).mp z)), Int32.ofInt_neg]; exact Int32.zero_sub _
  refine va_mabs C.1 C.2.1 (by rw [hL.2.1]; exact C.2.2.1) C.2.2.2.2.1 w1 w2 (hts _ hx9.1.2.1) w3 (by omega) (by omega) (by omega) (by omega) hd ?_
  rw [ev]
  exact h p e R s m args below meth c H locs cells slots sl Z C hW hz hl hL hc hs hR
theorem eg_mminL {k : eg_K} {g : eg_G} {d bc bs n : Nat} {M : eg_M} {ls st : List Value} {pc : Nat} {Q : eg_Q} {idx : Nat} {x y : Int} (hx9 : eg_cs g.1.cls idx gJ9_min_f86c9 2) (hd : decode g.2.1 pc = .ok (.invokestatic idx, 3)) (hx : lR x) (hy : lR y) (hst : (st.map fun v => v.category).sum ≤ 8) (hdd : 1 ≤ d) (h : eg_E k g d bc bs n M ls (vL (if y < x then y else x) :: st) (pc + 3) Q) : eg_E k g d bc bs n M ls (vL y :: vL x :: st) (pc) Q := by
  intro p e R s m args below meth c H locs cells slots sl Z C hW hz hl hL hc hs hR
  have hts := C.2.2.2.2.2.1
  have g1 := C.2.2.2.2.2.2.2.2.1
  have g2 := C.2.2.2.2.2.2.2.2.2
  have ey : gJ9_min_f86c9.1 = Lib.MathLoose.min_long.x := by decide +kernel
  have ec : gJ9_min_f86c9.2.1 = Lib.MathLoose.min_long.code := by decide +kernel
  have w1 := hts _ hx9.2.1
  have w2 := hts _ hx9.2.2
  have w3 := hts _ hx9.1.1
  rw [ey] at w1 w2 w3
  rw [ec] at w3
  have ev : (if Int64.ofInt y < Int64.ofInt x then Int64.ofInt y else Int64.ofInt x) = Int64.ofInt (if y < x then y else x) := by
    by_cases q : y < x
    · rw [if_pos q, if_pos ((l_lt hy hx).mpr q)]
    · rw [if_neg q, if_neg (fun z => q ((l_lt hy hx).mp z))]
  refine va_mmin_long C.1 C.2.1 (by rw [hL.2.1]; exact C.2.2.1) C.2.2.2.2.1 w1 w2 (hts _ hx9.1.2.1) w3 (by omega) (by omega) (by omega) (by omega) hd ?_
  rw [ev]
  exact h p e R s m args below meth c H locs cells slots sl Z C hW hz hl hL hc hs hR
theorem eg_mabsL {k : eg_K} {g : eg_G} {d bc bs n : Nat} {M : eg_M} {ls st : List Value} {pc : Nat} {Q : eg_Q} {idx : Nat} {x : Int} (hx9 : eg_cs g.1.cls idx gJ9_abs_067f4 1) (hd : decode g.2.1 pc = .ok (.invokestatic idx, 3)) (hx : lR x) (hst : (st.map fun v => v.category).sum ≤ 8) (hdd : 1 ≤ d) (h : eg_E k g d bc bs n M ls (vL (if 0 < x then x else -x) :: st) (pc + 3) Q) : eg_E k g d bc bs n M ls (vL x :: st) (pc) Q := by
  intro p e R s m args below meth c H locs cells slots sl Z C hW hz hl hL hc hs hR
  have hts := C.2.2.2.2.2.1
  have g1 := C.2.2.2.2.2.2.2.2.1
  have g2 := C.2.2.2.2.2.2.2.2.2
  have ey : gJ9_abs_067f4.1 = Lib.MathLoose.abs_long.x := by decide +kernel
  have ec : gJ9_abs_067f4.2.1 = Lib.MathLoose.abs_long.code := by decide +kernel
  have w1 := hts _ hx9.2.1
  have w2 := hts _ hx9.2.2
  have w3 := hts _ hx9.1.1
  rw [ey] at w1 w2 w3
  rw [ec] at w3
  have ev : (if 0 < Int64.ofInt x then Int64.ofInt x else -Int64.ofInt x) = Int64.ofInt (if 0 < x then x else -x) := by
    by_cases q : 0 < x
    · rw [if_pos q, if_pos (show (0 : Int64) < Int64.ofInt x from (l_lt (x := 0) ⟨by decide, by decide⟩ hx).mpr q)]
    · rw [if_neg q, if_neg (fun z : (0 : Int64) < Int64.ofInt x => q ((l_lt (x := 0) ⟨by decide, by decide⟩ hx).mp z)), Int64.ofInt_neg]
  refine va_mabs_long C.1 C.2.1 (by rw [hL.2.1]; exact C.2.2.1) C.2.2.2.2.1 w1 w2 (hts _ hx9.1.2.1) w3 (by omega) (by omega) (by omega) (by omega) hd ?_
  rw [ev]
  exact h p e R s m args below meth c H locs cells slots sl Z C hW hz hl hL hc hs hR
def fl_ (x : Int) (f : Nat → Int) (n : Nat) : Nat → Int := fun q => if q < n then x else f q
theorem fl_0 (x : Int) (f : Nat → Int) : fl_ x f 0 = f := by funext q; simp [fl_]
theorem fl_s (x : Int) (f : Nat → Int) (n : Nat) : va_up (fl_ x f n) n x = fl_ x f (n + 1) := by
  funext q
  unfold va_up fl_
  by_cases h : q = n
  · subst h; simp
  · by_cases h2 : q < n
    · rw [if_neg h, if_pos h2, if_pos (by omega)]
    · rw [if_neg h, if_neg h2, if_neg (by omega)]
theorem va_up2 {α : Type} (f : Nat → α) (i : Nat) (x y : α) : va_up (va_up f i x) i y = va_up f i y := by
  funext q
  unfold va_up
  by_cases h : q = i
  · rw [if_pos h, if_pos h]
  · rw [if_neg h, if_neg h, if_neg h]
theorem c_J7_fill_53178 {k : eg_K} {M : eg_M} {n a len : Nat} {x : Int} {f : Nat → Int} (hA : M a = some (aI k len f)) (hl : len ≤ 65536) : eg_P k gJ7_fill_53178 0 0 0 [vR k a, vI x] n M (eg_f none n (va_up M a (some (aI k len (fl_ x f len))))) := by
  refine eg_P.of (by decide) (Nat.le_of_ble_eq_true rfl) ?_
  show eg_E k gJ7_fill_53178 0 0 0 n M [vR k a, vI x, vU, vU] [] 0 _
  have L : ∀ (m : Nat) (j : Int), 0 ≤ j → (len : Int) - j < m → j ≤ len → eg_E k gJ7_fill_53178 0 0 0 n (va_up M a (some (aI k len (fl_ x f j.toNat)))) [vR k a, vI x, vI j, vI (len : Int)] [] 5 (eg_f none n (va_up M a (some (aI k len (fl_ x f len))))) := by
    intro m
    induction m with
    | zero => intro j h0 h1 h2; omega
    | succ m ih =>
      intro j h0 h1 h2
      refine eg_iload_n dJ7_fill_53178_5 rfl ?_
      refine eg_iload_n dJ7_fill_53178_6 rfl ?_
      refine eg_icmp_ge 20 dJ7_fill_53178_7 ⟨by omega, by omega⟩ ⟨by omega, by omega⟩ rfl (fun h7 => ?_) (fun h7 => ?_)
      · refine eg_return dJ7_fill_53178_20 rfl ?_
        have e9 : j.toNat = len := by omega
        rw [e9]
        exact ⟨rfl, rfl, rfl⟩
      · refine eg_al_n dJ7_fill_53178_10 rfl rfl ?_
        refine eg_iload_n dJ7_fill_53178_11 rfl ?_
        refine eg_iload_n dJ7_fill_53178_12 rfl ?_
        refine eg_iast dJ7_fill_53178_13 (by rw [va_up_s]) (by omega) (by omega) hl ?_
        refine eg_iinc dJ7_fill_53178_14 rfl rfl rfl ?_
        refine eg_goto 5 dJ7_fill_53178_17 rfl ?_
        rw [va_up2, fl_s, show j.toNat + 1 = (j + 1).toNat by omega]
        exact ih (j + 1) (by omega) (by omega) (by omega)
  have e0 : M = va_up M a (some (aI k len (fl_ x f 0))) := by
    rw [fl_0]
    funext q
    by_cases h : q = a
    · subst h; rw [va_up_s]; exact hA
    · rw [va_up_n _ _ h]
  refine eg_iconst dJ7_fill_53178_0 ?_
  refine eg_istore_n dJ7_fill_53178_1 rfl rfl rfl ?_
  refine eg_al_n dJ7_fill_53178_2 rfl rfl ?_
  refine eg_lenI dJ7_fill_53178_3 (by exact hA) ?_
  refine eg_istore_n dJ7_fill_53178_4 rfl rfl rfl ?_
  refine eg_eqM e0 ?_
  exact L (len + 1) 0 (by omega) (by omega) (by omega)
theorem c_J7_fill_d0a16 {k : eg_K} {M : eg_M} {n a len : Nat} {x : Int} {f : Nat → Int} (hA : M a = some (aL k len f)) (hl : len ≤ 65536) : eg_P k gJ7_fill_d0a16 0 0 0 [vR k a, vL x] n M (eg_f none n (va_up M a (some (aL k len (fl_ x f len))))) := by
  refine eg_P.of (by decide) (Nat.le_of_ble_eq_true rfl) ?_
  show eg_E k gJ7_fill_d0a16 0 0 0 n M [vR k a, vL x, vU, vU, vU] [] 0 _
  have L : ∀ (m : Nat) (j : Int), 0 ≤ j → (len : Int) - j < m → j ≤ len → eg_E k gJ7_fill_d0a16 0 0 0 n (va_up M a (some (aL k len (fl_ x f j.toNat)))) [vR k a, vL x, vU, vI j, vI (len : Int)] [] 6 (eg_f none n (va_up M a (some (aL k len (fl_ x f len))))) := by
    intro m
    induction m with
    | zero => intro j h0 h1 h2; omega
    | succ m ih =>
      intro j h0 h1 h2
      refine eg_iload_n dJ7_fill_d0a16_6 rfl ?_
      refine eg_iload dJ7_fill_d0a16_7 rfl ?_
      refine eg_icmp_ge 22 dJ7_fill_d0a16_9 ⟨by omega, by omega⟩ ⟨by omega, by omega⟩ rfl (fun h9 => ?_) (fun h9 => ?_)
      · refine eg_return dJ7_fill_d0a16_22 rfl ?_
        have e9 : j.toNat = len := by omega
        rw [e9]
        exact ⟨rfl, rfl, rfl⟩
      · refine eg_al_n dJ7_fill_d0a16_12 rfl rfl ?_
        refine eg_iload_n dJ7_fill_d0a16_13 rfl ?_
        refine eg_lload_n dJ7_fill_d0a16_14 rfl ?_
        refine eg_last dJ7_fill_d0a16_15 (by rw [va_up_s]) (by omega) (by omega) hl ?_
        refine eg_iinc dJ7_fill_d0a16_16 rfl rfl rfl ?_
        refine eg_goto 6 dJ7_fill_d0a16_19 rfl ?_
        rw [va_up2, fl_s, show j.toNat + 1 = (j + 1).toNat by omega]
        exact ih (j + 1) (by omega) (by omega) (by omega)
  have e0 : M = va_up M a (some (aL k len (fl_ x f 0))) := by
    rw [fl_0]
    funext q
    by_cases h : q = a
    · subst h; rw [va_up_s]; exact hA
    · rw [va_up_n _ _ h]
  refine eg_iconst dJ7_fill_d0a16_0 ?_
  refine eg_istore_n dJ7_fill_d0a16_1 rfl rfl rfl ?_
  refine eg_al_n dJ7_fill_d0a16_2 rfl rfl ?_
  refine eg_lenL dJ7_fill_d0a16_3 (by exact hA) ?_
  refine eg_istore dJ7_fill_d0a16_4 rfl rfl rfl ?_
  refine eg_eqM e0 ?_
  exact L (len + 1) 0 (by omega) (by omega) (by omega)
