theorem eg_lk0 {k : eg_K} {g : eg_G} {d bc bs n : Nat} {M : eg_M} {ls st : List Value} {pc : Nat} {Q : eg_Q} (hd : decode g.2.1 pc = .ok (.lconst 0, 1)) (h : eg_E k g d bc bs n M ls (vL 0 :: st) (pc + 1) Q) : eg_E k g d bc bs n M ls st pc Q := eg_lconst hd h
theorem eg_lk1 {k : eg_K} {g : eg_G} {d bc bs n : Nat} {M : eg_M} {ls st : List Value} {pc : Nat} {Q : eg_Q} (hd : decode g.2.1 pc = .ok (.lconst 1, 1)) (h : eg_E k g d bc bs n M ls (vL 1 :: st) (pc + 1) Q) : eg_E k g d bc bs n M ls st pc Q := eg_lconst hd h
theorem nw_up {y : eg_Z} {v : eg_v} (h : nw y v) (p : Nat) (x : Int) : nw (va_up y 203 (va_up (y 203) p x)) (va_up v p x) := fun i hi => by
  rw [va_up_s]
  by_cases e : i = p
  · subst e; rw [va_up_s, va_up_s]
  · rw [va_up_n _ _ e, va_up_n _ _ e]; exact h i hi
theorem eg_nowL {k : eg_K} {g : eg_G} {d bc bs n : Nat} {X : eg_M} {ls st : List Value} {pc : Nat} {Q : eg_Q} {y : eg_Z} {v : eg_v} {p : Int} (hd : decode g.2.1 pc = .ok (.laload, 1)) (hN : nw y v) (h0 : 0 ≤ p) (h1 : p < 220) (h : eg_E k g d bc bs n (enc k y X) ls (vL (v p.toNat) :: st) (pc + 1) Q) : eg_E k g d bc bs n (enc k y X) ls (vI p :: vR k 203 :: st) pc Q := by
  refine eg_lald hd er203 h0 h1 (by decide) ?_
  rw [nw_i hN h1]
  exact h
theorem eg_nowS {k : eg_K} {g : eg_G} {d bc bs n : Nat} {X : eg_M} {ls st : List Value} {pc : Nat} {Q : eg_Q} {y : eg_Z} {v : eg_v} {p x : Int} (hd : decode g.2.1 pc = .ok (.lastore, 1)) (hN : nw y v) (h0 : 0 ≤ p) (h1 : p < 220) (h : ∀ y' : eg_Z, (∀ c, c ≠ 203 → y' c = y c) → nw y' (va_up v p.toNat x) → eg_E k g d bc bs n (enc k y' X) ls st (pc + 1) Q) : eg_E k g d bc bs n (enc k y X) ls (vL x :: vI p :: vR k 203 :: st) pc Q := by
  refine eg_last hd er203 h0 h1 (by decide) ?_
  refine eg_eqM es203 ?_
  exact h _ (fun c hc => va_up_n _ _ hc) (nw_up hN _ _)
/-- the state in the reference's cells -/
def IM (z : eg_Z) (s : eg_S) : Prop := nw z s.1 ∧ (s.2.1 ≤ 10 ∧ z 202 6 = (s.2.1 : Int) ∧ ∀ j, j < s.2.1 → ∀ i, i < 220 → z 206 (220 * j + i) = s.2.2.1 j i) ∧ (∀ j, j < 2 → z 208 j = (if s.2.2.2.1 j = true then 1 else 0) ∧ (s.2.2.2.1 j = true → ∀ i, i < 220 → z 207 (220 * j + i) = s.2.2.2.2.1 j i)) ∧ (s.2.2.2.2.2.1 ≤ 400 ∧ z 202 8 = (s.2.2.2.2.2.1 : Int) ∧ ∀ i, i < s.2.2.2.2.2.1 → z 209 i = s.2.2.2.2.2.2 i)
/-- what is true of every state -/
def OS (s : eg_S) : Prop := okV s.1 ∧ (∀ j, j < s.2.1 → okV (s.2.2.1 j)) ∧ (∀ j, j < 2 → s.2.2.2.1 j = true → okV (s.2.2.2.2.1 j)) ∧ okT s.2.2.2.2.2.1 s.2.2.2.2.2.2
theorem IC.os {z : eg_Z} {s : eg_S} (h : IC z s) : OS s := ⟨h.1.2.2, fun j hj => (h.2.1.2 j hj).2.2, fun j hj hk => (h.2.2.1.2 j hj hk).2.2, h.2.2.2.1⟩
def FM (z z' : eg_Z) : Prop := ∀ c : Nat, c < 202 → z' c = z c
theorem FM.rf {z : eg_Z} : FM z z := fun _ _ => rfl
/-- what a call that asks leaves as it was -/
def Fm (z z' : eg_Z) : Prop := FM z z' ∧ z' 202 6 = z 202 6 ∧ z' 202 8 = z 202 8 ∧ z' 206 = z 206 ∧ z' 207 = z 207 ∧ z' 208 = z 208 ∧ z' 209 = z 209
theorem Fm.rf {z : eg_Z} : Fm z z := ⟨FM.rf, rfl, rfl, rfl, rfl, rfl, rfl⟩
theorem Fm.tr {z y w : eg_Z} (a : Fm z y) (b : Fm y w) : Fm z w := ⟨fun c hc => (b.1 c hc).trans (a.1 c hc), b.2.1.trans a.2.1, b.2.2.1.trans a.2.2.1, b.2.2.2.1.trans a.2.2.2.1, b.2.2.2.2.1.trans a.2.2.2.2.1, b.2.2.2.2.2.1.trans a.2.2.2.2.2.1, b.2.2.2.2.2.2.trans a.2.2.2.2.2.2⟩
/-- cells that no state is in -/
def fmC (c : Nat) : Prop := c = 203 ∨ c = 204 ∨ c = 205 ∨ 210 ≤ c
theorem Fm.of {z y : eg_Z} (h : ∀ c, ¬ (c = 203 ∨ c = 204 ∨ c = 205 ∨ 210 ≤ c) → y c = z c) : Fm z y := ⟨fun c hc => h c (by omega), by rw [h 202 (by omega)], by rw [h 202 (by omega)], h _ (by omega), h _ (by omega), h _ (by omega), h _ (by omega)⟩
theorem IM.fm {z y : eg_Z} {s : eg_S} {v : eg_v} (hI : IM z s) (h : Fm z y) (hn : nw y v) : IM y (v, s.2) := by
  obtain ⟨a, b, c, e⟩ := hI
  obtain ⟨h0, h1, h2, h3, h4, h5, h6⟩ := h
  refine ⟨hn, ⟨b.1, by rw [h1]; exact b.2.1, by rw [h3]; exact b.2.2⟩, by rw [h4, h5]; exact c, e.1, by rw [h2]; exact e.2.1, by rw [h6]; exact e.2.2⟩
theorem IM.push {z y w : eg_Z} {s : eg_S} {v : eg_v} (hI : IM z s) (h1 : ∀ c, c ≠ 202 → c ≠ 206 → y c = z c) (h2 : ∀ j, j ≠ 6 → y 202 j = z 202 j) (h3 : y 202 6 = (puD s.2.1 : Int)) (h4 : ∀ j, j < puD s.2.1 → ∀ i, i < 220 → y 206 (220 * j + i) = puP s.2.1 s.2.2.1 s.1 j i) (hw : ∀ c, c ≠ 203 → w c = y c) (hn : nw w v) : FM z w ∧ IM w (puS s v) := by
  obtain ⟨a, b, c, e⟩ := hI
  refine ⟨fun q hq => (hw q (by omega)).trans (h1 q (by omega) (by omega)), hn, ⟨?_, ?_, ?_⟩, ?_, e.1, ?_, ?_⟩
  · show puD s.2.1 ≤ 10
    have := b.1
    unfold puD
    split <;> omega
  · rw [hw 202 (by decide)]; exact h3
  · rw [hw 206 (by decide)]; exact h4
  · rw [hw 207 (by decide), hw 208 (by decide), h1 207 (by decide) (by decide), h1 208 (by decide) (by decide)]; exact c
  · rw [hw 202 (by decide), h2 8 (by decide)]; exact e.2.1
  · rw [hw 209 (by decide), h1 209 (by decide) (by decide)]; exact e.2.2
theorem c_keepsPast {k : eg_K} {z : eg_Z} {X : eg_M} {n : Nat} {v : eg_v} (hN : nw z v) {d : Nat} {pa : Nat → eg_v} (hd : d ≤ 10) (hp6 : z 202 6 = (d : Int)) (hpa : ∀ j, j < d → ∀ i, i < 220 → z 206 (220 * j + i) = pa j i) : eg_P k gX9_keepsPast 1 0 0 [vR k 202] n (enc k z X) (eg_p k none n X (fun z' => (∀ c, c ≠ 202 → c ≠ 206 → z' c = z c) ∧ (∀ j, j ≠ 6 → z' 202 j = z 202 j) ∧ z' 202 6 = (puD d : Int) ∧ ∀ j, j < puD d → ∀ i, i < 220 → z' 206 (220 * j + i) = puP d pa v j i)) := by
  refine eg_P.of (by decide) (Nat.le_of_ble_eq_true rfl) ?_
  show eg_E k gX9_keepsPast 1 0 0 n (enc k z X) [vR k 202, vU] [] 0 _
  have J : ∀ (y : eg_Z) (e : Nat) (w1 : Value), e < 10 → (∀ c, c ≠ 202 → c ≠ 206 → y c = z c) → (∀ j, j ≠ 6 → y 202 j = z 202 j) → y 202 6 = (e : Int) → (∀ j, j < e → ∀ i, i < 220 → y 206 (220 * j + i) = puP d pa v j i) → puP d pa v e = v → puD d = e + 1 → eg_E k gX9_keepsPast 1 0 0 n (enc k y X) [vR k 202, w1] [] 48 (eg_p k none n X (fun z' => (∀ c, c ≠ 202 → c ≠ 206 → z' c = z c) ∧ (∀ j, j ≠ 6 → z' 202 j = z 202 j) ∧ z' 202 6 = (puD d : Int) ∧ ∀ j, j < puD d → ∀ i, i < 220 → z' 206 (220 * j + i) = puP d pa v j i)) := by
    intro y e w1 he hy hy2 h6y hr hpe hpd
    refine eg_al_n dX9_keepsPast_48 rfl rfl ?_
    refine eg_get fl_X9_9 dX9_keepsPast_49 (by first | exact er202 | exact er203 | exact er204 | exact er205 | exact er206 | exact er207 | exact er208 | exact er209 | exact er210 | exact er211 | exact er212 | exact er213 | exact er214 | exact er215) rfl ?_
    refine eg_iconst dX9_keepsPast_52 ?_
    refine eg_al_n dX9_keepsPast_53 rfl rfl ?_
    refine eg_get fl_X9_19 dX9_keepsPast_54 (by first | exact er202 | exact er203 | exact er204 | exact er205 | exact er206 | exact er207 | exact er208 | exact er209 | exact er210 | exact er211 | exact er212 | exact er213 | exact er214 | exact er215) rfl ?_
    refine eg_al_n dX9_keepsPast_57 rfl rfl ?_
    refine eg_get fl_X9_176 dX9_keepsPast_58 (by first | exact er202 | exact er203 | exact er204 | exact er205 | exact er206 | exact er207 | exact er208 | exact er209 | exact er210 | exact er211 | exact er212 | exact er213 | exact er214 | exact er215) rfl ?_
    refine eg_eqI h6y ?_
    refine eg_Sv4 cs_X9_172 dX9_keepsPast_61 (mv_k he) (Nat.le_of_ble_eq_true rfl) (by decide) ?_
    refine eg_al_n dX9_keepsPast_64 rfl rfl ?_
    refine eg_dup dX9_keepsPast_65 rfl ?_
    refine eg_get fl_X9_176 dX9_keepsPast_66 (by first | exact er202 | exact er203 | exact er204 | exact er205 | exact er206 | exact er207 | exact er208 | exact er209 | exact er210 | exact er211 | exact er212 | exact er213 | exact er214 | exact er215) rfl ?_
    refine eg_iconst dX9_keepsPast_69 ?_
    refine eg_iadd dX9_keepsPast_70 ?_
    refine eg_put fl_X9_176 dX9_keepsPast_71 (by first | exact er202 | exact er203 | exact er204 | exact er205 | exact er206 | exact er207 | exact er208 | exact er209 | exact er210 | exact er211 | exact er212 | exact er213 | exact er214 | exact er215) rfl rfl rfl rfl ?_
    refine eg_eqM es202_6 ?_
    refine eg_return dX9_keepsPast_74 rfl ?_
    refine ⟨rfl, rfl, _, rfl, fun c h1 h2 => ?_, fun j hj => ?_, ?_, fun j hj i hi => ?_⟩
    · rw [va_up_n _ _ h1, va_up_n _ _ h2]; exact hy c h1 h2
    · rw [va_up_s, va_up_n _ _ hj, va_up_n _ _ (by decide)]; exact hy2 j hj
    · rw [va_up_s, va_up_s, va_up_n _ _ (by decide), h6y, hpd]; omega
    · rw [va_up_n _ _ (by decide), va_up_s]
      by_cases ej : j = e
      · subst ej; rw [cpR_i hi, hpe, hy 203 (by decide) (by decide), Nat.mul_zero, Nat.zero_add]; exact hN i hi
      · rw [cpR_o (by omega)]; exact hr j (by omega) i hi
  have L : d = 10 → ∀ (m : Nat) (t : Nat) (y : eg_Z), t ≤ 9 → (∀ c, c ≠ 206 → y c = z c) → (∀ j i, j < t → i < 220 → y 206 (220 * j + i) = z 206 (220 * (j + 1) + i)) → (∀ j i, t ≤ j → j < 10 → i < 220 → y 206 (220 * j + i) = z 206 (220 * j + i)) → 9 - (t : Int) < (m : Int) → eg_E k gX9_keepsPast 1 0 0 n (enc k y X) [vR k 202, vI ((t : Int) + 1)] [] 11 (eg_p k none n X (fun z' => (∀ c, c ≠ 202 → c ≠ 206 → z' c = z c) ∧ (∀ j, j ≠ 6 → z' 202 j = z 202 j) ∧ z' 202 6 = (puD d : Int) ∧ ∀ j, j < puD d → ∀ i, i < 220 → z' 206 (220 * j + i) = puP d pa v j i)) := by
    intro hd10 m
    induction m with
    | zero => intro t y h1 hy ha hb hm; exfalso; omega
    | succ m ih =>
      intro t y h1 hy ha hb hm
      refine eg_iload_n dX9_keepsPast_11 rfl ?_
      refine eg_bipush dX9_keepsPast_12 (by decide) ?_
      refine eg_icmp_ge 38 dX9_keepsPast_14 ⟨by omega, by omega⟩ ⟨by omega, by omega⟩ rfl (fun h14 => ?_) (fun h14 => ?_)
      · refine eg_al_n dX9_keepsPast_38 rfl rfl ?_
        refine eg_dup dX9_keepsPast_39 rfl ?_
        refine eg_get fl_X9_176 dX9_keepsPast_40 (by first | exact er202 | exact er203 | exact er204 | exact er205 | exact er206 | exact er207 | exact er208 | exact er209 | exact er210 | exact er211 | exact er212 | exact er213 | exact er214 | exact er215) rfl ?_
        refine eg_iconst dX9_keepsPast_43 ?_
        refine eg_isub dX9_keepsPast_44 ?_
        refine eg_put fl_X9_176 dX9_keepsPast_45 (by first | exact er202 | exact er203 | exact er204 | exact er205 | exact er206 | exact er207 | exact er208 | exact er209 | exact er210 | exact er211 | exact er212 | exact er213 | exact er214 | exact er215) rfl rfl rfl rfl ?_
        refine eg_eqM es202_6 ?_
        have e6 : y 202 6 = 10 := by rw [hy 202 (by decide), hp6, hd10]; rfl
        refine J _ 9 _ (by decide) (fun c h1 h2 => by rw [va_up_n _ _ h1]; exact hy c h2) (fun j hj => by rw [va_up_s, va_up_n _ _ hj, hy 202 (by decide)]) (by rw [va_up_s, va_up_s, e6]; rfl) (fun j hj i hi => ?_) ?_ ?_
        · rw [va_up_n _ _ (by decide)]
          unfold puP
          rw [if_neg (by omega)]
          show _ = (if j = 9 then v else pa (j + 1)) i
          rw [if_neg (by omega), ha j i (by omega) hi]
          exact hpa (j + 1) (by omega) i hi
        · unfold puP; rw [if_neg (by omega)]; rfl
        · unfold puD; rw [if_neg (by omega)]
      · refine eg_al_n dX9_keepsPast_17 rfl rfl ?_
        refine eg_get fl_X9_19 dX9_keepsPast_18 (by first | exact er202 | exact er203 | exact er204 | exact er205 | exact er206 | exact er207 | exact er208 | exact er209 | exact er210 | exact er211 | exact er212 | exact er213 | exact er214 | exact er215) rfl ?_
        refine eg_iload_n dX9_keepsPast_21 rfl ?_
        refine eg_al_n dX9_keepsPast_22 rfl rfl ?_
        refine eg_get fl_X9_19 dX9_keepsPast_23 (by first | exact er202 | exact er203 | exact er204 | exact er205 | exact er206 | exact er207 | exact er208 | exact er209 | exact er210 | exact er211 | exact er212 | exact er213 | exact er214 | exact er215) rfl ?_
        refine eg_iload_n dX9_keepsPast_26 rfl ?_
        refine eg_iconst dX9_keepsPast_27 ?_
        refine eg_isub dX9_keepsPast_28 ?_
        refine eg_eqI (show (t : Int) + 1 - 1 = t by omega) ?_
        refine eg_Sv4 cs_X9_172 dX9_keepsPast_29 (mv_d (by omega)) (Nat.le_of_ble_eq_true rfl) (by decide) ?_
        refine eg_iinc dX9_keepsPast_32 rfl rfl rfl ?_
        refine eg_goto 11 dX9_keepsPast_35 rfl ?_
        refine ih (t + 1) _ (by omega) (fun c hc => by rw [va_up_n _ _ hc]; exact hy c hc) (fun j i hj hi => ?_) (fun j i hj hj2 hi => ?_) (by omega)
        · rw [va_up_s]
          by_cases ej : j = t
          · subst ej; rw [cpR_i hi]; exact hb (j + 1) i (by omega) (by omega) hi
          · rw [cpR_o (by omega)]; exact ha j i (by omega) hi
        · rw [va_up_s, cpR_o (by omega)]; exact hb j i (by omega) hj2 hi
  refine eg_al_n dX9_keepsPast_0 rfl rfl ?_
  refine eg_get fl_X9_176 dX9_keepsPast_1 (by first | exact er202 | exact er203 | exact er204 | exact er205 | exact er206 | exact er207 | exact er208 | exact er209 | exact er210 | exact er211 | exact er212 | exact er213 | exact er214 | exact er215) rfl ?_
  refine eg_bipush dX9_keepsPast_4 (by decide) ?_
  refine eg_icmp_ne 48 dX9_keepsPast_6 ⟨by omega, by omega⟩ ⟨by omega, by omega⟩ rfl (fun h6 => ?_) (fun h6 => ?_)
  · refine J z d _ (by omega) (fun _ _ _ => rfl) (fun _ _ => rfl) hp6 (fun j hj i hi => ?_) ?_ ?_
    · unfold puP; rw [if_pos (by omega), va_up_n _ _ (by omega)]; exact hpa j hj i hi
    · unfold puP; rw [if_pos (by omega), va_up_s]
    · unfold puD; rw [if_pos (by omega)]
  · refine eg_iconst dX9_keepsPast_9 ?_
    refine eg_istore_n dX9_keepsPast_10 rfl rfl rfl ?_
    exact L (by omega) 10 0 z (by omega) (fun _ _ => rfl) (fun j i hj _ => absurd hj (Nat.not_lt_zero j)) (fun _ _ _ _ _ => rfl) (by omega)
theorem m_becomes {k : eg_K} {z : eg_Z} {X : eg_M} {n : Nat} {s : eg_S} (hI : IM z s) {p x e : Int} (hp : 0 ≤ p ∧ p < 220) (r_x : iR x) (r_v : iR (s.1 p.toNat)) : eg_P k gX9_becomes 2 0 0 [vR k 202, vI p, vI x, vI e] n (enc k z X) (eg_p k (some (vI (bcR s p.toNat x e).1)) n X (fun z' => FM z z' ∧ IM z' (bcR s p.toNat x e).2)) := by
  refine eg_P.of (by decide) (Nat.le_of_ble_eq_true rfl) ?_
  show eg_E k gX9_becomes 2 0 0 n (enc k z X) [vR k 202, vI p, vI x, vI e, vU] [] 0 _
  have hN := hI.1
  have r_x1 := r_x.1; have r_x2 := r_x.2; have r_v1 := r_v.1; have r_v2 := r_v.2
  refine eg_al_n dX9_becomes_0 rfl rfl ?_
  refine eg_get fl_X9_9 dX9_becomes_1 (by first | exact er202 | exact er203 | exact er204 | exact er205 | exact er206 | exact er207 | exact er208 | exact er209 | exact er210 | exact er211 | exact er212 | exact er213 | exact er214 | exact er215) rfl ?_
  refine eg_iload_n dX9_becomes_4 rfl ?_
  refine eg_nowL dX9_becomes_5 hN (by omega) (by omega) ?_
  refine eg_l2i dX9_becomes_6 ?_
  refine eg_istore dX9_becomes_7 rfl rfl rfl ?_
  refine eg_iload dX9_becomes_9 rfl ?_
  refine eg_iload_n dX9_becomes_11 rfl ?_
  refine eg_icmp_ne 17 dX9_becomes_12 ⟨by omega, by omega⟩ ⟨by omega, by omega⟩ rfl (fun h12 => ?_) (fun h12 => ?_)
  · refine eg_al_n dX9_becomes_17 rfl rfl ?_
    refine eg_Vpv0 cs_X9_206 dX9_becomes_18 (c_keepsPast hN hI.2.1.1 hI.2.1.2.1 hI.2.1.2.2) (by first | exact er202 | exact er203 | exact er204 | exact er205 | exact er206 | exact er207 | exact er208 | exact er209 | exact er210 | exact er211 | exact er212 | exact er213 | exact er214 | exact er215) rfl (Nat.le_of_ble_eq_true rfl) (by decide) ?_
    rintro y1 ⟨m1, m2, m3, m4⟩
    have hN : nw y1 s.1 := nw_c (m1 203 (by decide) (by decide)) hN
    have hF : ∀ c, c ≠ 203 → y1 c = y1 c := fun _ _ => rfl
    refine eg_al_n dX9_becomes_21 rfl rfl ?_
    refine eg_get fl_X9_9 dX9_becomes_22 (by first | exact er202 | exact er203 | exact er204 | exact er205 | exact er206 | exact er207 | exact er208 | exact er209 | exact er210 | exact er211 | exact er212 | exact er213 | exact er214 | exact er215) rfl ?_
    refine eg_iload_n dX9_becomes_25 rfl ?_
    refine eg_iload_n dX9_becomes_26 rfl ?_
    refine eg_i2l dX9_becomes_27 ⟨by omega, by omega⟩ ?_
    refine eg_nowS dX9_becomes_28 hN (by omega) (by omega) (fun y f1 hN => ?_)
    have hF := fun c hc => (f1 c hc).trans (hF c hc)
    refine eg_iload dX9_becomes_29 rfl ?_
    refine eg_ireturn dX9_becomes_31 rfl rfl ?_
    rw [show bcR s p.toNat x e = (s.1 p.toNat, puS s (va_up s.1 p.toNat x)) from by unfold bcR; rw [if_neg (by omega)]]
    exact ⟨rfl, rfl, y, rfl, hI.push m1 m2 m3 m4 hF hN⟩
  · refine eg_iload_n dX9_becomes_15 rfl ?_
    refine eg_ireturn dX9_becomes_16 rfl rfl ?_
    rw [show bcR s p.toNat x e = (e, s) from by unfold bcR; rw [if_pos (by omega)]]
    exact ⟨rfl, rfl, z, rfl, FM.rf, hI⟩
theorem c_adds {k : eg_K} {z : eg_Z} {X : eg_M} {n : Nat} {v : eg_v} (hN : nw z v) {a b c e : Int} (h3 : 0 ≤ v 3 ∧ v 3 < 16) (r_a : iR a) (r_b : iR b) (r_c : iR c) (r_e : iR e) : eg_P k gX9_adds 1 0 0 [vR k 202, vI a, vI b, vI c, vI e] n (enc k z X) (eg_p k none n X (fun z' => (∀ c, c ≠ 203 → z' c = z c) ∧ nw z' (addV v a b c e))) := by
  refine eg_P.of (by decide) (Nat.le_of_ble_eq_true rfl) ?_
  show eg_E k gX9_adds 1 0 0 n (enc k z X) [vR k 202, vI a, vI b, vI c, vI e, vU] [] 0 _
  have hF : ∀ c, c ≠ 203 → z c = z c := fun _ _ => rfl
  have r_a1 := r_a.1; have r_a2 := r_a.2; have r_b1 := r_b.1; have r_b2 := r_b.2; have r_c1 := r_c.1; have r_c2 := r_c.2; have r_e1 := r_e.1; have r_e2 := r_e.2
  refine eg_bipush dX9_adds_0 (by decide) ?_
  refine eg_iconst dX9_adds_2 ?_
  refine eg_al_n dX9_adds_3 rfl rfl ?_
  refine eg_iconst dX9_adds_4 ?_
  refine eg_Vf1 cs_X9_179 dX9_adds_5 (many_3 hN) (by first | exact er202 | exact er203 | exact er204 | exact er205 | exact er206 | exact er207 | exact er208 | exact er209 | exact er210 | exact er211 | exact er212 | exact er213 | exact er214 | exact er215) rfl (Nat.le_of_ble_eq_true rfl) (by decide) ?_
  refine eg_imul dX9_adds_8 ?_
  refine eg_iadd dX9_adds_9 ?_
  refine eg_istore dX9_adds_10 rfl rfl rfl ?_
  refine eg_al_n dX9_adds_12 rfl rfl ?_
  refine eg_get fl_X9_9 dX9_adds_13 (by first | exact er202 | exact er203 | exact er204 | exact er205 | exact er206 | exact er207 | exact er208 | exact er209 | exact er210 | exact er211 | exact er212 | exact er213 | exact er214 | exact er215) rfl ?_
  refine eg_iload dX9_adds_16 rfl ?_
  refine eg_iload_n dX9_adds_18 rfl ?_
  refine eg_i2l dX9_adds_19 ⟨by omega, by omega⟩ ?_
  refine eg_nowS dX9_adds_20 hN (by omega) (by omega) (fun y f1 hN => ?_)
  have hF := fun c hc => (f1 c hc).trans (hF c hc)
  refine eg_al_n dX9_adds_21 rfl rfl ?_
  refine eg_get fl_X9_9 dX9_adds_22 (by first | exact er202 | exact er203 | exact er204 | exact er205 | exact er206 | exact er207 | exact er208 | exact er209 | exact er210 | exact er211 | exact er212 | exact er213 | exact er214 | exact er215) rfl ?_
  refine eg_iload dX9_adds_25 rfl ?_
  refine eg_iconst dX9_adds_27 ?_
  refine eg_iadd dX9_adds_28 ?_
  refine eg_iload_n dX9_adds_29 rfl ?_
  refine eg_i2l dX9_adds_30 ⟨by omega, by omega⟩ ?_
  refine eg_nowS dX9_adds_31 hN (by omega) (by omega) (fun y f1 hN => ?_)
  have hF := fun c hc => (f1 c hc).trans (hF c hc)
  refine eg_al_n dX9_adds_32 rfl rfl ?_
  refine eg_get fl_X9_9 dX9_adds_33 (by first | exact er202 | exact er203 | exact er204 | exact er205 | exact er206 | exact er207 | exact er208 | exact er209 | exact er210 | exact er211 | exact er212 | exact er213 | exact er214 | exact er215) rfl ?_
  refine eg_iload dX9_adds_36 rfl ?_
  refine eg_iconst dX9_adds_38 ?_
  refine eg_iadd dX9_adds_39 ?_
  refine eg_iload_n dX9_adds_40 rfl ?_
  refine eg_i2l dX9_adds_41 ⟨by omega, by omega⟩ ?_
  refine eg_nowS dX9_adds_42 hN (by omega) (by omega) (fun y f1 hN => ?_)
  have hF := fun c hc => (f1 c hc).trans (hF c hc)
  refine eg_al_n dX9_adds_43 rfl rfl ?_
  refine eg_get fl_X9_9 dX9_adds_44 (by first | exact er202 | exact er203 | exact er204 | exact er205 | exact er206 | exact er207 | exact er208 | exact er209 | exact er210 | exact er211 | exact er212 | exact er213 | exact er214 | exact er215) rfl ?_
  refine eg_iload dX9_adds_47 rfl ?_
  refine eg_iconst dX9_adds_49 ?_
  refine eg_iadd dX9_adds_50 ?_
  refine eg_iload dX9_adds_51 rfl ?_
  refine eg_i2l dX9_adds_53 ⟨by omega, by omega⟩ ?_
  refine eg_nowS dX9_adds_54 hN (by omega) (by omega) (fun y f1 hN => ?_)
  have hF := fun c hc => (f1 c hc).trans (hF c hc)
  refine eg_al_n dX9_adds_55 rfl rfl ?_
  refine eg_get fl_X9_9 dX9_adds_56 (by first | exact er202 | exact er203 | exact er204 | exact er205 | exact er206 | exact er207 | exact er208 | exact er209 | exact er210 | exact er211 | exact er212 | exact er213 | exact er214 | exact er215) rfl ?_
  refine eg_iconst dX9_adds_59 ?_
  refine eg_dup2 dX9_adds_60 rfl rfl ?_
  refine eg_nowL dX9_adds_61 hN (by omega) (by omega) ?_
  rw [va_up_n _ _ (show (Int.toNat 3) ≠ _ by show 3 ≠ _; omega), va_up_n _ _ (show (Int.toNat 3) ≠ _ by show 3 ≠ _; omega), va_up_n _ _ (show (Int.toNat 3) ≠ _ by show 3 ≠ _; omega), va_up_n _ _ (show (Int.toNat 3) ≠ _ by show 3 ≠ _; omega)]
  refine eg_lk1 dX9_adds_62 ?_
  refine eg_ladd dX9_adds_63 ?_
  refine eg_nowS dX9_adds_64 hN (by omega) (by omega) (fun y f1 hN => ?_)
  have hF := fun c hc => (f1 c hc).trans (hF c hc)
  refine eg_return dX9_adds_65 rfl ?_
  refine ⟨rfl, rfl, y, rfl, hF, ?_⟩
  unfold addV
  rw [Int.add_zero]
  exact hN
theorem c_goes {k : eg_K} {z : eg_Z} {X : eg_M} {n : Nat} {v : eg_v} (hN : nw z v) {a b c x : Int} (ha : 0 ≤ a ∧ a < 6) (hb : 0 ≤ b ∧ b < 6) (hc : 0 ≤ c ∧ c < 7) : eg_P k gX9_goes 0 0 0 [vR k 202, vI a, vI b, vI c, vL x] n (enc k z X) (eg_p k none n X (fun z' => (∀ c, c ≠ 203 → z' c = z c) ∧ nw z' (mvV v a b c x))) := by
  refine eg_P.of (by decide) (Nat.le_of_ble_eq_true rfl) ?_
  show eg_E k gX9_goes 0 0 0 n (enc k z X) [vR k 202, vI a, vI b, vI c, vL x, vU] [] 0 _
  have hF : ∀ c, c ≠ 203 → z c = z c := fun _ _ => rfl
  refine eg_al_n dX9_goes_0 rfl rfl ?_
  refine eg_get fl_X9_9 dX9_goes_1 (by first | exact er202 | exact er203 | exact er204 | exact er205 | exact er206 | exact er207 | exact er208 | exact er209 | exact er210 | exact er211 | exact er212 | exact er213 | exact er214 | exact er215) rfl ?_
  refine eg_bipush dX9_goes_4 (by decide) ?_
  refine eg_bipush dX9_goes_6 (by decide) ?_
  refine eg_iload_n dX9_goes_8 rfl ?_
  refine eg_imul dX9_goes_9 ?_
  refine eg_iadd dX9_goes_10 ?_
  refine eg_iload_n dX9_goes_11 rfl ?_
  refine eg_iadd dX9_goes_12 ?_
  refine eg_dup2 dX9_goes_13 rfl rfl ?_
  refine eg_nowL dX9_goes_14 hN (by omega) (by omega) ?_
  refine eg_lload dX9_goes_15 rfl ?_
  refine eg_lsub dX9_goes_17 ?_
  refine eg_nowS dX9_goes_18 hN (by omega) (by omega) (fun y f1 hN => ?_)
  have hF := fun c hc => (f1 c hc).trans (hF c hc)
  refine eg_al_n dX9_goes_19 rfl rfl ?_
  refine eg_get fl_X9_9 dX9_goes_20 (by first | exact er202 | exact er203 | exact er204 | exact er205 | exact er206 | exact er207 | exact er208 | exact er209 | exact er210 | exact er211 | exact er212 | exact er213 | exact er214 | exact er215) rfl ?_
  refine eg_bipush dX9_goes_23 (by decide) ?_
  refine eg_bipush dX9_goes_25 (by decide) ?_
  refine eg_iload_n dX9_goes_27 rfl ?_
  refine eg_imul dX9_goes_28 ?_
  refine eg_iadd dX9_goes_29 ?_
  refine eg_iload_n dX9_goes_30 rfl ?_
  refine eg_iadd dX9_goes_31 ?_
  refine eg_dup2 dX9_goes_32 rfl rfl ?_
  refine eg_nowL dX9_goes_33 hN (by omega) (by omega) ?_
  refine eg_lload dX9_goes_34 rfl ?_
  refine eg_ladd dX9_goes_36 ?_
  refine eg_nowS dX9_goes_37 hN (by omega) (by omega) (fun y f1 hN => ?_)
  have hF := fun c hc => (f1 c hc).trans (hF c hc)
  refine eg_return dX9_goes_38 rfl ?_
  exact ⟨rfl, rfl, y, rfl, hF, hN⟩
theorem c_removes {k : eg_K} {z : eg_Z} {X : eg_M} {n : Nat} {v : eg_v} (hN : nw z v) {r : Int} (h3 : v 3 ≤ 16) (hr : 0 ≤ r ∧ r < v 3) : eg_P k gX9_removes 1 0 0 [vR k 202, vI r] n (enc k z X) (eg_p k none n X (fun z' => (∀ c, c ≠ 203 → z' c = z c) ∧ nw z' (remV v r))) := by
  refine eg_P.of (by decide) (Nat.le_of_ble_eq_true rfl) ?_
  show eg_E k gX9_removes 1 0 0 n (enc k z X) [vR k 202, vI r, vU] [] 0 _
  have L2 : ∀ (m : Nat) (j : Int) (y : eg_Z), 108 + 4 * (v 3 - 1) ≤ j → j ≤ 172 → (∀ c, c ≠ 203 → y c = z c) → nw y (fun i : Nat => if i = 3 then v 3 - 1 else if 108 + 4 * (v 3 - 1) ≤ (i : Int) ∧ (i : Int) < j then 0 else if 108 + 4 * r ≤ (i : Int) ∧ (i : Int) < 168 then v (i + 4) else v i) → 172 - j < (m : Int) → eg_E k gX9_removes 1 0 0 n (enc k y X) [vR k 202, vI r, vI j] [] 57 (eg_p k none n X (fun z' => (∀ c, c ≠ 203 → z' c = z c) ∧ nw z' (remV v r))) := by
    intro m
    induction m with
    | zero => intro j y h0 h1 hF hN hm; exfalso; omega
    | succ m ih =>
      intro j y h0 h1 hF hN hm
      refine eg_iload_n dX9_removes_57 rfl ?_
      refine eg_sipush dX9_removes_58 (by decide) ?_
      refine eg_icmp_ge 77 dX9_removes_61 ⟨by omega, by omega⟩ ⟨by omega, by omega⟩ rfl (fun h61 => ?_) (fun h61 => ?_)
      · refine eg_return dX9_removes_77 rfl ?_
        refine ⟨rfl, rfl, y, rfl, hF, fun i hi => ?_⟩
        rw [hN i hi]
        unfold remV
        dsimp only
        by_cases e3 : i = 3
        · rw [if_pos e3, if_pos e3]
        · rw [if_neg e3, if_neg e3]
          by_cases e1 : 108 ≤ i ∧ i < 172
          · rw [if_pos e1]
            by_cases e2 : 108 + 4 * (v 3 - 1) ≤ (i : Int)
            · rw [if_pos e2, if_pos (by omega)]
            · rw [if_neg e2, if_neg (by omega)]
              by_cases e4 : (i : Int) < 108 + 4 * r
              · rw [if_pos e4, if_neg (by omega)]
              · rw [if_neg e4, if_pos (by omega)]
          · rw [if_neg e1, if_neg (by omega), if_neg (by omega)]
      · refine eg_al_n dX9_removes_64 rfl rfl ?_
        refine eg_get fl_X9_9 dX9_removes_65 (by first | exact er202 | exact er203 | exact er204 | exact er205 | exact er206 | exact er207 | exact er208 | exact er209 | exact er210 | exact er211 | exact er212 | exact er213 | exact er214 | exact er215) rfl ?_
        refine eg_iload_n dX9_removes_68 rfl ?_
        refine eg_lk0 dX9_removes_69 ?_
        refine eg_nowS dX9_removes_70 hN (by omega) (by omega) (fun y f1 hN => ?_)
        have hF := fun c hc => (f1 c hc).trans (hF c hc)
        refine eg_iinc dX9_removes_71 rfl rfl rfl ?_
        refine eg_goto 57 dX9_removes_74 rfl ?_
        refine ih (j + 1) y (by omega) (by omega) hF (fun i hi => ?_) (by omega)
        rw [hN i hi]
        dsimp only
        by_cases e : i = j.toNat
        · subst e; rw [va_up_s, if_neg (by omega), if_pos (by omega)]
        · rw [va_up_n _ _ e]
          by_cases e3 : i = 3
          · rw [if_pos e3, if_pos e3]
          · rw [if_neg e3, if_neg e3]
            by_cases e4 : 108 + 4 * (v 3 - 1) ≤ (i : Int) ∧ (i : Int) < j
            · rw [if_pos e4, if_pos (show 108 + 4 * (v 3 - 1) ≤ (i : Int) ∧ (i : Int) < j + 1 by omega)]
            · rw [if_neg e4, if_neg (show ¬ (108 + 4 * (v 3 - 1) ≤ (i : Int) ∧ (i : Int) < j + 1) by omega)]
  have L1 : ∀ (m : Nat) (j : Int) (y : eg_Z), 108 + 4 * r ≤ j → j ≤ 168 → (∀ c, c ≠ 203 → y c = z c) → nw y (fun i : Nat => if 108 + 4 * r ≤ (i : Int) ∧ (i : Int) < j then v (i + 4) else v i) → 168 - j < (m : Int) → eg_E k gX9_removes 1 0 0 n (enc k y X) [vR k 202, vI r, vI j] [] 7 (eg_p k none n X (fun z' => (∀ c, c ≠ 203 → z' c = z c) ∧ nw z' (remV v r))) := by
    intro m
    induction m with
    | zero => intro j y h0 h1 hF hN hm; exfalso; omega
    | succ m ih =>
      intro j y h0 h1 hF hN hm
      refine eg_iload_n dX9_removes_7 rfl ?_
      refine eg_iconst dX9_removes_8 ?_
      refine eg_iadd dX9_removes_9 ?_
      refine eg_sipush dX9_removes_10 (by decide) ?_
      refine eg_icmp_ge 36 dX9_removes_13 ⟨by omega, by omega⟩ ⟨by omega, by omega⟩ rfl (fun h13 => ?_) (fun h13 => ?_)
      · refine eg_al_n dX9_removes_36 rfl rfl ?_
        refine eg_get fl_X9_9 dX9_removes_37 (by first | exact er202 | exact er203 | exact er204 | exact er205 | exact er206 | exact er207 | exact er208 | exact er209 | exact er210 | exact er211 | exact er212 | exact er213 | exact er214 | exact er215) rfl ?_
        refine eg_iconst dX9_removes_40 ?_
        refine eg_dup2 dX9_removes_41 rfl rfl ?_
        have e3 : (fun i : Nat => if 108 + 4 * r ≤ (i : Int) ∧ (i : Int) < j then v (i + 4) else v i) (3 : Int).toNat = v 3 := if_neg (by show ¬ (108 + 4 * r ≤ ((3 : Nat) : Int) ∧ _); omega)
        refine eg_nowL dX9_removes_42 hN (by omega) (by omega) ?_
        refine eg_eqL e3 ?_
        refine eg_lk1 dX9_removes_43 ?_
        refine eg_lsub dX9_removes_44 ?_
        refine eg_nowS dX9_removes_45 hN (by omega) (by omega) (fun y f1 hN => ?_)
        have hF := fun c hc => (f1 c hc).trans (hF c hc)
        refine eg_bipush dX9_removes_46 (by decide) ?_
        refine eg_iconst dX9_removes_48 ?_
        refine eg_al_n dX9_removes_49 rfl rfl ?_
        refine eg_iconst dX9_removes_50 ?_
        refine eg_Vf1 cs_X9_179 dX9_removes_51 (many_3 hN) (by first | exact er202 | exact er203 | exact er204 | exact er205 | exact er206 | exact er207 | exact er208 | exact er209 | exact er210 | exact er211 | exact er212 | exact er213 | exact er214 | exact er215) rfl (Nat.le_of_ble_eq_true rfl) (by decide) ?_
        refine eg_eqI (va_up_s _ 3 _) ?_
        refine eg_imul dX9_removes_54 ?_
        refine eg_iadd dX9_removes_55 ?_
        refine eg_istore_n dX9_removes_56 rfl rfl rfl ?_
        refine L2 200 _ y (by omega) (by omega) hF (fun i hi => ?_) (by omega)
        rw [hN i hi]
        dsimp only
        by_cases e : i = 3
        · rw [if_pos e]; subst e; exact va_up_s _ 3 _
        · rw [va_up_n _ _ (show i ≠ (3 : Int).toNat from e), if_neg e, if_neg (show ¬ (108 + 4 * (v 3 - 1) ≤ (i : Int) ∧ (i : Int) < 108 + 4 * (v 3 - 1)) by omega)]
          by_cases e4 : 108 + 4 * r ≤ (i : Int) ∧ (i : Int) < j
          · rw [if_pos e4, if_pos (show 108 + 4 * r ≤ (i : Int) ∧ (i : Int) < 168 by omega)]
          · rw [if_neg e4, if_neg (show ¬ (108 + 4 * r ≤ (i : Int) ∧ (i : Int) < 168) by omega)]
      · refine eg_al_n dX9_removes_16 rfl rfl ?_
        refine eg_get fl_X9_9 dX9_removes_17 (by first | exact er202 | exact er203 | exact er204 | exact er205 | exact er206 | exact er207 | exact er208 | exact er209 | exact er210 | exact er211 | exact er212 | exact er213 | exact er214 | exact er215) rfl ?_
        refine eg_iload_n dX9_removes_20 rfl ?_
        refine eg_al_n dX9_removes_21 rfl rfl ?_
        refine eg_get fl_X9_9 dX9_removes_22 (by first | exact er202 | exact er203 | exact er204 | exact er205 | exact er206 | exact er207 | exact er208 | exact er209 | exact er210 | exact er211 | exact er212 | exact er213 | exact er214 | exact er215) rfl ?_
        refine eg_iload_n dX9_removes_25 rfl ?_
        refine eg_iconst dX9_removes_26 ?_
        refine eg_iadd dX9_removes_27 ?_
        refine eg_nowL dX9_removes_28 hN (by omega) (by omega) ?_
        refine eg_nowS dX9_removes_29 hN (by omega) (by omega) (fun y f1 hN => ?_)
        have hF := fun c hc => (f1 c hc).trans (hF c hc)
        refine eg_iinc dX9_removes_30 rfl rfl rfl ?_
        refine eg_goto 7 dX9_removes_33 rfl ?_
        refine ih (j + 1) y (by omega) (by omega) hF (fun i hi => ?_) (by omega)
        rw [hN i hi]
        dsimp only
        by_cases e : i = j.toNat
        · subst e
          rw [va_up_s, if_neg (by omega), if_pos (by omega)]
          exact congrArg v (by omega)
        · rw [va_up_n _ _ e]
          by_cases e4 : 108 + 4 * r ≤ (i : Int) ∧ (i : Int) < j
          · rw [if_pos e4, if_pos (by omega)]
          · rw [if_neg e4, if_neg (by omega)]
  refine eg_bipush dX9_removes_0 (by decide) ?_
  refine eg_iconst dX9_removes_2 ?_
  refine eg_iload_n dX9_removes_3 rfl ?_
  refine eg_imul dX9_removes_4 ?_
  refine eg_iadd dX9_removes_5 ?_
  refine eg_istore_n dX9_removes_6 rfl rfl rfl ?_
  refine L1 200 _ z (by omega) (by omega) (fun _ _ => rfl) (fun i hi => ?_) (by omega)
  rw [hN i hi]
  dsimp only
  rw [if_neg (by omega)]
