theorem pz_v {v v' : eg_v} {B : Int} (hv : VV B v) (h : sE v v') {l l' p p' : Int → Int} (e : agr v p p') (el : ∀ c : Nat, c < 46 → l c = l' c) : ∀ m : Nat, m ≤ 46 → agr v (pz v' l p m) (pz v l' p' m)
  | 0, _ => e
  | m + 1, hm => by
    show agr v (sqP v' m (l m) (pz v' l p m)) (sqP v m (l' m) (pz v l' p' m))
    rw [el m (by omega)]
    intro q h0 h1
    rw [sqP_v hv h q h0 h1]
    exact sqP_c (pz_v hv h e el m (by omega)) q h0 h1
theorem lastF_v {v v' : eg_v} {B : Int} (hv : VV B v) (h : sE v v') {s : Int} (h0 : 0 ≤ s) (h1 : s < v 2) : ∀ m : Nat, (m : Int) ≤ v 3 → lastF v' s m = lastF v s m
  | 0, _ => h.2.2.2.2.2.2.2 s 0 h0 h1 (by omega)
  | m + 1, hm => by
    show (if gN v' m 0 = s then lastF v' s m - mn (gN v' m 3) (lastF v' s m) else lastF v' s m) = (if gN v m 0 = s then lastF v s m - mn (gN v m 3) (lastF v s m) else lastF v s m)
    rw [lastF_v hv h h0 h1 m (by omega), h.2.2.2.2.1 m 0 (by omega) (by omega) (by omega) (by omega), h.2.2.2.2.1 m 3 (by omega) (by omega) (by omega) (by omega)]
theorem fa_v {v v' : eg_v} {B : Int} (hv : VV B v) (h : sE v v') : agr v (fa v') (fa v) := fun q h0 h1 => by
  have o := (hv.N h0 h1).1
  unfold fa
  rw [h.2.2.2.2.1 q 0 h0 h1 (by omega) (by omega), h.2.2.2.2.1 q 3 h0 h1 (by omega) (by omega), lastF_v hv h o.1 o.2 _ (by omega)]
theorem pC_v {v v' : eg_v} {B : Int} (hv : VV B v) (h : sE v v') : ∀ j : Nat, agr v (pC v' j) (pC v j)
  | 0 => fa_v hv h
  | j + 1 => fun q h0 h1 => by
    have o := (hv.N h0 h1).1
    show pr v' _ q = pr v _ q
    unfold pr
    rw [h.2.2.2.2.1 q 0 h0 h1 (by omega) (by omega), h.2.2.2.2.1 q 3 h0 h1 (by omega) (by omega), fa_v hv h q h0 h1, h.2.2.2.2.2.2.2 _ 1 o.1 o.2 (by omega)]
theorem SS_v {v v' : eg_v} {B : Int} (hv : VV B v) (h : sE v v') : ∀ j : Nat, (∀ c : Nat, c < 46 → LL v' j c = LL v j c) ∧ agr v (SS v' j) (SS v j)
  | 0 => ⟨fun c hc => l0_v hv h (by omega) (by omega), fun _ _ _ => rfl⟩
  | j + 1 => by
    have ih := SS_v hv h j
    have e := pz_v hv h (pC_v hv h j) ih.1 46 (by omega)
    refine ⟨fun c hc => ?_, fun q h0 h1 => ?_⟩
    · show LL v' j c - tg v' c (pz v' (LL v' j) (pC v' j) 46) = LL v j c - tg v c (pz v (LL v j) (pC v j) 46)
      rw [ih.1 c hc, tg_v hv h, tg_c e]
    · show SS v' j q + pz v' (LL v' j) (pC v' j) 46 q = SS v j q + pz v (LL v j) (pC v j) 46 q
      rw [ih.2 q h0 h1, e q h0 h1]
theorem chF_f {v : eg_v} {p : Int → Int} : ∀ {m : Nat}, chF v p m = false → ∀ q : Int, 0 ≤ q → q < m → ¬ (0 < p q ∧ (gN v q 1 = -1 ∨ gN v q 2 = -1))
  | 0, _, q, h0, h1 => by omega
  | m + 1, h, q, h0, h1 => by
    have h : (chF v p m || decide (0 < p m ∧ (gN v m 1 = -1 ∨ gN v m 2 = -1))) = false := h
    rw [Bool.or_eq_false_iff] at h
    by_cases e : q = m
    · subst e; exact of_decide_eq_false h.2
    · exact chF_f h.1 q h0 (by omega)
theorem ch_sE {v : eg_v} {B : Int} (hv : VV B v) {p : Int → Int} (hp : okp v p) (hc : chF v p (v 3).toNat = false) : sE v (dayA v p) := by
  have r := hv.r.2
  have e : ∀ i : Nat, ((i < 7 ∨ (10 ≤ i ∧ i < 66) ∨ 108 ≤ i) ∧ i ≠ 4) → dayA v p i = v i := fun i h => dayA_i hv hp h
  refine ⟨e 0 (by omega), e 1 (by omega), e 2 (by omega), e 3 (by omega), fun q c h0 h1 h2 h3 => e _ (by omega), fun q c h0 h1 h2 h3 => e _ (by omega), fun q c h0 h1 h2 h3 => e _ (by omega), fun s c h0 h1 h2 => ?_⟩
  by_cases h5 : c = 5
  · subst h5
    rw [dayA_5 hv hp h0 h1]
    have z : ∀ m : Nat, (m : Int) ≤ v 3 → sm (hdS v p s) m = 0 := by
      intro m
      induction m with
      | zero => intro _; rfl
      | succ m ih =>
        intro hm
        have c := chF_f hc m (by omega) (by omega)
        have b := hp m (by omega) (by omega)
        show sm (hdS v p s) m + hdS v p s m = 0
        rw [ih (by omega)]
        unfold hdS hdF
        split
        · split
          · omega
          · split <;> omega
        · omega
    rw [z _ (by omega)]; omega
  · exact dayA_h hv hp h0 h1 (by omega)
/-- the schedule that was made is this state's -/
def SH (u : eg_v) (z : eg_Z) : Prop := z 25 8 = u 3 ∧ ∀ q : Int, 0 ≤ q → q < u 3 → z 26 q.toNat = SS u 10 q
theorem SH_d {u : eg_v} {B : Int} (hv : VV B u) (hk : PK u) {z : eg_Z} (h : SH u z) (hc : chF u (SS u 10) (u 3).toNat = false) : SH (dayA u (SS u 10)) z := by
  have e := ch_sE hv (okpS hv hk) hc
  refine ⟨by rw [e.2.2.2.1]; exact h.1, fun q h0 h1 => ?_⟩
  rw [e.2.2.2.1] at h1
  rw [(SS_v hv e 10).2 q h0 h1]
  exact h.2 q h0 h1
theorem c_ptd {k : eg_K} {z : eg_Z} {X : eg_M} {n : Nat} {u : eg_v} {B a : Int} (hp : hP z 13 u) (hv : VV B u) (hk : PK u) (hB : B ≤ 90000000) (ha : a = 1 ∨ (a = 0 ∧ SH u z)) : eg_P k gX8_passTrialDay 5 0 0 [vR k 0, vI a] n (enc k z X) (eg_p k (some (vI (bi (chF u (SS u 10) (u 3).toNat = true)))) n X (fun z' => Fr z z' ∧ hP z' 13 (dayA u (SS u 10)) ∧ SH u z' ∧ ∀ i s : Int, 0 ≤ i → i < 8 → 0 ≤ s → s < u 2 → z' (13 + 11) (i * 6 + s).toNat = if i = 0 then gH (dayA u (SS u 10)) s 4 else z (13 + 11) ((i - 1) * 6 + s).toNat)) := by
  refine eg_P.of (by decide) (Nat.le_of_ble_eq_true rfl) ?_
  show eg_E k gX8_passTrialDay 5 0 0 n (enc k z X) [vR k 0, vI a] [] 0 _
  have q := hv.r.2
  have K : ∀ y, MdS z y → SH u y → eg_E k gX8_passTrialDay 5 0 0 n (enc k y X) [vR k 0, vI a] [] 15 (eg_p k (some (vI (bi (chF u (SS u 10) (u 3).toNat = true)))) n X (fun z' => Fr z z' ∧ hP z' 13 (dayA u (SS u 10)) ∧ SH u z' ∧ ∀ i s : Int, 0 ≤ i → i < 8 → 0 ≤ s → s < u 2 → z' (13 + 11) (i * 6 + s).toNat = if i = 0 then gH (dayA u (SS u 10)) s 4 else z (13 + 11) ((i - 1) * 6 + s).toNat)) := by
    intro y hm hs
    have hpy := hm.hP isB_13 hp
    have ag : agr u (fun q : Int => y 26 q.toNat) (SS u 10) := hs.2
    have cd := c_X2_passDay (n := n) (X := X) (k := k) isB_13 hpy hv hB (okp_c (okpS hv hk) ag)
    rw [dayA_c (by omega) ag, chF_c ag _ (by omega)] at cd
    refine eg_al_n dX8_passTrialDay_15 rfl rfl ?_
    refine eg_get fl_X8_16 dX8_passTrialDay_16 (by first | exact er0 | exact er25 | exact er34 | exact er181 | exact er182 | exact er196 | exact er199 | exact er156 | exact ep0 isB_13 | exact ep1 isB_13 | exact ep3 isB_13 | exact ep5 isB_13 | exact ep7 isB_13 | exact er26 | exact er27 | exact er28 ) rfl ?_
    refine eg_al_n dX8_passTrialDay_19 rfl rfl ?_
    refine eg_get fl_X8_22 dX8_passTrialDay_20 (by first | exact er0 | exact er25 | exact er34 | exact er181 | exact er182 | exact er196 | exact er199 | exact er156 | exact ep0 isB_13 | exact ep1 isB_13 | exact ep3 isB_13 | exact ep5 isB_13 | exact ep7 isB_13 | exact er26 | exact er27 | exact er28 ) rfl ?_
    refine eg_Vpf1 cs_X8_325 dX8_passTrialDay_23 (cd) (by first | exact er0 | exact er25 | exact er34 | exact er181 | exact er182 | exact er196 | exact er199 | exact er156 | exact ep0 isB_13 | exact ep1 isB_13 | exact ep3 isB_13 | exact ep5 isB_13 | exact ep7 isB_13 | exact er26 | exact er27 | exact er28 ) rfl (Nat.le_of_ble_eq_true rfl) (by decide) ?_
    rintro y1 ⟨m1, h1, l1⟩
    refine eg_ireturn dX8_passTrialDay_26 rfl (bi_nar _) ?_
    refine ⟨rfl, rfl, y1, rfl, (Fr.s hm).tr (Fr.t m1), h1, ⟨by rw [m1 25 (by omega)]; exact hs.1, fun q g0 g1 => by rw [m1 26 (by omega)]; exact hs.2 q g0 g1⟩, fun i s g0 g1 g2 g3 => ?_⟩
    rw [l1 i s g0 g1 g2 g3, hm.cell isB_13 (by omega)]
  rcases ha with ha | ha
  · refine eg_iload_n dX8_passTrialDay_0 rfl ?_
    refine eg_if_eq 15 dX8_passTrialDay_1 ⟨by omega, by omega⟩ rfl (fun h1 => absurd h1 (by omega)) (fun h1 => ?_)
    refine eg_al_n dX8_passTrialDay_4 rfl rfl ?_
    refine eg_get fl_X8_22 dX8_passTrialDay_5 (by first | exact er0 | exact er25 | exact ep0 isB_13) rfl ?_
    refine eg_al_n dX8_passTrialDay_8 rfl rfl ?_
    refine eg_get fl_X8_16 dX8_passTrialDay_9 (by first | exact er0 | exact er25 | exact ep0 isB_13) rfl ?_
    refine eg_Vpv1 cs_X8_198 dX8_passTrialDay_12 (c_X4_make isB_13 hp hv hk) (by first | exact er0 | exact er25 | exact ep0 isB_13) rfl (Nat.le_of_ble_eq_true rfl) (by decide) ?_
    rintro y1 ⟨m1, s1, f1⟩
    exact K y1 m1 ⟨s1.1, fun q g0 g1 => (s1.2.2.1 q g0 g1).1⟩
  · refine eg_iload_n dX8_passTrialDay_0 rfl ?_
    refine eg_if_eq 15 dX8_passTrialDay_1 ⟨by omega, by omega⟩ rfl (fun h1 => ?_) (fun h1 => absurd h1 (by omega))
    exact K z MdS.rf ha.2
def R_day (s : eg_S) : Int × eg_S := if 0 < s.1 0 then (if 999 ≤ s.1 4 then (-2, s) else if fitN (dayA s.1 (SS s.1 10)) (s.1 2).toNat = true then (sm (SS s.1 10) (s.1 3).toNat, puS s (logV (dayA s.1 (SS s.1 10)))) else (-3, s)) else (-1, s)
theorem hL_log {z z' : eg_Z} {v : eg_v} (hl : hL z 13 v) (u : eg_v) (e2 : u 2 = v 2) (e4 : u 4 = v 4 + 1) (e11 : u 11 = v 11) (el : ∀ i, 172 ≤ i → u i = v i) (h2 : v 2 ≤ 6) (h4 : 0 ≤ v 4) (h : ∀ i s : Int, 0 ≤ i → i < 8 → 0 ≤ s → s < v 2 → z' (13 + 11) (i * 6 + s).toNat = if i = 0 then gH u s 4 else z (13 + 11) ((i - 1) * 6 + s).toNat) : hL z' 13 (logV u) := by
  obtain ⟨a, b⟩ := hl
  refine ⟨fun i s g0 g1 g2 g3 g4 => ?_, ?_⟩
  · rw [logV_i (by omega), e4] at g2
    rw [logV_i (by omega), e2] at g4
    rw [h i s g0 g1 g3 g4]
    unfold logV
    by_cases hi : i = 0
    · subst hi
      rw [if_pos rfl, if_neg (by omega), if_pos (by omega)]
      congr 1; omega
    · rw [if_neg hi, if_neg (by omega), if_neg (by omega), if_pos (by omega), a (i - 1) s (by omega) (by omega) (by omega) g3 g4, el _ (by omega)]
      congr 1; omega
  · rw [logV_i (i := 4) (by omega), e4]
    unfold logV
    rw [if_pos rfl, e11, b]
    split <;> split <;> omega
theorem p_day {k : eg_K} {z : eg_Z} {X : eg_M} {n : Nat} {s : eg_S} (hI : IC z s) : eg_P k gX8_day 6 0 0 [vR k 0] n (enc k z X) (eg_p k (some (vI (R_day s).1)) n X (fun z' => FC z z' ∧ IC z' (R_day s).2)) := by
  refine eg_P.of (by decide) (Nat.le_of_ble_eq_true rfl) ?_
  show eg_E k gX8_day 6 0 0 n (enc k z X) [vR k 0] [] 0 _
  obtain ⟨hV1, hHi, ⟨hkb, hsh⟩, hT, hTl, hTb⟩ := id hI
  have hb := isB_1
  have hp := hV1.1
  have hv := hV1.2.2.1
  have q := hv.r.2
  obtain ⟨⟨z0, z1, z2, z3⟩, ⟨c1, c3, c5, c7⟩, -⟩ := id hp
  refine eg_al_n dX8_day_0 rfl rfl ?_
  refine eg_get fl_X8_12 dX8_day_1 (by first | exact er0 | exact ep0 hb | exact ep1 hb | exact ep3 hb | exact ep5 hb | exact ep7 hb | exact er25 | exact er34 | exact er181 | exact er182 | exact er196 | exact er199 | exact er156 | exact ep0 isB_13 | exact ep1 isB_13 | exact ep3 isB_13 | exact ep5 isB_13 | exact ep7 isB_13 | exact er26 | exact er27 | exact er28 | exact ep9 hb | exact ep10 hb | exact ep0 (isB_shelf _ (by omega))) rfl ?_
  refine eg_Vf0 cs_X8_170 dX8_day_4 (c_X2_isThere hb hp hv) (by first | exact er0 | exact ep0 hb | exact ep1 hb | exact ep3 hb | exact ep5 hb | exact ep7 hb | exact er25 | exact er34 | exact er181 | exact er182 | exact er196 | exact er199 | exact er156 | exact ep0 isB_13 | exact ep1 isB_13 | exact ep3 isB_13 | exact ep5 isB_13 | exact ep7 isB_13 | exact er26 | exact er27 | exact er28 | exact ep9 hb | exact ep10 hb | exact ep0 (isB_shelf _ (by omega))) rfl (Nat.le_of_ble_eq_true rfl) (by decide) ?_
  refine eg_bi_ne 12 dX8_day_7 rfl (fun h7 => ?_) (fun h7 => ?_)
  · refine eg_al_n dX8_day_12 rfl rfl ?_
    refine eg_get fl_X8_12 dX8_day_13 (by first | exact er0 | exact ep0 hb | exact ep1 hb | exact ep3 hb | exact ep5 hb | exact ep7 hb | exact er25 | exact er34 | exact er181 | exact er182 | exact er196 | exact er199 | exact er156 | exact ep0 isB_13 | exact ep1 isB_13 | exact ep3 isB_13 | exact ep5 isB_13 | exact ep7 isB_13 | exact er26 | exact er27 | exact er28 | exact ep9 hb | exact ep10 hb | exact ep0 (isB_shelf _ (by omega))) rfl ?_
    refine eg_get fl_X8_173 dX8_day_16 (by first | exact er0 | exact ep0 hb | exact ep1 hb | exact ep3 hb | exact ep5 hb | exact ep7 hb | exact er25 | exact er34 | exact er181 | exact er182 | exact er196 | exact er199 | exact er156 | exact ep0 isB_13 | exact ep1 isB_13 | exact ep3 isB_13 | exact ep5 isB_13 | exact ep7 isB_13 | exact er26 | exact er27 | exact er28 | exact ep9 hb | exact ep10 hb | exact ep0 (isB_shelf _ (by omega))) rfl ?_
    rw [z3]
    refine eg_sipush dX8_day_19 (by decide) ?_
    refine eg_icmp_lt 28 dX8_day_22 ⟨by omega, by omega⟩ ⟨by omega, by omega⟩ rfl (fun h22 => ?_) (fun h22 => ?_)
    · refine eg_al_n dX8_day_28 rfl rfl ?_
      refine eg_get fl_X8_16 dX8_day_29 (by first | exact er0 | exact ep0 hb | exact ep1 hb | exact ep3 hb | exact ep5 hb | exact ep7 hb | exact er25 | exact er34 | exact er181 | exact er182 | exact er196 | exact er199 | exact er156 | exact ep0 isB_13 | exact ep1 isB_13 | exact ep3 isB_13 | exact ep5 isB_13 | exact ep7 isB_13 | exact er26 | exact er27 | exact er28 | exact ep9 hb | exact ep10 hb | exact ep0 (isB_shelf _ (by omega))) rfl ?_
      refine eg_al_n dX8_day_32 rfl rfl ?_
      refine eg_get fl_X8_12 dX8_day_33 (by first | exact er0 | exact ep0 hb | exact ep1 hb | exact ep3 hb | exact ep5 hb | exact ep7 hb | exact er25 | exact er34 | exact er181 | exact er182 | exact er196 | exact er199 | exact er156 | exact ep0 isB_13 | exact ep1 isB_13 | exact ep3 isB_13 | exact ep5 isB_13 | exact ep7 isB_13 | exact er26 | exact er27 | exact er28 | exact ep9 hb | exact ep10 hb | exact ep0 (isB_shelf _ (by omega))) rfl ?_
      refine eg_Vpv1 cs_X8_88 dX8_day_36 (bec isB_13 hb (by omega) hV1) (by first | exact er0 | exact ep0 hb | exact ep1 hb | exact ep3 hb | exact ep5 hb | exact ep7 hb | exact er25 | exact er34 | exact er181 | exact er182 | exact er196 | exact er199 | exact er156 | exact ep0 isB_13 | exact ep1 isB_13 | exact ep3 isB_13 | exact ep5 isB_13 | exact ep7 isB_13 | exact er26 | exact er27 | exact er28 | exact ep9 hb | exact ep10 hb | exact ep0 (isB_shelf _ (by omega))) rfl (Nat.le_of_ble_eq_true rfl) (by decide) ?_
      rintro y1 ⟨m1, v1⟩
      refine eg_al_n dX8_day_39 rfl rfl ?_
      refine eg_iconst dX8_day_40 ?_
      refine eg_Vpf1 cs_X8_176 dX8_day_41 (c_ptd v1.1 hv hV1.2.2.2.1 (by omega) (Or.inl rfl)) (by first | exact er0 | exact ep0 hb | exact ep1 hb | exact ep3 hb | exact ep5 hb | exact ep7 hb | exact er25 | exact er34 | exact er181 | exact er182 | exact er196 | exact er199 | exact er156 | exact ep0 isB_13 | exact ep1 isB_13 | exact ep3 isB_13 | exact ep5 isB_13 | exact ep7 isB_13 | exact er26 | exact er27 | exact er28 | exact ep9 hb | exact ep10 hb | exact ep0 (isB_shelf _ (by omega))) rfl (Nat.le_of_ble_eq_true rfl) (by decide) ?_
      rintro y2 ⟨m2, h2, s2, l2⟩
      have okp9 := okpS hv hV1.2.2.2.1
      have vd := VV_dayA hv okp9 (by omega)
      have e2 : dayA s.1 (SS s.1 10) 2 = s.1 2 := dayA_i hv okp9 (by omega)
      have f2 : Fr z y2 := (Fr.t m1).tr m2
      have i2 := f2.ic hI
      refine eg_pop dX8_day_44 rfl ?_
      refine eg_al_n dX8_day_45 rfl rfl ?_
      refine eg_get fl_X8_16 dX8_day_46 (by first | exact er0 | exact ep0 hb | exact ep1 hb | exact ep3 hb | exact ep5 hb | exact ep7 hb | exact er25 | exact er34 | exact er181 | exact er182 | exact er196 | exact er199 | exact er156 | exact ep0 isB_13 | exact ep1 isB_13 | exact ep3 isB_13 | exact ep5 isB_13 | exact ep7 isB_13 | exact er26 | exact er27 | exact er28 | exact ep9 hb | exact ep10 hb | exact ep0 (isB_shelf _ (by omega))) rfl ?_
      refine eg_Vf0 cs_X8_180 dX8_day_49 (c_X2_balancesFit isB_13 h2 vd (by omega)) (by first | exact er0 | exact ep0 hb | exact ep1 hb | exact ep3 hb | exact ep5 hb | exact ep7 hb | exact er25 | exact er34 | exact er181 | exact er182 | exact er196 | exact er199 | exact er156 | exact ep0 isB_13 | exact ep1 isB_13 | exact ep3 isB_13 | exact ep5 isB_13 | exact ep7 isB_13 | exact er26 | exact er27 | exact er28 | exact ep9 hb | exact ep10 hb | exact ep0 (isB_shelf _ (by omega))) rfl (Nat.le_of_ble_eq_true rfl) (by decide) ?_
      rw [e2]
      refine eg_bi_ne 58 dX8_day_52 rfl (fun h52 => ?_) (fun h52 => ?_)
      · refine eg_al_n dX8_day_58 rfl rfl ?_
        refine eg_get fl_X8_29 dX8_day_59 (by first | exact er0 | exact ep0 hb | exact ep1 hb | exact ep3 hb | exact ep5 hb | exact ep7 hb | exact er25 | exact er34 | exact er181 | exact er182 | exact er196 | exact er199 | exact er156 | exact ep0 isB_13 | exact ep1 isB_13 | exact ep3 isB_13 | exact ep5 isB_13 | exact ep7 isB_13 | exact er26 | exact er27 | exact er28 | exact ep9 hb | exact ep10 hb | exact ep0 (isB_shelf _ (by omega))) rfl ?_
        refine eg_al_n dX8_day_62 rfl rfl ?_
        refine eg_get fl_X8_12 dX8_day_63 (by first | exact er0 | exact ep0 hb | exact ep1 hb | exact ep3 hb | exact ep5 hb | exact ep7 hb | exact er25 | exact er34 | exact er181 | exact er182 | exact er196 | exact er199 | exact er156 | exact ep0 isB_13 | exact ep1 isB_13 | exact ep3 isB_13 | exact ep5 isB_13 | exact ep7 isB_13 | exact er26 | exact er27 | exact er28 | exact ep9 hb | exact ep10 hb | exact ep0 (isB_shelf _ (by omega))) rfl ?_
        refine eg_Vpv1 cs_X8_114 dX8_day_66 (c_X0_remember i2.1 i2.2.1) (by first | exact er0 | exact ep0 hb | exact ep1 hb | exact ep3 hb | exact ep5 hb | exact ep7 hb | exact er25 | exact er34 | exact er181 | exact er182 | exact er196 | exact er199 | exact er156 | exact ep0 isB_13 | exact ep1 isB_13 | exact ep3 isB_13 | exact ep5 isB_13 | exact ep7 isB_13 | exact er26 | exact er27 | exact er28 | exact ep9 hb | exact ep10 hb | exact ep0 (isB_shelf _ (by omega))) rfl (Nat.le_of_ble_eq_true rfl) (by decide) ?_
        rintro y3 ⟨m3, g3⟩
        have hv9 : hV y3 13 (logV (dayA s.1 (SS s.1 10))) := ⟨hP_k (fun j hj => m3 _ (by omega)) (hP_e vd (fun i a b => logV_i ⟨a, b⟩) h2), hL_k (m3 _ (by omega)) (hL_log v1.2.1 _ e2 dayA_4 (dayA_i hv okp9 (by omega)) (fun i hi => dayA_i hv okp9 (by omega)) (by omega) (by omega) l2), okV_day hV1.2.2 (by omega) h52⟩
        refine eg_al_n dX8_day_69 rfl rfl ?_
        refine eg_get fl_X8_12 dX8_day_70 (by first | exact er0 | exact ep0 hb | exact ep1 hb | exact ep3 hb | exact ep5 hb | exact ep7 hb | exact er25 | exact er34 | exact er181 | exact er182 | exact er196 | exact er199 | exact er156 | exact ep0 isB_13 | exact ep1 isB_13 | exact ep3 isB_13 | exact ep5 isB_13 | exact ep7 isB_13 | exact er26 | exact er27 | exact er28 | exact ep9 hb | exact ep10 hb | exact ep0 (isB_shelf _ (by omega))) rfl ?_
        refine eg_al_n dX8_day_73 rfl rfl ?_
        refine eg_get fl_X8_16 dX8_day_74 (by first | exact er0 | exact ep0 hb | exact ep1 hb | exact ep3 hb | exact ep5 hb | exact ep7 hb | exact er25 | exact er34 | exact er181 | exact er182 | exact er196 | exact er199 | exact er156 | exact ep0 isB_13 | exact ep1 isB_13 | exact ep3 isB_13 | exact ep5 isB_13 | exact ep7 isB_13 | exact er26 | exact er27 | exact er28 | exact ep9 hb | exact ep10 hb | exact ep0 (isB_shelf _ (by omega))) rfl ?_
        refine eg_Vpv1 cs_X8_88 dX8_day_77 (bec hb isB_13 (by omega) hv9) (by first | exact er0 | exact ep0 hb | exact ep1 hb | exact ep3 hb | exact ep5 hb | exact ep7 hb | exact er25 | exact er34 | exact er181 | exact er182 | exact er196 | exact er199 | exact er156 | exact ep0 isB_13 | exact ep1 isB_13 | exact ep3 isB_13 | exact ep5 isB_13 | exact ep7 isB_13 | exact er26 | exact er27 | exact er28 | exact ep9 hb | exact ep10 hb | exact ep0 (isB_shelf _ (by omega))) rfl (Nat.le_of_ble_eq_true rfl) (by decide) ?_
        rintro y4 ⟨m4, v4⟩
        refine eg_al_n dX8_day_80 rfl rfl ?_
        refine eg_get fl_X8_22 dX8_day_81 (by first | exact er0 | exact ep0 hb | exact ep1 hb | exact ep3 hb | exact ep5 hb | exact ep7 hb | exact er25 | exact er34 | exact er181 | exact er182 | exact er196 | exact er199 | exact er156 | exact ep0 isB_13 | exact ep1 isB_13 | exact ep3 isB_13 | exact ep5 isB_13 | exact ep7 isB_13 | exact er26 | exact er27 | exact er28 | exact ep9 hb | exact ep10 hb | exact ep0 (isB_shelf _ (by omega))) rfl ?_
        refine eg_Vf0 cs_X8_183 dX8_day_84 (c_X4_inAll (p := SS s.1 10) (m3 := (s.1 3).toNat) (by omega) (by rw [m4 25 (by omega), m3 25 (by omega), s2.1]; omega) (fun q9 g0 g1 => by rw [m4 26 (by omega), m3 26 (by omega)]; exact s2.2 q9 g0 (by omega))) (by first | exact er0 | exact ep0 hb | exact ep1 hb | exact ep3 hb | exact ep5 hb | exact ep7 hb | exact er25 | exact er34 | exact er181 | exact er182 | exact er196 | exact er199 | exact er156 | exact ep0 isB_13 | exact ep1 isB_13 | exact ep3 isB_13 | exact ep5 isB_13 | exact ep7 isB_13 | exact er26 | exact er27 | exact er28 | exact ep9 hb | exact ep10 hb | exact ep0 (isB_shelf _ (by omega))) rfl (Nat.le_of_ble_eq_true rfl) (by decide) ?_
        refine eg_ireturn dX8_day_87 rfl rfl ?_
        rw [show R_day s = (sm (SS s.1 10) (s.1 3).toNat, puS s (logV (dayA s.1 (SS s.1 10)))) from by unfold R_day; rw [if_pos (by omega), if_neg (by omega), if_pos h52]]
        have ip := i2.push m3 g3 m4 v4
        exact ⟨rfl, rfl, y4, rfl, fun c hc => (ip.1 c hc).trans (f2.fc c hc), ip.2⟩
      · refine eg_bipush dX8_day_55 (by decide) ?_
        refine eg_ireturn dX8_day_57 rfl rfl ?_
        rw [show R_day s = (-3, s) from by unfold R_day; rw [if_pos (by omega), if_neg (by omega), if_neg h52]]
        exact ⟨rfl, rfl, y2, rfl, f2.fc, i2⟩
    · refine eg_bipush dX8_day_25 (by decide) ?_
      refine eg_ireturn dX8_day_27 rfl rfl ?_
      rw [show R_day s = (-2, s) from by unfold R_day; (repeat (first | rw [if_pos (by first | assumption | omega)] | rw [if_neg (by first | assumption | omega)]))]
      exact ⟨rfl, rfl, z, rfl, FC.rf, hI⟩
  · refine eg_iconst dX8_day_10 ?_
    refine eg_ireturn dX8_day_11 rfl rfl ?_
    rw [show R_day s = (-1, s) from by unfold R_day; (repeat (first | rw [if_pos (by first | assumption | omega)] | rw [if_neg (by first | assumption | omega)]))]
    exact ⟨rfl, rfl, z, rfl, FC.rf, hI⟩
/-- the state after days -/
def itD (v : eg_v) : Nat → eg_v
  | 0 => v
  | m + 1 => dayA (itD v m) (SS (itD v m) 10)
theorem itD_p {v : eg_v} (h : okV v) : ∀ m : Nat, m ≤ 100 → VV (999999 + 640000 * m) (itD v m) ∧ PK (itD v m) ∧ itD v m 4 = v 4 + m ∧ itD v m 2 = v 2
  | 0, _ => ⟨by show VV (999999 + 640000 * ((0 : Nat) : Int)) v; rw [show 999999 + 640000 * ((0 : Nat) : Int) = 999999 by omega]; exact h.1, h.2.1, by show v 4 = _; omega, rfl⟩
  | m + 1, hm => by
    obtain ⟨a, b, c, d⟩ := itD_p h m (by omega)
    have h4 := h.2.2
    have p := okpS a b
    refine ⟨?_, PK_day a b, ?_, ?_⟩
    · rw [show 999999 + 640000 * ((m + 1 : Nat) : Int) = 999999 + 640000 * (m : Int) + 640000 by omega]
      exact VV_dayA a p (by omega)
    · show dayA (itD v m) _ 4 = _
      rw [dayA_4, c]; omega
    · show dayA (itD v m) _ 2 = _
      rw [dayA_i a p (by omega), d]
theorem itD_s {v : eg_v} {i : Int} (h : 0 ≤ i) : itD v (i + 1).toNat = dayA (itD v i.toNat) (SS (itD v i.toNat) 10) := by
  rw [show (i + 1).toNat = i.toNat + 1 by omega]; rfl
def A_ahead (v : eg_v) (a n : Int) : Int := if (0 ≤ a ∧ a < v 2) ∧ (0 ≤ n ∧ n ≤ 99) then gH (itD v n.toNat) a 4 else -2000000000
def fsD (v : eg_v) (a : Int) : Nat → Int → Int
  | 0, _ => -2
  | m + 1, i => if sOver (itD v i.toNat) a = 0 then fsD v a m (i + 1) else i
def A_first (v : eg_v) (a : Int) : Int := if 0 ≤ a ∧ a < v 2 then fsD v a 100 0 else -1
theorem bi_01 {b : Bool} : bi (b = true) = 1 ∨ (bi (b = true) = 0 ∧ b = false) 
  := match b with
  | false => Or.inr ⟨rfl, rfl⟩
  | true => Or.inl rfl
theorem p_ahead {k : eg_K} {z : eg_Z} {X : eg_M} {n : Nat} {s : eg_S} (hI : IC z s) {a b : Int} (r_a : iR a) (r_b : iR b) : eg_P k gX8_ahead 6 0 0 [vR k 0, vI a, vI b] n (enc k z X) (eg_p k (some (vL (A_ahead s.1 a b))) n X (fun z' => FC z z' ∧ IC z' s)) := by
  refine eg_P.of (by decide) (Nat.le_of_ble_eq_true rfl) ?_
  show eg_E k gX8_ahead 6 0 0 n (enc k z X) [vR k 0, vI a, vI b, vU, vU] [] 0 _
  obtain ⟨hV1, hHi, ⟨hkb, hsh⟩, hT, hTl, hTb⟩ := id hI
  have hb := isB_1
  have hp := hV1.1
  have hv := hV1.2.2.1
  have q := hv.r.2
  obtain ⟨⟨z0, z1, z2, z3⟩, ⟨c1, c3, c5, c7⟩, -⟩ := id hp
  have r_a1 := r_a.1; have r_a2 := r_a.2
  have r_b1 := r_b.1; have r_b2 := r_b.2
  have L : (0 ≤ a ∧ a < s.1 2) ∧ 0 ≤ b ∧ b ≤ 99 → ∀ (m : Nat) (i w : Int) (y : eg_Z), 0 ≤ i → i ≤ b → Fr z y → hP y 13 (itD s.1 i.toNat) → (w = 1 ∨ (w = 0 ∧ SH (itD s.1 i.toNat) y)) → b - i < (m : Int) → eg_E k gX8_ahead 6 0 0 n (enc k y X) [vR k 0, vI a, vI b, vI w, vI i] [] 44 (eg_p k (some (vL (A_ahead s.1 a b))) n X (fun z' => FC z z' ∧ IC z' s)) := by
    intro hc m
    induction m with
    | zero => intro i w y h0 h1 hF hP hw hm; exfalso; omega
    | succ m ih =>
      intro i w y h0 h1 hF hPy hw hm
      have ip := itD_p hV1.2.2 i.toNat (by omega)
      have w9 : -2147483648 ≤ w ∧ w ≤ 2147483647 := by rcases hw with hw | hw <;> omega
      refine eg_iload dX8_ahead_44 rfl ?_
      refine eg_iload_n dX8_ahead_46 rfl ?_
      refine eg_icmp_ge 62 dX8_ahead_47 ⟨by omega, by omega⟩ ⟨by omega, by omega⟩ rfl (fun h47 => ?_) (fun h47 => ?_)
      · refine eg_al_n dX8_ahead_62 rfl rfl ?_
        refine eg_get fl_X8_16 dX8_ahead_63 (by first | exact er0 | exact ep0 hb | exact ep1 hb | exact ep3 hb | exact ep5 hb | exact ep7 hb | exact er25 | exact er34 | exact er181 | exact er182 | exact er196 | exact er199 | exact er156 | exact ep0 isB_13 | exact ep1 isB_13 | exact ep3 isB_13 | exact ep5 isB_13 | exact ep7 isB_13 | exact er26 | exact er27 | exact er28 | exact ep9 hb | exact ep10 hb | exact ep0 (isB_shelf _ (by omega))) rfl ?_
        refine eg_get fl_X8_146 dX8_ahead_66 (by first | exact er0 | exact ep0 hb | exact ep1 hb | exact ep3 hb | exact ep5 hb | exact ep7 hb | exact er25 | exact er34 | exact er181 | exact er182 | exact er196 | exact er199 | exact er156 | exact ep0 isB_13 | exact ep1 isB_13 | exact ep3 isB_13 | exact ep5 isB_13 | exact ep7 isB_13 | exact er26 | exact er27 | exact er28 | exact ep9 hb | exact ep10 hb | exact ep0 (isB_shelf _ (by omega))) rfl ?_
        refine eg_iload_n dX8_ahead_69 rfl ?_
        refine eg_iconst dX8_ahead_70 ?_
        refine eg_Vf2 cs_X8_125 dX8_ahead_71 (sh_at isB_13 hPy ip.1 (by omega) (by rw [ip.2.2.2]; omega) (by omega) (by omega)) (by first | exact er0 | exact ep0 hb | exact ep1 hb | exact ep3 hb | exact ep5 hb | exact ep7 hb | exact er25 | exact er34 | exact er181 | exact er182 | exact er196 | exact er199 | exact er156 | exact ep0 isB_13 | exact ep1 isB_13 | exact ep3 isB_13 | exact ep5 isB_13 | exact ep7 isB_13 | exact er26 | exact er27 | exact er28 | exact ep9 hb | exact ep10 hb | exact ep0 (isB_shelf _ (by omega))) rfl (Nat.le_of_ble_eq_true rfl) (by decide) ?_
        have o9 := ip.1.H (s := a) (by omega) (by rw [ip.2.2.2]; omega); unfold okH at o9
        refine eg_i2l dX8_ahead_74 ⟨by omega, by omega⟩ ?_
        refine eg_lreturn dX8_ahead_75 rfl ?_
        refine ⟨congrArg (fun q => some (vL q)) ?_, rfl, y, rfl, (hF).fc, (hF).ic hI⟩
        unfold A_ahead; rw [if_pos hc, show b = i by omega]
      · refine eg_al_n dX8_ahead_50 rfl rfl ?_
        refine eg_iload_n dX8_ahead_51 rfl ?_
        refine eg_Vpf1 cs_X8_176 dX8_ahead_52 (c_ptd hPy ip.1 ip.2.1 (by omega) hw) (by first | exact er0 | exact ep0 hb | exact ep1 hb | exact ep3 hb | exact ep5 hb | exact ep7 hb | exact er25 | exact er34 | exact er181 | exact er182 | exact er196 | exact er199 | exact er156 | exact ep0 isB_13 | exact ep1 isB_13 | exact ep3 isB_13 | exact ep5 isB_13 | exact ep7 isB_13 | exact er26 | exact er27 | exact er28 | exact ep9 hb | exact ep10 hb | exact ep0 (isB_shelf _ (by omega))) rfl (Nat.le_of_ble_eq_true rfl) (by decide) ?_
        rintro y1 ⟨m1, p1, s1, l1⟩
        refine eg_istore_n dX8_ahead_55 rfl rfl rfl ?_
        refine eg_iinc dX8_ahead_56 rfl rfl rfl ?_
        refine eg_goto 44 dX8_ahead_59 rfl ?_
        refine ih (i + 1) _ y1 (by omega) (by omega) (hF.tr m1) (by rw [itD_s h0]; exact p1) ?_ (by omega)
        rcases bi_01 (b := chF (itD s.1 i.toNat) (SS (itD s.1 i.toNat) 10) (itD s.1 i.toNat 3).toNat) with hh | hh
        · exact Or.inl hh
        · refine Or.inr ⟨hh.1, ?_⟩
          rw [itD_s h0]
          exact SH_d ip.1 ip.2.1 s1 hh.2
  refine eg_al_n dX8_ahead_0 rfl rfl ?_
  refine eg_get fl_X8_12 dX8_ahead_1 (by first | exact er0 | exact ep0 hb | exact ep1 hb | exact ep3 hb | exact ep5 hb | exact ep7 hb | exact er25 | exact er34 | exact er181 | exact er182 | exact er196 | exact er199 | exact er156 | exact ep0 isB_13 | exact ep1 isB_13 | exact ep3 isB_13 | exact ep5 isB_13 | exact ep7 isB_13 | exact er26 | exact er27 | exact er28 | exact ep9 hb | exact ep10 hb | exact ep0 (isB_shelf _ (by omega))) rfl ?_
  refine eg_get fl_X8_146 dX8_ahead_4 (by first | exact er0 | exact ep0 hb | exact ep1 hb | exact ep3 hb | exact ep5 hb | exact ep7 hb | exact er25 | exact er34 | exact er181 | exact er182 | exact er196 | exact er199 | exact er156 | exact ep0 isB_13 | exact ep1 isB_13 | exact ep3 isB_13 | exact ep5 isB_13 | exact ep7 isB_13 | exact er26 | exact er27 | exact er28 | exact ep9 hb | exact ep10 hb | exact ep0 (isB_shelf _ (by omega))) rfl ?_
  refine eg_iload_n dX8_ahead_7 rfl ?_
  refine eg_Vf1 cs_X8_121 dX8_ahead_8 (sh_has hb hp hv r_a) (by first | exact er0 | exact ep0 hb | exact ep1 hb | exact ep3 hb | exact ep5 hb | exact ep7 hb | exact er25 | exact er34 | exact er181 | exact er182 | exact er196 | exact er199 | exact er156 | exact ep0 isB_13 | exact ep1 isB_13 | exact ep3 isB_13 | exact ep5 isB_13 | exact ep7 isB_13 | exact er26 | exact er27 | exact er28 | exact ep9 hb | exact ep10 hb | exact ep0 (isB_shelf _ (by omega))) rfl (Nat.le_of_ble_eq_true rfl) (by decide) ?_
  refine eg_bi_eq 24 dX8_ahead_11 rfl (fun h11 => ?_) (fun h11 => ?_)
  · refine eg_ldc2 kw_X8_214 dX8_ahead_24 ?_
    refine eg_lreturn dX8_ahead_27 rfl ?_
    refine ⟨congrArg (fun q => some (vL q)) ?_, rfl, z, rfl, (Fr.rf).fc, (Fr.rf).ic hI⟩
    unfold A_ahead; (repeat (first | rw [if_pos (by first | assumption | omega)] | rw [if_neg (by first | assumption | omega)]))
  · refine eg_iload_n dX8_ahead_14 rfl ?_
    refine eg_iconst dX8_ahead_15 ?_
    refine eg_bipush dX8_ahead_16 (by decide) ?_
    refine eg_Sf3 cs_X8_79 dX8_ahead_18 (c_X8_within ⟨by omega, by omega⟩ ⟨by omega, by omega⟩ ⟨by omega, by omega⟩) (Nat.le_of_ble_eq_true rfl) (by decide) ?_
    refine eg_bi_ne 28 dX8_ahead_21 rfl (fun h21 => ?_) (fun h21 => ?_)
    · refine eg_al_n dX8_ahead_28 rfl rfl ?_
      refine eg_get fl_X8_16 dX8_ahead_29 (by first | exact er0 | exact ep0 hb | exact ep1 hb | exact ep3 hb | exact ep5 hb | exact ep7 hb | exact er25 | exact er34 | exact er181 | exact er182 | exact er196 | exact er199 | exact er156 | exact ep0 isB_13 | exact ep1 isB_13 | exact ep3 isB_13 | exact ep5 isB_13 | exact ep7 isB_13 | exact er26 | exact er27 | exact er28 | exact ep9 hb | exact ep10 hb | exact ep0 (isB_shelf _ (by omega))) rfl ?_
      refine eg_al_n dX8_ahead_32 rfl rfl ?_
      refine eg_get fl_X8_12 dX8_ahead_33 (by first | exact er0 | exact ep0 hb | exact ep1 hb | exact ep3 hb | exact ep5 hb | exact ep7 hb | exact er25 | exact er34 | exact er181 | exact er182 | exact er196 | exact er199 | exact er156 | exact ep0 isB_13 | exact ep1 isB_13 | exact ep3 isB_13 | exact ep5 isB_13 | exact ep7 isB_13 | exact er26 | exact er27 | exact er28 | exact ep9 hb | exact ep10 hb | exact ep0 (isB_shelf _ (by omega))) rfl ?_
      refine eg_Vpv1 cs_X8_88 dX8_ahead_36 (bec isB_13 hb (by omega) hV1) (by first | exact er0 | exact ep0 hb | exact ep1 hb | exact ep3 hb | exact ep5 hb | exact ep7 hb | exact er25 | exact er34 | exact er181 | exact er182 | exact er196 | exact er199 | exact er156 | exact ep0 isB_13 | exact ep1 isB_13 | exact ep3 isB_13 | exact ep5 isB_13 | exact ep7 isB_13 | exact er26 | exact er27 | exact er28 | exact ep9 hb | exact ep10 hb | exact ep0 (isB_shelf _ (by omega))) rfl (Nat.le_of_ble_eq_true rfl) (by decide) ?_
      rintro y1 ⟨m1, v1⟩
      refine eg_iconst dX8_ahead_39 ?_
      refine eg_istore_n dX8_ahead_40 rfl rfl rfl ?_
      refine eg_iconst dX8_ahead_41 ?_
      refine eg_istore dX8_ahead_42 rfl rfl rfl ?_
      exact L (by omega) 101 0 1 y1 (by omega) (by omega) (Fr.t m1) v1.1 (Or.inl rfl) (by omega)
    · refine eg_ldc2 kw_X8_214 dX8_ahead_24 ?_
      refine eg_lreturn dX8_ahead_27 rfl ?_
      refine ⟨congrArg (fun q => some (vL q)) ?_, rfl, z, rfl, (Fr.rf).fc, (Fr.rf).ic hI⟩
      unfold A_ahead; (repeat (first | rw [if_pos (by first | assumption | omega)] | rw [if_neg (by first | assumption | omega)]))
theorem p_first {k : eg_K} {z : eg_Z} {X : eg_M} {n : Nat} {s : eg_S} (hI : IC z s) {a : Int} (r_a : iR a) : eg_P k gX8_first 6 0 0 [vR k 0, vI a] n (enc k z X) (eg_p k (some (vI (A_first s.1 a))) n X (fun z' => FC z z' ∧ IC z' s)) := by
  refine eg_P.of (by decide) (Nat.le_of_ble_eq_true rfl) ?_
  show eg_E k gX8_first 6 0 0 n (enc k z X) [vR k 0, vI a, vU, vU] [] 0 _
  obtain ⟨hV1, hHi, ⟨hkb, hsh⟩, hT, hTl, hTb⟩ := id hI
  have hb := isB_1
  have hp := hV1.1
  have hv := hV1.2.2.1
  have q := hv.r.2
  obtain ⟨⟨z0, z1, z2, z3⟩, ⟨c1, c3, c5, c7⟩, -⟩ := id hp
  have r_a1 := r_a.1; have r_a2 := r_a.2
  have L : (0 ≤ a ∧ a < s.1 2) → ∀ (m : Nat) (i w : Int) (y : eg_Z), 0 ≤ i → i ≤ 100 → Fr z y → hP y 13 (itD s.1 i.toNat) → (w = 1 ∨ (w = 0 ∧ SH (itD s.1 i.toNat) y)) → fsD s.1 a (100 - i).toNat i = fsD s.1 a 100 0 → 100 - i < (m : Int) → eg_E k gX8_first 6 0 0 n (enc k y X) [vR k 0, vI a, vI w, vI i] [] 31 (eg_p k (some (vI (A_first s.1 a))) n X (fun z' => FC z z' ∧ IC z' s)) := by
    intro hc m
    induction m with
    | zero => intro i w y h0 h1 hF hP hw hi hm; exfalso; omega
    | succ m ih =>
      intro i w y h0 h1 hF hPy hw hi hm
      have ip := itD_p hV1.2.2 i.toNat (by omega)
      have w9 : -2147483648 ≤ w ∧ w ≤ 2147483647 := by rcases hw with hw | hw <;> omega
      refine eg_iload_n dX8_first_31 rfl ?_
      refine eg_bipush dX8_first_32 (by decide) ?_
      refine eg_icmp_gt 62 dX8_first_34 ⟨by omega, by omega⟩ ⟨by omega, by omega⟩ rfl (fun h34 => ?_) (fun h34 => ?_)
      · refine eg_bipush dX8_first_62 (by decide) ?_
        refine eg_ireturn dX8_first_64 rfl rfl ?_
        refine ⟨congrArg (fun q => some (vI q)) ?_, rfl, y, rfl, (hF).fc, (hF).ic hI⟩
        unfold A_first; rw [if_pos hc, ← hi, show (100 - i).toNat = 0 by omega]; rfl
      · refine eg_al_n dX8_first_37 rfl rfl ?_
        refine eg_get fl_X8_16 dX8_first_38 (by first | exact er0 | exact ep0 hb | exact ep1 hb | exact ep3 hb | exact ep5 hb | exact ep7 hb | exact er25 | exact er34 | exact er181 | exact er182 | exact er196 | exact er199 | exact er156 | exact ep0 isB_13 | exact ep1 isB_13 | exact ep3 isB_13 | exact ep5 isB_13 | exact ep7 isB_13 | exact er26 | exact er27 | exact er28 | exact ep9 hb | exact ep10 hb | exact ep0 (isB_shelf _ (by omega))) rfl ?_
        refine eg_iload_n dX8_first_41 rfl ?_
        refine eg_Vf1 cs_X8_248 dX8_first_42 (c_over isB_13 hPy ip.1 (by omega) (by omega) (by rw [ip.2.2.2]; omega)) (by first | exact er0 | exact ep0 hb | exact ep1 hb | exact ep3 hb | exact ep5 hb | exact ep7 hb | exact er25 | exact er34 | exact er181 | exact er182 | exact er196 | exact er199 | exact er156 | exact ep0 isB_13 | exact ep1 isB_13 | exact ep3 isB_13 | exact ep5 isB_13 | exact ep7 isB_13 | exact er26 | exact er27 | exact er28 | exact ep9 hb | exact ep10 hb | exact ep0 (isB_shelf _ (by omega))) rfl (Nat.le_of_ble_eq_true rfl) (by decide) ?_
        have o9 := sOver_b ip.1 (s := a) (by omega) (by rw [ip.2.2.2]; omega)
        refine eg_if_eq 50 dX8_first_45 ⟨by omega, by omega⟩ rfl (fun h45 => ?_) (fun h45 => ?_)
        · refine eg_al_n dX8_first_50 rfl rfl ?_
          refine eg_iload_n dX8_first_51 rfl ?_
          refine eg_Vpf1 cs_X8_176 dX8_first_52 (c_ptd hPy ip.1 ip.2.1 (by omega) hw) (by first | exact er0 | exact ep0 hb | exact ep1 hb | exact ep3 hb | exact ep5 hb | exact ep7 hb | exact er25 | exact er34 | exact er181 | exact er182 | exact er196 | exact er199 | exact er156 | exact ep0 isB_13 | exact ep1 isB_13 | exact ep3 isB_13 | exact ep5 isB_13 | exact ep7 isB_13 | exact er26 | exact er27 | exact er28 | exact ep9 hb | exact ep10 hb | exact ep0 (isB_shelf _ (by omega))) rfl (Nat.le_of_ble_eq_true rfl) (by decide) ?_
          rintro y1 ⟨m1, p1, s1, l1⟩
          refine eg_istore_n dX8_first_55 rfl rfl rfl ?_
          refine eg_iinc dX8_first_56 rfl rfl rfl ?_
          refine eg_goto 31 dX8_first_59 rfl ?_
          refine ih (i + 1) _ y1 (by omega) (by omega) (hF.tr m1) (by rw [itD_s h0]; exact p1) ?_ (by rw [← hi, show (100 - i).toNat = (100 - (i + 1)).toNat + 1 by omega]; show _ = (if sOver (itD s.1 i.toNat) a = 0 then fsD s.1 a (100 - (i + 1)).toNat (i + 1) else i); rw [if_pos (by omega)]) (by omega)
          rcases bi_01 (b := chF (itD s.1 i.toNat) (SS (itD s.1 i.toNat) 10) (itD s.1 i.toNat 3).toNat) with hh | hh
          · exact Or.inl hh
          · refine Or.inr ⟨hh.1, ?_⟩
            rw [itD_s h0]
            exact SH_d ip.1 ip.2.1 s1 hh.2
        · refine eg_iload_n dX8_first_48 rfl ?_
          refine eg_ireturn dX8_first_49 rfl rfl ?_
          refine ⟨congrArg (fun q => some (vI q)) ?_, rfl, y, rfl, (hF).fc, (hF).ic hI⟩
          unfold A_first; rw [if_pos hc, ← hi, show (100 - i).toNat = (100 - (i + 1)).toNat + 1 by omega]; show i = (if sOver (itD s.1 i.toNat) a = 0 then _ else i); rw [if_neg (by omega)]
  refine eg_al_n dX8_first_0 rfl rfl ?_
  refine eg_get fl_X8_12 dX8_first_1 (by first | exact er0 | exact ep0 hb | exact ep1 hb | exact ep3 hb | exact ep5 hb | exact ep7 hb | exact er25 | exact er34 | exact er181 | exact er182 | exact er196 | exact er199 | exact er156 | exact ep0 isB_13 | exact ep1 isB_13 | exact ep3 isB_13 | exact ep5 isB_13 | exact ep7 isB_13 | exact er26 | exact er27 | exact er28 | exact ep9 hb | exact ep10 hb | exact ep0 (isB_shelf _ (by omega))) rfl ?_
  refine eg_get fl_X8_146 dX8_first_4 (by first | exact er0 | exact ep0 hb | exact ep1 hb | exact ep3 hb | exact ep5 hb | exact ep7 hb | exact er25 | exact er34 | exact er181 | exact er182 | exact er196 | exact er199 | exact er156 | exact ep0 isB_13 | exact ep1 isB_13 | exact ep3 isB_13 | exact ep5 isB_13 | exact ep7 isB_13 | exact er26 | exact er27 | exact er28 | exact ep9 hb | exact ep10 hb | exact ep0 (isB_shelf _ (by omega))) rfl ?_
  refine eg_iload_n dX8_first_7 rfl ?_
  refine eg_Vf1 cs_X8_121 dX8_first_8 (sh_has hb hp hv r_a) (by first | exact er0 | exact ep0 hb | exact ep1 hb | exact ep3 hb | exact ep5 hb | exact ep7 hb | exact er25 | exact er34 | exact er181 | exact er182 | exact er196 | exact er199 | exact er156 | exact ep0 isB_13 | exact ep1 isB_13 | exact ep3 isB_13 | exact ep5 isB_13 | exact ep7 isB_13 | exact er26 | exact er27 | exact er28 | exact ep9 hb | exact ep10 hb | exact ep0 (isB_shelf _ (by omega))) rfl (Nat.le_of_ble_eq_true rfl) (by decide) ?_
  refine eg_bi_ne 16 dX8_first_11 rfl (fun h11 => ?_) (fun h11 => ?_)
  · refine eg_al_n dX8_first_16 rfl rfl ?_
    refine eg_get fl_X8_16 dX8_first_17 (by first | exact er0 | exact ep0 hb | exact ep1 hb | exact ep3 hb | exact ep5 hb | exact ep7 hb | exact er25 | exact er34 | exact er181 | exact er182 | exact er196 | exact er199 | exact er156 | exact ep0 isB_13 | exact ep1 isB_13 | exact ep3 isB_13 | exact ep5 isB_13 | exact ep7 isB_13 | exact er26 | exact er27 | exact er28 | exact ep9 hb | exact ep10 hb | exact ep0 (isB_shelf _ (by omega))) rfl ?_
    refine eg_al_n dX8_first_20 rfl rfl ?_
    refine eg_get fl_X8_12 dX8_first_21 (by first | exact er0 | exact ep0 hb | exact ep1 hb | exact ep3 hb | exact ep5 hb | exact ep7 hb | exact er25 | exact er34 | exact er181 | exact er182 | exact er196 | exact er199 | exact er156 | exact ep0 isB_13 | exact ep1 isB_13 | exact ep3 isB_13 | exact ep5 isB_13 | exact ep7 isB_13 | exact er26 | exact er27 | exact er28 | exact ep9 hb | exact ep10 hb | exact ep0 (isB_shelf _ (by omega))) rfl ?_
    refine eg_Vpv1 cs_X8_88 dX8_first_24 (bec isB_13 hb (by omega) hV1) (by first | exact er0 | exact ep0 hb | exact ep1 hb | exact ep3 hb | exact ep5 hb | exact ep7 hb | exact er25 | exact er34 | exact er181 | exact er182 | exact er196 | exact er199 | exact er156 | exact ep0 isB_13 | exact ep1 isB_13 | exact ep3 isB_13 | exact ep5 isB_13 | exact ep7 isB_13 | exact er26 | exact er27 | exact er28 | exact ep9 hb | exact ep10 hb | exact ep0 (isB_shelf _ (by omega))) rfl (Nat.le_of_ble_eq_true rfl) (by decide) ?_
    rintro y1 ⟨m1, v1⟩
    refine eg_iconst dX8_first_27 ?_
    refine eg_istore_n dX8_first_28 rfl rfl rfl ?_
    refine eg_iconst dX8_first_29 ?_
    refine eg_istore_n dX8_first_30 rfl rfl rfl ?_
    exact L (by omega) 101 0 1 y1 (by omega) (by omega) (Fr.t m1) v1.1 (Or.inl rfl) rfl (by omega)
  · refine eg_iconst dX8_first_14 ?_
    refine eg_ireturn dX8_first_15 rfl rfl ?_
    refine ⟨congrArg (fun q => some (vI q)) ?_, rfl, z, rfl, (Fr.rf).fc, (Fr.rf).ic hI⟩
    unfold A_first; (repeat (first | rw [if_pos (by first | assumption | omega)] | rw [if_neg (by first | assumption | omega)]))
