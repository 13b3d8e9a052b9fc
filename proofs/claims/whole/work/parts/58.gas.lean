theorem lst {P : Nat → Prop} : ∀ n : Nat, (∃ x, x ≤ n ∧ P x) → ∃ r, r ≤ n ∧ P r ∧ ∀ y, y < r → ¬ P y
  | 0, ⟨x, hx, hp⟩ => ⟨0, Nat.le_refl _, by rw [show (0 : Nat) = x by omega]; exact hp, fun y hy => absurd hy (Nat.not_lt_zero y)⟩
  | n + 1, ⟨x, hx, hp⟩ => by
    by_cases h : ∃ x, x ≤ n ∧ P x
    · obtain ⟨r, a, b, c⟩ := lst n h
      exact ⟨r, by omega, b, c⟩
    · refine ⟨x, hx, hp, fun y hy hy' => h ⟨y, by omega, hy'⟩⟩
theorem need_ex (v : eg_v) (h o m : Int) : ∃ r, needR v h o m r := by
  by_cases e : ∃ x : Nat, x ≤ 99999 ∧ m ≤ sLeft v h o x
  · obtain ⟨r, a, b, c⟩ := lst 99999 e
    refine ⟨r, Or.inr ⟨by omega, by omega, b, fun x h0 h1 => ?_⟩⟩
    have := c x.toNat (by omega)
    rw [show ((x.toNat : Nat) : Int) = x by omega] at this
    omega
  · refine ⟨-2, Or.inl ⟨rfl, fun x h0 h1 => ?_⟩⟩
    have : ¬ m ≤ sLeft v h o x := fun hh => e ⟨x.toNat, by omega, by rw [show ((x.toNat : Nat) : Int) = x by omega]; exact hh⟩
    omega
theorem sNeed_b (v : eg_v) (h o m : Int) : sNeed v h o m = -2 ∨ (0 ≤ sNeed v h o m ∧ sNeed v h o m ≤ 99999) := by
  obtain ⟨r, hr⟩ := need_ex v h o m
  rw [sNeed_e hr]
  rcases hr with hr | hr
  · exact Or.inl hr.1
  · exact Or.inr ⟨hr.1, hr.2.1⟩
/-- the nearest point so far, and what it needs -/
noncomputable def nrF (v : eg_v) (h m : Int) : Nat → Int × Int
  | 0 => (-2, -2)
  | i + 1 => if gP v i 1 = 1 ∧ 0 ≤ sNeed v (gP v i 0) h m ∧ ((nrF v h m i).1 < 0 ∨ sNeed v (gP v i 0) h m < (nrF v h m i).2) then ((i : Int), sNeed v (gP v i 0) h m) else nrF v h m i
theorem nrF_s {v : eg_v} {h m i : Int} (h0 : 0 ≤ i) : nrF v h m (i + 1).toNat = if gP v i 1 = 1 ∧ 0 ≤ sNeed v (gP v i 0) h m ∧ ((nrF v h m i.toNat).1 < 0 ∨ sNeed v (gP v i 0) h m < (nrF v h m i.toNat).2) then (i, sNeed v (gP v i 0) h m) else nrF v h m i.toNat := by
  obtain ⟨j, rfl⟩ : ∃ j : Nat, i = j := ⟨i.toNat, by omega⟩
  rw [show ((j : Int) + 1).toNat = j + 1 by omega, show (j : Int).toNat = j by omega]
  rfl
theorem nrF_b {v : eg_v} {h m : Int} : ∀ i : Nat, ((nrF v h m i).1 = -2 ∧ (nrF v h m i).2 = -2) ∨ ((0 ≤ (nrF v h m i).1 ∧ (nrF v h m i).1 < i) ∧ 0 ≤ (nrF v h m i).2 ∧ (nrF v h m i).2 ≤ 99999)
  | 0 => Or.inl ⟨rfl, rfl⟩
  | i + 1 => by
    have ih := nrF_b (v := v) (h := h) (m := m) i
    have nb := sNeed_b v (gP v i 0) h m
    unfold nrF
    split
    · rename_i hh
      refine Or.inr ⟨⟨by show 0 ≤ (i : Int); omega, by show (i : Int) < ((i + 1 : Nat) : Int); omega⟩, hh.2.1, ?_⟩
      show sNeed v (gP v i 0) h m ≤ 99999
      have := hh.2.1
      omega
    · rcases ih with ih | ih
      · exact Or.inl ih
      · exact Or.inr ⟨⟨ih.1.1, by omega⟩, ih.2⟩
noncomputable def A_nearest (v : eg_v) (t m w : Int) : Int := if (0 ≤ t ∧ t < v 1 ∧ gP v t 1 = 0) ∧ (0 ≤ m ∧ m ≤ 9999) ∧ (0 ≤ w ∧ w ≤ 1) then (if w = 0 then (nrF v (gP v t 0) m (v 1).toNat).1 else (nrF v (gP v t 0) m (v 1).toNat).2) else -1
theorem sm_lt {f g : Int → Int} {j : Int} (h0 : 0 ≤ j) (hj : f j < g j) : ∀ {n : Nat}, (∀ i : Int, 0 ≤ i → i < n → f i ≤ g i) → j < n → sm f n < sm g n
  | 0, _, h1 => by omega
  | n + 1, h, h1 => by
    show sm f n + f n < sm g n + g n
    by_cases e : j = n
    · subst e
      have := sm_le (f := f) (g := g) (n := n) (fun i a b => h i a (by omega))
      omega
    · have := sm_lt h0 hj (n := n) (fun i a b => h i a (by omega)) (by omega)
      have := h n (by omega) (by omega)
      omega
theorem sm_1 {f g : Int → Int} {j : Int} (h0 : 0 ≤ j) (hj : g j = f j + 1) : ∀ {n : Nat}, (∀ i : Int, 0 ≤ i → i < n → i ≠ j → g i = f i) → j < n → sm g n = sm f n + 1
  | 0, _, h1 => by omega
  | n + 1, h, h1 => by
    show sm g n + g n = sm f n + f n + 1
    by_cases e : j = n
    · subst e
      rw [sm_c (f := g) (g := f) (n := n) (fun i a b => h i a (by omega) (by omega))]
      omega
    · rw [sm_1 h0 hj (n := n) (fun i a b c => h i a (by omega) c) (by omega), h n (by omega) (by omega) (by omega)]
      omega
/-- how many come before -/
def rkF (v : eg_v) (r i o : Int) : Int := if gH v o 1 < r ∨ (gH v o 1 = r ∧ o < i) then 1 else 0
def rkP (v : eg_v) (r i : Int) : Int := sm (rkF v r i) (v 2).toNat
def odN (v : eg_v) (k : Int) : Nat → Int → Int
  | 0, _ => -1
  | m + 1, s => if rkP v (gH v s 1) s = k then s else odN v k m (s + 1)
def A_order (v : eg_v) (k : Int) : Int := odN v k (v 2).toNat 0
theorem rk_lt {v : eg_v} {i j : Int} (hi : 0 ≤ i ∧ i < v 2) (h : gH v i 1 < gH v j 1 ∨ (gH v i 1 = gH v j 1 ∧ i < j)) : rkP v (gH v i 1) i < rkP v (gH v j 1) j := by
  unfold rkP
  refine sm_lt hi.1 ?_ (fun o _ _ => ?_) (by omega)
  · unfold rkF
    rw [if_neg (by omega), if_pos h]
    decide
  · unfold rkF
    split <;> split <;> omega
theorem odN_e {v : eg_v} {k i : Int} (hi : 0 ≤ i ∧ i < v 2) (hk : rkP v (gH v i 1) i = k) : ∀ (m : Nat) (s : Int), 0 ≤ s → s ≤ i → i < s + m → odN v k m s = i
  | 0, s, _, _, _ => by omega
  | m + 1, s, h0, h1, h2 => by
    show (if rkP v (gH v s 1) s = k then s else odN v k m (s + 1)) = i
    by_cases e : s = i
    · subst e; rw [if_pos hk]
    · rw [if_neg ?_]
      · exact odN_e hi hk m (s + 1) (by omega) (by omega) (by omega)
      · intro hh
        by_cases a : gH v s 1 < gH v i 1 ∨ (gH v s 1 = gH v i 1 ∧ s < i)
        · have := rk_lt (v := v) (i := s) (j := i) (by omega) a; omega
        · have := rk_lt (v := v) (i := i) (j := s) hi (by omega); omega
theorem odN_n {v : eg_v} {k : Int} : ∀ (m : Nat) (s : Int), (∀ i : Int, s ≤ i → i < s + m → rkP v (gH v i 1) i ≠ k) → odN v k m s = -1
  | 0, s, _ => rfl
  | m + 1, s, h => by
    show (if rkP v (gH v s 1) s = k then s else odN v k m (s + 1)) = -1
    rw [if_neg (h s (by omega) (by omega))]
    exact odN_n m (s + 1) (fun i a b => h i (by omega) (by omega))
theorem rkP_b {v : eg_v} {i : Int} (hi : 0 ≤ i ∧ i < v 2) : 0 ≤ rkP v (gH v i 1) i ∧ rkP v (gH v i 1) i < v 2 := by
  constructor
  · exact (sm_b (K := 1) (fun o _ _ => by unfold rkF; split <;> omega)).1
  · have a := sm_lt (f := rkF v (gH v i 1) i) (g := fun _ => 1) (j := i) hi.1 (by unfold rkF; rw [if_neg (by omega)]; decide) (n := (v 2).toNat) (fun o _ _ => by unfold rkF; split <;> omega) (by omega)
    have b : ∀ n : Nat, sm (fun _ => 1) n = (n : Int) := by
      intro n
      induction n with
      | zero => rfl
      | succ n ih => show sm (fun _ => 1) n + 1 = _; rw [ih]; omega
    rw [b] at a
    show sm _ _ < _
    omega
theorem rkP_s {v : eg_v} {r i : Int} (h0 : 0 ≤ i) (h1 : i < v 2) : rkP v r (i + 1) = if gH v i 1 = r then rkP v r i + 1 else rkP v r i := by
  unfold rkP
  split
  · rename_i h
    refine sm_1 h0 ?_ (fun o _ _ c => ?_) (by omega)
    · unfold rkF; rw [if_pos (by omega), if_neg (by omega)]; rfl
    · unfold rkF; by_cases e : gH v o 1 < r ∨ (gH v o 1 = r ∧ o < i)
      · rw [if_pos e, if_pos (by omega)]
      · rw [if_neg e, if_neg (by omega)]
  · rename_i h
    refine sm_c (fun o _ _ => ?_)
    unfold rkF
    by_cases e : gH v o 1 < r ∨ (gH v o 1 = r ∧ o < i)
    · rw [if_pos e, if_pos (by omega)]
    · by_cases c : o = i
      · subst c; rw [if_neg e, if_neg (by omega)]
      · rw [if_neg e, if_neg (by omega)]
theorem rkP_n {v : eg_v} {r : Int} : rkP v r (v 2) = rkP v (r + 1) 0 := by
  unfold rkP
  refine sm_c (fun o a b => ?_)
  unfold rkF
  by_cases e : gH v o 1 < r ∨ (gH v o 1 = r ∧ o < v 2)
  · rw [if_pos e, if_pos (by omega)]
  · rw [if_neg e, if_neg (by omega)]
def blF (v : eg_v) (t : Int) : Nat → Nat
  | 0 => 0
  | i + 1 => blF v t i + (if CC v 10 i = t then 2 ^ i else 0)
theorem blF_b (v : eg_v) (t : Int) : ∀ i : Nat, blF v t i < 2 ^ i
  | 0 => by show (0 : Nat) < 2 ^ 0; decide
  | i + 1 => by
    have := blF_b v t i
    show blF v t i + _ < _
    rw [Nat.pow_succ]
    split <;> omega
def A_blame (v : eg_v) (t : Int) : Int := if 0 < v 0 then (blF v t (v 3).toNat : Int) else -1
def alIt (v : eg_v) (q : Int) : Nat → eg_v
  | 0 => v
  | i + 1 => if (i : Int) = q then alIt v q i else va_up (alIt v q i) (108 + 4 * (i : Int) + 3).toNat 0
theorem alIt_s {v : eg_v} {q i : Int} (h : 0 ≤ i) : alIt v q (i + 1).toNat = if i = q then alIt v q i.toNat else va_up (alIt v q i.toNat) (108 + 4 * i + 3).toNat 0 := by
  obtain ⟨j, rfl⟩ : ∃ j : Nat, i = j := ⟨i.toNat, by omega⟩
  rw [show ((j : Int) + 1).toNat = j + 1 by omega, show (j : Int).toNat = j by omega]
  rfl
theorem alIt_p {v : eg_v} {q : Int} (h : okV v) : ∀ i : Nat, (i : Int) ≤ v 3 → okV (alIt v q i) ∧ ∀ j, j < 108 → alIt v q i j = v j
  | 0, _ => ⟨h, fun _ _ => rfl⟩
  | i + 1, hi => by
    have ih := alIt_p (q := q) h i (by omega)
    unfold alIt
    split
    · exact ih
    · exact ⟨okV_n ih.1 (by omega) (by rw [ih.2 3 (by omega)]; omega) (by omega), fun j hj => by rw [va_up_n _ _ (by omega)]; exact ih.2 j hj⟩
def A_alone (v : eg_v) (q : Int) : Int := if 0 ≤ q ∧ q < v 3 then SS (alIt v q (v 3).toNat) 10 q else -1
def woF (v : eg_v) : Nat → Int
  | 0 => -2
  | i + 1 => if sNom v i ≠ 0 ∧ (woF v i = -2 ∨ shR v (SS v 10) i < shR v (SS v 10) (woF v i)) then (i : Int) else woF v i
theorem woF_s {v : eg_v} {i : Int} (h : 0 ≤ i) : woF v (i + 1).toNat = if sNom v i ≠ 0 ∧ (woF v i.toNat = -2 ∨ shR v (SS v 10) i < shR v (SS v 10) (woF v i.toNat)) then i else woF v i.toNat := by
  obtain ⟨j, rfl⟩ : ∃ j : Nat, i = j := ⟨i.toNat, by omega⟩
  rw [show ((j : Int) + 1).toNat = j + 1 by omega, show (j : Int).toNat = j by omega]
  rfl
theorem woF_b {v : eg_v} : ∀ i : Nat, woF v i = -2 ∨ (0 ≤ woF v i ∧ woF v i < i)
  | 0 => Or.inl rfl
  | i + 1 => by
    have ih := woF_b (v := v) i
    unfold woF
    split <;> omega
theorem shR_b {v : eg_v} {B : Int} (hv : VV B v) {p : Int → Int} (hp : okp v p) (s : Int) : 0 ≤ shR v p s ∧ shR v p s ≤ 159984000 := by
  have q := hv.r.2
  have a := sm_b (f := shF v p s) (K := 9999) (n := (v 3).toNat) (shF_b hp)
  unfold shR
  split
  · omega
  · refine ⟨Int.ediv_nonneg (by omega) (by omega), ?_⟩
    have : sm (shF v p s) (v 3).toNat * 1000 / sNom v s ≤ sm (shF v p s) (v 3).toNat * 1000 := Int.ediv_le_self _ (by omega)
    omega
def A_worst (v : eg_v) : Int := if 0 < v 0 then woF v (v 2).toNat else -1
theorem p_nearest {k : eg_K} {z : eg_Z} {X : eg_M} {n : Nat} {s : eg_S} (hI : IC z s) {a b c : Int} (r_a : iR a) (r_b : iR b) (r_c : iR c) : eg_P k gX8_nearest 3 0 0 [vR k 0, vI a, vI b, vI c] n (enc k z X) (eg_p k (some (vI (A_nearest s.1 a b c))) n X (fun z' => FC z z' ∧ IC z' s)) := by
  refine eg_P.of (by decide) (Nat.le_of_ble_eq_true rfl) ?_
  show eg_E k gX8_nearest 3 0 0 n (enc k z X) [vR k 0, vI a, vI b, vI c, vU, vU, vU, vU] [] 0 _
  obtain ⟨hV1, hHi, ⟨hkb, hsh⟩, hT, hTl, hTb⟩ := id hI
  have hb := isB_1
  have hp := hV1.1
  have hv := hV1.2.2.1
  have q := hv.r.2
  obtain ⟨⟨z0, z1, z2, z3⟩, ⟨c1, c3, c5, c7⟩, -⟩ := id hp
  have r_a1 := r_a.1; have r_a2 := r_a.2
  have r_b1 := r_b.1; have r_b2 := r_b.2
  have r_c1 := r_c.1; have r_c2 := r_c.2
  have K : (0 ≤ a ∧ a < s.1 1 ∧ gP s.1 a 1 = 0) → (0 ≤ b ∧ b ≤ 9999) → (0 ≤ c ∧ c ≤ 1) → eg_E k gX8_nearest 3 0 0 n (enc k z X) [vR k 0, vI a, vI b, vI c, vI (-2), vI (-2), vI 0, vU] [] 44 (eg_p k (some (vI (A_nearest s.1 a b c))) n X (fun z' => FC z z' ∧ IC z' s)) := by
    intro ha hbb hcc
    have o2 := hv.P (p := a) (by omega) (by omega); unfold okP at o2
    have L : ∀ (m : Nat) (i : Int) (w7 : Value), 0 ≤ i → i ≤ s.1 1 → s.1 1 - i < (m : Int) → eg_E k gX8_nearest 3 0 0 n (enc k z X) [vR k 0, vI a, vI b, vI c, vI (nrF s.1 (gP s.1 a 0) b i.toNat).1, vI (nrF s.1 (gP s.1 a 0) b i.toNat).2, vI i, w7] [] 44 (eg_p k (some (vI (A_nearest s.1 a b c))) n X (fun z' => FC z z' ∧ IC z' s)) := by
      intro m
      induction m with
      | zero => intro i w7 h0 h1 hm; exfalso; omega
      | succ m ih =>
        intro i w7 h0 h1 hm
        have nb := nrF_b (v := s.1) (h := gP s.1 a 0) (m := b) i.toNat
        refine eg_iload dX8_nearest_44 rfl ?_
        refine eg_al_n dX8_nearest_46 rfl rfl ?_
        refine eg_get fl_X8_12 dX8_nearest_47 (by first | exact er0 | exact ep0 hb | exact ep1 hb | exact ep3 hb | exact ep5 hb | exact ep7 hb | exact er25 | exact er34 | exact er181 | exact er182 | exact er196 | exact er199 | exact er156 | exact ep0 isB_13 | exact ep1 isB_13 | exact ep3 isB_13 | exact ep5 isB_13 | exact ep7 isB_13 | exact er26 | exact er27 | exact er28 | exact ep9 hb | exact ep10 hb | exact ep0 (isB_shelf _ (by omega))) rfl ?_
        refine eg_get fl_X8_95 dX8_nearest_50 (by first | exact er0 | exact ep0 hb | exact ep1 hb | exact ep3 hb | exact ep5 hb | exact ep7 hb | exact er25 | exact er34 | exact er181 | exact er182 | exact er196 | exact er199 | exact er156 | exact ep0 isB_13 | exact ep1 isB_13 | exact ep3 isB_13 | exact ep5 isB_13 | exact ep7 isB_13 | exact er26 | exact er27 | exact er28 | exact ep9 hb | exact ep10 hb | exact ep0 (isB_shelf _ (by omega))) rfl ?_
        refine eg_get fl_X8_99 dX8_nearest_53 (by first | exact er0 | exact ep0 hb | exact ep1 hb | exact ep3 hb | exact ep5 hb | exact ep7 hb | exact er25 | exact er34 | exact er181 | exact er182 | exact er196 | exact er199 | exact er156 | exact ep0 isB_13 | exact ep1 isB_13 | exact ep3 isB_13 | exact ep5 isB_13 | exact ep7 isB_13 | exact er26 | exact er27 | exact er28 | exact ep9 hb | exact ep10 hb | exact ep0 (isB_shelf _ (by omega))) rfl ?_
        rw [c3]
        refine eg_icmp_ge 132 dX8_nearest_56 ⟨by omega, by omega⟩ ⟨by omega, by omega⟩ rfl (fun h56 => ?_) (fun h56 => ?_)
        · refine eg_iload_n dX8_nearest_132 rfl ?_
          refine eg_if_ne 141 dX8_nearest_133 ⟨by omega, by omega⟩ rfl (fun h133 => ?_) (fun h133 => ?_)
          · refine eg_iload dX8_nearest_141 rfl ?_
            refine eg_ireturn dX8_nearest_143 rfl rfl ?_
            refine ⟨congrArg (fun q => some (vI q)) ?_, rfl, z, rfl, (Fr.rf).fc, (Fr.rf).ic hI⟩
            unfold A_nearest; rw [if_pos ⟨by omega, by omega, by omega⟩, show (s.1 1).toNat = i.toNat by omega]; first | rw [if_pos (by omega)] | rw [if_neg (by omega)]
          · refine eg_iload dX8_nearest_136 rfl ?_
            refine eg_goto 143 dX8_nearest_138 rfl ?_
            refine eg_ireturn dX8_nearest_143 rfl rfl ?_
            refine ⟨congrArg (fun q => some (vI q)) ?_, rfl, z, rfl, (Fr.rf).fc, (Fr.rf).ic hI⟩
            unfold A_nearest; rw [if_pos ⟨by omega, by omega, by omega⟩, show (s.1 1).toNat = i.toNat by omega]; first | rw [if_pos (by omega)] | rw [if_neg (by omega)]
        · refine eg_al_n dX8_nearest_59 rfl rfl ?_
          refine eg_get fl_X8_12 dX8_nearest_60 (by first | exact er0 | exact ep0 hb | exact ep1 hb | exact ep3 hb | exact ep5 hb | exact ep7 hb | exact er25 | exact er34 | exact er181 | exact er182 | exact er196 | exact er199 | exact er156 | exact ep0 isB_13 | exact ep1 isB_13 | exact ep3 isB_13 | exact ep5 isB_13 | exact ep7 isB_13 | exact er26 | exact er27 | exact er28 | exact ep9 hb | exact ep10 hb | exact ep0 (isB_shelf _ (by omega))) rfl ?_
          refine eg_iload dX8_nearest_63 rfl ?_
          refine eg_Vf1 cs_X8_264 dX8_nearest_65 (c_X2_isIn hb hp hv ⟨by omega, by omega⟩) (by first | exact er0 | exact ep0 hb | exact ep1 hb | exact ep3 hb | exact ep5 hb | exact ep7 hb | exact er25 | exact er34 | exact er181 | exact er182 | exact er196 | exact er199 | exact er156 | exact ep0 isB_13 | exact ep1 isB_13 | exact ep3 isB_13 | exact ep5 isB_13 | exact ep7 isB_13 | exact er26 | exact er27 | exact er28 | exact ep9 hb | exact ep10 hb | exact ep0 (isB_shelf _ (by omega))) rfl (Nat.le_of_ble_eq_true rfl) (by decide) ?_
          refine eg_bi_ne 74 dX8_nearest_68 rfl (fun h68 => ?_) (fun h68 => ?_)
          · have o1 := hv.P (p := i) (by omega) (by omega); unfold okP at o1
            refine eg_al_n dX8_nearest_74 rfl rfl ?_
            refine eg_get fl_X8_12 dX8_nearest_75 (by first | exact er0 | exact ep0 hb | exact ep1 hb | exact ep3 hb | exact ep5 hb | exact ep7 hb | exact er25 | exact er34 | exact er181 | exact er182 | exact er196 | exact er199 | exact er156 | exact ep0 isB_13 | exact ep1 isB_13 | exact ep3 isB_13 | exact ep5 isB_13 | exact ep7 isB_13 | exact er26 | exact er27 | exact er28 | exact ep9 hb | exact ep10 hb | exact ep0 (isB_shelf _ (by omega))) rfl ?_
            refine eg_al_n dX8_nearest_78 rfl rfl ?_
            refine eg_get fl_X8_12 dX8_nearest_79 (by first | exact er0 | exact ep0 hb | exact ep1 hb | exact ep3 hb | exact ep5 hb | exact ep7 hb | exact er25 | exact er34 | exact er181 | exact er182 | exact er196 | exact er199 | exact er156 | exact ep0 isB_13 | exact ep1 isB_13 | exact ep3 isB_13 | exact ep5 isB_13 | exact ep7 isB_13 | exact er26 | exact er27 | exact er28 | exact ep9 hb | exact ep10 hb | exact ep0 (isB_shelf _ (by omega))) rfl ?_
            refine eg_iload dX8_nearest_82 rfl ?_
            refine eg_Vf1 cs_X8_267 dX8_nearest_84 (c_X2_hubOf hb hp hv (by omega) (by omega)) (by first | exact er0 | exact ep0 hb | exact ep1 hb | exact ep3 hb | exact ep5 hb | exact ep7 hb | exact er25 | exact er34 | exact er181 | exact er182 | exact er196 | exact er199 | exact er156 | exact ep0 isB_13 | exact ep1 isB_13 | exact ep3 isB_13 | exact ep5 isB_13 | exact ep7 isB_13 | exact er26 | exact er27 | exact er28 | exact ep9 hb | exact ep10 hb | exact ep0 (isB_shelf _ (by omega))) rfl (Nat.le_of_ble_eq_true rfl) (by decide) ?_
            refine eg_al_n dX8_nearest_87 rfl rfl ?_
            refine eg_get fl_X8_12 dX8_nearest_88 (by first | exact er0 | exact ep0 hb | exact ep1 hb | exact ep3 hb | exact ep5 hb | exact ep7 hb | exact er25 | exact er34 | exact er181 | exact er182 | exact er196 | exact er199 | exact er156 | exact ep0 isB_13 | exact ep1 isB_13 | exact ep3 isB_13 | exact ep5 isB_13 | exact ep7 isB_13 | exact er26 | exact er27 | exact er28 | exact ep9 hb | exact ep10 hb | exact ep0 (isB_shelf _ (by omega))) rfl ?_
            refine eg_iload_n dX8_nearest_91 rfl ?_
            refine eg_Vf1 cs_X8_267 dX8_nearest_92 (c_X2_hubOf hb hp hv (by omega) (by omega)) (by first | exact er0 | exact ep0 hb | exact ep1 hb | exact ep3 hb | exact ep5 hb | exact ep7 hb | exact er25 | exact er34 | exact er181 | exact er182 | exact er196 | exact er199 | exact er156 | exact ep0 isB_13 | exact ep1 isB_13 | exact ep3 isB_13 | exact ep5 isB_13 | exact ep7 isB_13 | exact er26 | exact er27 | exact er28 | exact ep9 hb | exact ep10 hb | exact ep0 (isB_shelf _ (by omega))) rfl (Nat.le_of_ble_eq_true rfl) (by decide) ?_
            refine eg_iload_n dX8_nearest_95 rfl ?_
            refine eg_Vf3 cs_X8_244 dX8_nearest_96 (c_X2_leastFor hb hp hv (by omega) (by omega) (by omega)) (by first | exact er0 | exact ep0 hb | exact ep1 hb | exact ep3 hb | exact ep5 hb | exact ep7 hb | exact er25 | exact er34 | exact er181 | exact er182 | exact er196 | exact er199 | exact er156 | exact ep0 isB_13 | exact ep1 isB_13 | exact ep3 isB_13 | exact ep5 isB_13 | exact ep7 isB_13 | exact er26 | exact er27 | exact er28 | exact ep9 hb | exact ep10 hb | exact ep0 (isB_shelf _ (by omega))) rfl (Nat.le_of_ble_eq_true rfl) (by decide) ?_
            refine eg_istore dX8_nearest_99 rfl rfl rfl ?_
            have nb9 := sNeed_b s.1 (gP s.1 i 0) (gP s.1 a 0) b
            refine eg_iload dX8_nearest_101 rfl ?_
            refine eg_if_lt 126 dX8_nearest_103 ⟨by omega, by omega⟩ rfl (fun h103 => ?_) (fun h103 => ?_)
            · refine eg_iinc dX8_nearest_126 rfl rfl rfl ?_
              refine eg_goto 44 dX8_nearest_129 rfl ?_
              have := fun w => ih (i + 1) w (by omega) (by omega) (by omega)
              rw [nrF_s h0] at this
              first
                | (rw [if_pos ⟨by omega, by omega, by omega⟩] at this; exact this _)
                | (rw [if_neg (by omega)] at this; exact this _)
            · refine eg_iload dX8_nearest_106 rfl ?_
              refine eg_if_lt 118 dX8_nearest_108 ⟨by omega, by omega⟩ rfl (fun h108 => ?_) (fun h108 => ?_)
              · refine eg_iload dX8_nearest_118 rfl ?_
                refine eg_istore dX8_nearest_120 rfl rfl rfl ?_
                refine eg_iload dX8_nearest_122 rfl ?_
                refine eg_istore dX8_nearest_124 rfl rfl rfl ?_
                refine eg_iinc dX8_nearest_126 rfl rfl rfl ?_
                refine eg_goto 44 dX8_nearest_129 rfl ?_
                have := fun w => ih (i + 1) w (by omega) (by omega) (by omega)
                rw [nrF_s h0] at this
                first
                  | (rw [if_pos ⟨by omega, by omega, by omega⟩] at this; exact this _)
                  | (rw [if_neg (by omega)] at this; exact this _)
              · refine eg_iload dX8_nearest_111 rfl ?_
                refine eg_iload dX8_nearest_113 rfl ?_
                refine eg_icmp_ge 126 dX8_nearest_115 ⟨by omega, by omega⟩ ⟨by omega, by omega⟩ rfl (fun h115 => ?_) (fun h115 => ?_)
                · refine eg_iinc dX8_nearest_126 rfl rfl rfl ?_
                  refine eg_goto 44 dX8_nearest_129 rfl ?_
                  have := fun w => ih (i + 1) w (by omega) (by omega) (by omega)
                  rw [nrF_s h0] at this
                  first
                    | (rw [if_pos ⟨by omega, by omega, by omega⟩] at this; exact this _)
                    | (rw [if_neg (by omega)] at this; exact this _)
                · refine eg_iload dX8_nearest_118 rfl ?_
                  refine eg_istore dX8_nearest_120 rfl rfl rfl ?_
                  refine eg_iload dX8_nearest_122 rfl ?_
                  refine eg_istore dX8_nearest_124 rfl rfl rfl ?_
                  refine eg_iinc dX8_nearest_126 rfl rfl rfl ?_
                  refine eg_goto 44 dX8_nearest_129 rfl ?_
                  have := fun w => ih (i + 1) w (by omega) (by omega) (by omega)
                  rw [nrF_s h0] at this
                  first
                    | (rw [if_pos ⟨by omega, by omega, by omega⟩] at this; exact this _)
                    | (rw [if_neg (by omega)] at this; exact this _)
          · refine eg_goto 126 dX8_nearest_71 rfl ?_
            refine eg_iinc dX8_nearest_126 rfl rfl rfl ?_
            refine eg_goto 44 dX8_nearest_129 rfl ?_
            have := fun w => ih (i + 1) w (by omega) (by omega) (by omega)
            rw [nrF_s h0] at this
            first
              | (rw [if_pos ⟨by omega, by omega, by omega⟩] at this; exact this _)
              | (rw [if_neg (by omega)] at this; exact this _)
    exact L 11 0 vU (by omega) (by omega) (by omega)
  refine eg_al_n dX8_nearest_0 rfl rfl ?_
  refine eg_get fl_X8_12 dX8_nearest_1 (by first | exact er0 | exact ep0 hb | exact ep1 hb | exact ep3 hb | exact ep5 hb | exact ep7 hb | exact er25 | exact er34 | exact er181 | exact er182 | exact er196 | exact er199 | exact er156 | exact ep0 isB_13 | exact ep1 isB_13 | exact ep3 isB_13 | exact ep5 isB_13 | exact ep7 isB_13 | exact er26 | exact er27 | exact er28 | exact ep9 hb | exact ep10 hb | exact ep0 (isB_shelf _ (by omega))) rfl ?_
  refine eg_iload_n dX8_nearest_4 rfl ?_
  refine eg_Vf1 cs_X8_261 dX8_nearest_5 (c_X2_isOut hb hp hv r_a) (by first | exact er0 | exact ep0 hb | exact ep1 hb | exact ep3 hb | exact ep5 hb | exact ep7 hb | exact er25 | exact er34 | exact er181 | exact er182 | exact er196 | exact er199 | exact er156 | exact ep0 isB_13 | exact ep1 isB_13 | exact ep3 isB_13 | exact ep5 isB_13 | exact ep7 isB_13 | exact er26 | exact er27 | exact er28 | exact ep9 hb | exact ep10 hb | exact ep0 (isB_shelf _ (by omega))) rfl (Nat.le_of_ble_eq_true rfl) (by decide) ?_
  refine eg_bi_eq 31 dX8_nearest_8 rfl (fun h8 => ?_) (fun h8 => ?_)
  · refine eg_iconst dX8_nearest_31 ?_
    refine eg_ireturn dX8_nearest_32 rfl rfl ?_
    refine ⟨congrArg (fun q => some (vI q)) ?_, rfl, z, rfl, (Fr.rf).fc, (Fr.rf).ic hI⟩
    unfold A_nearest; rw [if_neg]; omega
  · refine eg_iload_n dX8_nearest_11 rfl ?_
    refine eg_iconst dX8_nearest_12 ?_
    refine eg_sipush dX8_nearest_13 (by decide) ?_
    refine eg_Sf3 cs_X8_79 dX8_nearest_16 (c_X8_within ⟨by omega, by omega⟩ ⟨by omega, by omega⟩ ⟨by omega, by omega⟩) (Nat.le_of_ble_eq_true rfl) (by decide) ?_
    refine eg_bi_eq 31 dX8_nearest_19 rfl (fun h19 => ?_) (fun h19 => ?_)
    · refine eg_iconst dX8_nearest_31 ?_
      refine eg_ireturn dX8_nearest_32 rfl rfl ?_
      refine ⟨congrArg (fun q => some (vI q)) ?_, rfl, z, rfl, (Fr.rf).fc, (Fr.rf).ic hI⟩
      unfold A_nearest; rw [if_neg]; omega
    · refine eg_iload_n dX8_nearest_22 rfl ?_
      refine eg_iconst dX8_nearest_23 ?_
      refine eg_iconst dX8_nearest_24 ?_
      refine eg_Sf3 cs_X8_79 dX8_nearest_25 (c_X8_within ⟨by omega, by omega⟩ ⟨by omega, by omega⟩ ⟨by omega, by omega⟩) (Nat.le_of_ble_eq_true rfl) (by decide) ?_
      refine eg_bi_ne 33 dX8_nearest_28 rfl (fun h28 => ?_) (fun h28 => ?_)
      · refine eg_bipush dX8_nearest_33 (by decide) ?_
        refine eg_istore dX8_nearest_35 rfl rfl rfl ?_
        refine eg_bipush dX8_nearest_37 (by decide) ?_
        refine eg_istore dX8_nearest_39 rfl rfl rfl ?_
        refine eg_iconst dX8_nearest_41 ?_
        refine eg_istore dX8_nearest_42 rfl rfl rfl ?_
        exact K (by omega) (by omega) (by omega)
      · refine eg_iconst dX8_nearest_31 ?_
        refine eg_ireturn dX8_nearest_32 rfl rfl ?_
        refine ⟨congrArg (fun q => some (vI q)) ?_, rfl, z, rfl, (Fr.rf).fc, (Fr.rf).ic hI⟩
        unfold A_nearest; rw [if_neg]; omega
theorem p_order {k : eg_K} {z : eg_Z} {X : eg_M} {n : Nat} {s : eg_S} (hI : IC z s) {a : Int} (r_a : iR a) : eg_P k gX8_order 1 0 0 [vR k 0, vI a] n (enc k z X) (eg_p k (some (vI (A_order s.1 a))) n X (fun z' => FC z z' ∧ IC z' s)) := by
  refine eg_P.of (by decide) (Nat.le_of_ble_eq_true rfl) ?_
  show eg_E k gX8_order 1 0 0 n (enc k z X) [vR k 0, vI a, vU, vU, vU] [] 0 _
  obtain ⟨hV1, hHi, ⟨hkb, hsh⟩, hT, hTl, hTb⟩ := id hI
  have hb := isB_1
  have hp := hV1.1
  have hv := hV1.2.2.1
  have q := hv.r.2
  obtain ⟨⟨z0, z1, z2, z3⟩, ⟨c1, c3, c5, c7⟩, -⟩ := id hp
  have r_a1 := r_a.1; have r_a2 := r_a.2
  have LO : ∀ (m : Nat) (r i : Int) (w4 : Value), 1 ≤ r → r ≤ 10 → (∀ j : Int, 0 ≤ j → j < s.1 2 → gH s.1 j 1 < r → rkP s.1 (gH s.1 j 1) j ≠ a) → 10 - r < (m : Int) → eg_E k gX8_order 1 0 0 n (enc k z X) [vR k 0, vI a, vI (rkP s.1 r 0), vI r, w4] [] 20 (eg_p k (some (vI (A_order s.1 a))) n X (fun z' => FC z z' ∧ IC z' s)) := by
    intro m
    induction m with
    | zero => intro r i w4 h0 h1 hn hm; exfalso; omega
    | succ m ih =>
      intro r i w4 h0 h1 hn hm
      have ihO := ih
      have LI : ∀ (m : Nat) (i : Int), 0 ≤ i → i ≤ s.1 2 → r ≤ 9 → (∀ j : Int, 0 ≤ j → j < s.1 2 → (gH s.1 j 1 < r ∨ (gH s.1 j 1 = r ∧ j < i)) → rkP s.1 (gH s.1 j 1) j ≠ a) → s.1 2 - i < (m : Int) → eg_E k gX8_order 1 0 0 n (enc k z X) [vR k 0, vI a, vI (rkP s.1 r i), vI r, vI i] [] 29 (eg_p k (some (vI (A_order s.1 a))) n X (fun z' => FC z z' ∧ IC z' s)) := by
        intro m
        induction m with
        | zero => intro i h0 h1 hr9 hi hm; exfalso; omega
        | succ m ih =>
          intro i h0 h1 hr9 hi hm
          refine eg_iload dX8_order_29 rfl ?_
          refine eg_al_n dX8_order_31 rfl rfl ?_
          refine eg_get fl_X8_12 dX8_order_32 (by first | exact er0 | exact ep0 hb | exact ep1 hb | exact ep3 hb | exact ep5 hb | exact ep7 hb | exact er25 | exact er34 | exact er181 | exact er182 | exact er196 | exact er199 | exact er156 | exact ep0 isB_13 | exact ep1 isB_13 | exact ep3 isB_13 | exact ep5 isB_13 | exact ep7 isB_13 | exact er26 | exact er27 | exact er28 | exact ep9 hb | exact ep10 hb | exact ep0 (isB_shelf _ (by omega))) rfl ?_
          refine eg_get fl_X8_146 dX8_order_35 (by first | exact er0 | exact ep0 hb | exact ep1 hb | exact ep3 hb | exact ep5 hb | exact ep7 hb | exact er25 | exact er34 | exact er181 | exact er182 | exact er196 | exact er199 | exact er156 | exact ep0 isB_13 | exact ep1 isB_13 | exact ep3 isB_13 | exact ep5 isB_13 | exact ep7 isB_13 | exact er26 | exact er27 | exact er28 | exact ep9 hb | exact ep10 hb | exact ep0 (isB_shelf _ (by omega))) rfl ?_
          refine eg_get fl_X8_99 dX8_order_38 (by first | exact er0 | exact ep0 hb | exact ep1 hb | exact ep3 hb | exact ep5 hb | exact ep7 hb | exact er25 | exact er34 | exact er181 | exact er182 | exact er196 | exact er199 | exact er156 | exact ep0 isB_13 | exact ep1 isB_13 | exact ep3 isB_13 | exact ep5 isB_13 | exact ep7 isB_13 | exact er26 | exact er27 | exact er28 | exact ep9 hb | exact ep10 hb | exact ep0 (isB_shelf _ (by omega))) rfl ?_
          rw [c5]
          refine eg_icmp_ge 81 dX8_order_41 ⟨by omega, by omega⟩ ⟨by omega, by omega⟩ rfl (fun h41 => ?_) (fun h41 => ?_)
          · refine eg_iinc dX8_order_81 rfl rfl rfl ?_
            refine eg_goto 20 dX8_order_84 rfl ?_
            have := ihO (r + 1) 0 (vI i) (by omega) (by omega) (fun j a b c => hi j a b (by omega)) (by omega)
            rw [← rkP_n, show s.1 2 = i by omega] at this
            exact this
          · refine eg_al_n dX8_order_44 rfl rfl ?_
            refine eg_get fl_X8_12 dX8_order_45 (by first | exact er0 | exact ep0 hb | exact ep1 hb | exact ep3 hb | exact ep5 hb | exact ep7 hb | exact er25 | exact er34 | exact er181 | exact er182 | exact er196 | exact er199 | exact er156 | exact ep0 isB_13 | exact ep1 isB_13 | exact ep3 isB_13 | exact ep5 isB_13 | exact ep7 isB_13 | exact er26 | exact er27 | exact er28 | exact ep9 hb | exact ep10 hb | exact ep0 (isB_shelf _ (by omega))) rfl ?_
            refine eg_get fl_X8_146 dX8_order_48 (by first | exact er0 | exact ep0 hb | exact ep1 hb | exact ep3 hb | exact ep5 hb | exact ep7 hb | exact er25 | exact er34 | exact er181 | exact er182 | exact er196 | exact er199 | exact er156 | exact ep0 isB_13 | exact ep1 isB_13 | exact ep3 isB_13 | exact ep5 isB_13 | exact ep7 isB_13 | exact er26 | exact er27 | exact er28 | exact ep9 hb | exact ep10 hb | exact ep0 (isB_shelf _ (by omega))) rfl ?_
            refine eg_iload dX8_order_51 rfl ?_
            refine eg_iconst dX8_order_53 ?_
            refine eg_Vf2 cs_X8_125 dX8_order_54 (sh_at hb hp hv (by omega) (by omega) (by omega) (by omega)) (by first | exact er0 | exact ep0 hb | exact ep1 hb | exact ep3 hb | exact ep5 hb | exact ep7 hb | exact er25 | exact er34 | exact er181 | exact er182 | exact er196 | exact er199 | exact er156 | exact ep0 isB_13 | exact ep1 isB_13 | exact ep3 isB_13 | exact ep5 isB_13 | exact ep7 isB_13 | exact er26 | exact er27 | exact er28 | exact ep9 hb | exact ep10 hb | exact ep0 (isB_shelf _ (by omega))) rfl (Nat.le_of_ble_eq_true rfl) (by decide) ?_
            have o1 := hv.H (s := i) (by omega) (by omega); unfold okH at o1
            refine eg_iload_n dX8_order_57 rfl ?_
            refine eg_icmp_eq 64 dX8_order_58 ⟨by omega, by omega⟩ ⟨by omega, by omega⟩ rfl (fun h58 => ?_) (fun h58 => ?_)
            · refine eg_iload_n dX8_order_64 rfl ?_
              refine eg_iload_n dX8_order_65 rfl ?_
              have rb : 0 ≤ rkP s.1 r i ∧ rkP s.1 r i ≤ 6 := by
                have := sm_b (f := rkF s.1 r i) (K := 1) (n := (s.1 2).toNat) (fun o _ _ => by unfold rkF; split <;> omega)
                unfold rkP; omega
              refine eg_icmp_ne 72 dX8_order_66 ⟨by omega, by omega⟩ ⟨by omega, by omega⟩ rfl (fun h66 => ?_) (fun h66 => ?_)
              · refine eg_iinc dX8_order_72 rfl rfl rfl ?_
                refine eg_iinc dX8_order_75 rfl rfl rfl ?_
                refine eg_goto 29 dX8_order_78 rfl ?_
                have st := rkP_s (v := s.1) (r := r) h0 (show i < s.1 2 by omega)
                have hi2 : ∀ j : Int, 0 ≤ j → j < s.1 2 → (gH s.1 j 1 < r ∨ (gH s.1 j 1 = r ∧ j < i + 1)) → rkP s.1 (gH s.1 j 1) j ≠ a := fun j a1 b1 c1 => by
                  by_cases e : j = i
                  · subst e
                    first
                      | (have e8 : gH s.1 j 1 = r := by omega
                         rw [e8]; exact h66)
                      | (exact hi j a1 b1 (Or.inl (by omega)))
                  · exact hi j a1 b1 (by omega)
                have e9 := ih (i + 1) (by omega) (by omega) hr9 hi2 (by omega)
                rw [st] at e9
                first
                  | (rw [if_pos (by omega)] at e9; exact e9)
                  | (rw [if_neg (by omega)] at e9; exact e9)
              · refine eg_iload dX8_order_69 rfl ?_
                refine eg_ireturn dX8_order_71 rfl rfl ?_
                refine ⟨congrArg (fun q => some (vI q)) ?_, rfl, z, rfl, FC.rf, hI⟩
                exact (odN_e ⟨h0, by omega⟩ (by rw [h58]; exact h66) (s.1 2).toNat 0 (by omega) (by omega) (by omega)).symm
            · refine eg_goto 75 dX8_order_61 rfl ?_
              refine eg_iinc dX8_order_75 rfl rfl rfl ?_
              refine eg_goto 29 dX8_order_78 rfl ?_
              have st := rkP_s (v := s.1) (r := r) h0 (show i < s.1 2 by omega)
              have hi2 : ∀ j : Int, 0 ≤ j → j < s.1 2 → (gH s.1 j 1 < r ∨ (gH s.1 j 1 = r ∧ j < i + 1)) → rkP s.1 (gH s.1 j 1) j ≠ a := fun j a1 b1 c1 => by
                by_cases e : j = i
                · subst e
                  first
                    | (have e8 : gH s.1 j 1 = r := by omega
                       rw [e8]; exact h66)
                    | (exact hi j a1 b1 (Or.inl (by omega)))
                · exact hi j a1 b1 (by omega)
              have e9 := ih (i + 1) (by omega) (by omega) hr9 hi2 (by omega)
              rw [st] at e9
              first
                | (rw [if_pos (by omega)] at e9; exact e9)
                | (rw [if_neg (by omega)] at e9; exact e9)
      refine eg_iload_n dX8_order_20 rfl ?_
      refine eg_bipush dX8_order_21 (by decide) ?_
      refine eg_icmp_gt 87 dX8_order_23 ⟨by omega, by omega⟩ ⟨by omega, by omega⟩ rfl (fun h23 => ?_) (fun h23 => ?_)
      · refine eg_iconst dX8_order_87 ?_
        refine eg_ireturn dX8_order_88 rfl rfl ?_
        refine ⟨congrArg (fun q => some (vI q)) ?_, rfl, z, rfl, FC.rf, hI⟩
        exact (odN_n (s.1 2).toNat 0 (fun j g0 g1 => hn j (by omega) (by omega) (by have o1 := hv.H (s := j) (by omega) (by omega); unfold okH at o1; omega))).symm
      · refine eg_iconst dX8_order_26 ?_
        refine eg_istore dX8_order_27 rfl rfl rfl ?_
        exact LI 7 0 (by omega) (by omega) (by omega) (fun j a b c => hn j a b (by omega)) (by omega)
  refine eg_al_n dX8_order_0 rfl rfl ?_
  refine eg_get fl_X8_12 dX8_order_1 (by first | exact er0 | exact ep0 hb | exact ep1 hb | exact ep3 hb | exact ep5 hb | exact ep7 hb | exact er25 | exact er34 | exact er181 | exact er182 | exact er196 | exact er199 | exact er156 | exact ep0 isB_13 | exact ep1 isB_13 | exact ep3 isB_13 | exact ep5 isB_13 | exact ep7 isB_13 | exact er26 | exact er27 | exact er28 | exact ep9 hb | exact ep10 hb | exact ep0 (isB_shelf _ (by omega))) rfl ?_
  refine eg_get fl_X8_146 dX8_order_4 (by first | exact er0 | exact ep0 hb | exact ep1 hb | exact ep3 hb | exact ep5 hb | exact ep7 hb | exact er25 | exact er34 | exact er181 | exact er182 | exact er196 | exact er199 | exact er156 | exact ep0 isB_13 | exact ep1 isB_13 | exact ep3 isB_13 | exact ep5 isB_13 | exact ep7 isB_13 | exact er26 | exact er27 | exact er28 | exact ep9 hb | exact ep10 hb | exact ep0 (isB_shelf _ (by omega))) rfl ?_
  refine eg_iload_n dX8_order_7 rfl ?_
  refine eg_Vf1 cs_X8_121 dX8_order_8 (sh_has hb hp hv r_a) (by first | exact er0 | exact ep0 hb | exact ep1 hb | exact ep3 hb | exact ep5 hb | exact ep7 hb | exact er25 | exact er34 | exact er181 | exact er182 | exact er196 | exact er199 | exact er156 | exact ep0 isB_13 | exact ep1 isB_13 | exact ep3 isB_13 | exact ep5 isB_13 | exact ep7 isB_13 | exact er26 | exact er27 | exact er28 | exact ep9 hb | exact ep10 hb | exact ep0 (isB_shelf _ (by omega))) rfl (Nat.le_of_ble_eq_true rfl) (by decide) ?_
  refine eg_bi_ne 16 dX8_order_11 rfl (fun h11 => ?_) (fun h11 => ?_)
  · refine eg_iconst dX8_order_16 ?_
    refine eg_istore_n dX8_order_17 rfl rfl rfl ?_
    refine eg_iconst dX8_order_18 ?_
    refine eg_istore_n dX8_order_19 rfl rfl rfl ?_
    have := LO 10 1 0 vU (by omega) (by omega) (fun j a b c => by have o1 := hv.H (s := j) (by omega) (by omega); unfold okH at o1; omega) (by omega)
    rw [show rkP s.1 1 0 = 0 from ?_] at this
    · exact this
    · unfold rkP
      rw [sm_c (g := fun _ => 0) (fun o g0 g1 => by unfold rkF; have o1 := hv.H (s := o) (by omega) (by omega); unfold okH at o1; rw [if_neg (by omega)])]
      generalize (s.1 2).toNat = nn
      induction nn with
      | zero => rfl
      | succ nn ihn => show sm (fun _ => 0) nn + 0 = 0; omega
  · refine eg_iconst dX8_order_14 ?_
    refine eg_ireturn dX8_order_15 rfl rfl ?_
    refine ⟨congrArg (fun q => some (vI q)) ?_, rfl, z, rfl, FC.rf, hI⟩
    exact (odN_n (s.1 2).toNat 0 (fun j g0 g1 => by have := rkP_b (v := s.1) (i := j) (by omega); omega)).symm
theorem p_blame {k : eg_K} {z : eg_Z} {X : eg_M} {n : Nat} {s : eg_S} (hI : IC z s) {a : Int} (r_a : iR a) : eg_P k gX8_blame 5 0 0 [vR k 0, vI a] n (enc k z X) (eg_p k (some (vI (A_blame s.1 a))) n X (fun z' => FC z z' ∧ IC z' s)) := by
  refine eg_P.of (by decide) (Nat.le_of_ble_eq_true rfl) ?_
  show eg_E k gX8_blame 5 0 0 n (enc k z X) [vR k 0, vI a, vU, vU] [] 0 _
  obtain ⟨hV1, hHi, ⟨hkb, hsh⟩, hT, hTl, hTb⟩ := id hI
  have hb := isB_1
  have hp := hV1.1
  have hv := hV1.2.2.1
  have q := hv.r.2
  obtain ⟨⟨z0, z1, z2, z3⟩, ⟨c1, c3, c5, c7⟩, -⟩ := id hp
  have r_a1 := r_a.1; have r_a2 := r_a.2
  have L : 0 < s.1 0 → ∀ (y1 : eg_Z), Fr z y1 → SJ s.1 10 y1 → y1 (1 + 7) 3 = s.1 3 → ∀ (m : Nat) (i : Nat), (i : Int) ≤ s.1 3 → s.1 3 - i < (m : Int) → eg_E k gX8_blame 5 0 0 n (enc k y1 X) [vR k 0, vI a, vI (blF s.1 a i : Int), vI (i : Int)] [] 27 (eg_p k (some (vI (A_blame s.1 a))) n X (fun z' => FC z z' ∧ IC z' s)) := by
    intro ht y1 f9 s1 c7b m
    induction m with
    | zero => intro i h1 hm; exfalso; omega
    | succ m ih =>
      intro i h1 hm
      have bb := blF_b s.1 a i
      have b3 := pw16 (q := i) (by omega)
      refine eg_iload_n dX8_blame_27 rfl ?_
      refine eg_al_n dX8_blame_28 rfl rfl ?_
      refine eg_get fl_X8_12 dX8_blame_29 (by first | exact er0 | exact ep0 hb | exact ep1 hb | exact ep3 hb | exact ep5 hb | exact ep7 hb | exact er25 | exact er34 | exact er181 | exact er182 | exact er196 | exact er199 | exact er156 | exact ep0 isB_13 | exact ep1 isB_13 | exact ep3 isB_13 | exact ep5 isB_13 | exact ep7 isB_13 | exact er26 | exact er27 | exact er28 | exact ep9 hb | exact ep10 hb | exact ep0 (isB_shelf _ (by omega))) rfl ?_
      refine eg_get fl_X8_108 dX8_blame_32 (by first | exact er0 | exact ep0 hb | exact ep1 hb | exact ep3 hb | exact ep5 hb | exact ep7 hb | exact er25 | exact er34 | exact er181 | exact er182 | exact er196 | exact er199 | exact er156 | exact ep0 isB_13 | exact ep1 isB_13 | exact ep3 isB_13 | exact ep5 isB_13 | exact ep7 isB_13 | exact er26 | exact er27 | exact er28 | exact ep9 hb | exact ep10 hb | exact ep0 (isB_shelf _ (by omega))) rfl ?_
      refine eg_get fl_X8_99 dX8_blame_35 (by first | exact er0 | exact ep0 hb | exact ep1 hb | exact ep3 hb | exact ep5 hb | exact ep7 hb | exact er25 | exact er34 | exact er181 | exact er182 | exact er196 | exact er199 | exact er156 | exact ep0 isB_13 | exact ep1 isB_13 | exact ep3 isB_13 | exact ep5 isB_13 | exact ep7 isB_13 | exact er26 | exact er27 | exact er28 | exact ep9 hb | exact ep10 hb | exact ep0 (isB_shelf _ (by omega))) rfl ?_
      rw [c7b]
      refine eg_icmp_ge 66 dX8_blame_38 ⟨by omega, by omega⟩ ⟨by omega, by omega⟩ rfl (fun h38 => ?_) (fun h38 => ?_)
      · refine eg_iload_n dX8_blame_66 rfl ?_
        refine eg_ireturn dX8_blame_67 rfl rfl ?_
        rw [show i = (s.1 3).toNat by omega]
        refine ⟨congrArg (fun q => some (vI q)) ?_, rfl, y1, rfl, (f9).fc, (f9).ic hI⟩
        unfold A_blame; rw [if_pos (by omega)]
      · refine eg_al_n dX8_blame_41 rfl rfl ?_
        refine eg_get fl_X8_22 dX8_blame_42 (by first | exact er0 | exact ep0 hb | exact ep1 hb | exact ep3 hb | exact ep5 hb | exact ep7 hb | exact er25 | exact er34 | exact er181 | exact er182 | exact er196 | exact er199 | exact er156 | exact ep0 isB_13 | exact ep1 isB_13 | exact ep3 isB_13 | exact ep5 isB_13 | exact ep7 isB_13 | exact er26 | exact er27 | exact er28 | exact ep9 hb | exact ep10 hb | exact ep0 (isB_shelf _ (by omega))) rfl ?_
        refine eg_get fl_X8_230 dX8_blame_45 (by first | exact er0 | exact ep0 hb | exact ep1 hb | exact ep3 hb | exact ep5 hb | exact ep7 hb | exact er25 | exact er34 | exact er181 | exact er182 | exact er196 | exact er199 | exact er156 | exact ep0 isB_13 | exact ep1 isB_13 | exact ep3 isB_13 | exact ep5 isB_13 | exact ep7 isB_13 | exact er26 | exact er27 | exact er28 | exact ep9 hb | exact ep10 hb | exact ep0 (isB_shelf _ (by omega))) rfl ?_
        refine eg_iload_n dX8_blame_48 rfl ?_
        refine eg_iald dX8_blame_49 (by first | exact er0 | exact ep0 hb | exact ep1 hb | exact ep3 hb | exact ep5 hb | exact ep7 hb | exact er25 | exact er34 | exact er181 | exact er182 | exact er196 | exact er199 | exact er156 | exact ep0 isB_13 | exact ep1 isB_13 | exact ep3 isB_13 | exact ep5 isB_13 | exact ep7 isB_13 | exact er26 | exact er27 | exact er28 | exact ep9 hb | exact ep10 hb | exact ep0 (isB_shelf _ (by omega))) (by omega) (by omega) (by decide) ?_
        rw [show (i : Int).toNat = i by omega]
        have cq := (s1.2.2.1 i (by omega) (by omega)).2
        rw [show (i : Int).toNat = i by omega] at cq
        rw [cq]
        have cb := CC_b (v := s.1) 10 i (by omega) (by omega)
        refine eg_iload_n dX8_blame_50 rfl ?_
        refine eg_icmp_ne 60 dX8_blame_51 ⟨by omega, by omega⟩ ⟨by omega, by omega⟩ rfl (fun h51 => ?_) (fun h51 => ?_)
        · refine eg_iinc dX8_blame_60 rfl rfl rfl ?_
          refine eg_goto 27 dX8_blame_63 rfl ?_
          have := ih (i + 1) (by omega) (by omega)
          rw [show blF s.1 a (i + 1) = blF s.1 a i + (if CC s.1 10 i = a then 2 ^ i else 0) from rfl] at this
          first
            | (rw [if_pos (by omega)] at this; rw [show ((i : Int) + 1) = ((i + 1 : Nat) : Int) by omega, e9]; exact this)
            | (rw [if_neg (by omega), Nat.add_zero] at this; rw [show ((i : Int) + 1) = ((i + 1 : Nat) : Int) by omega]; exact this)
        · refine eg_iload_n dX8_blame_54 rfl ?_
          refine eg_iconst dX8_blame_55 ?_
          refine eg_iload_n dX8_blame_56 rfl ?_
          refine eg_ishl dX8_blame_57 (by omega) ?_
          rw [Int.one_mul, ← pw i]
          have p2 := pw_lt (q := i) (by omega)
          have e9 : (blF s.1 a i ||| 2 ^ i : Nat) = blF s.1 a i + 2 ^ i := by rw [Nat.or_comm]; have := Nat.two_pow_add_eq_or_of_lt bb 1; rw [Nat.mul_one] at this; rw [← this, Nat.add_comm]
          refine eg_orN dX8_blame_58 (by omega) (by omega) ?_
          refine eg_istore_n dX8_blame_59 rfl rfl rfl ?_
          refine eg_iinc dX8_blame_60 rfl rfl rfl ?_
          refine eg_goto 27 dX8_blame_63 rfl ?_
          have := ih (i + 1) (by omega) (by omega)
          rw [show blF s.1 a (i + 1) = blF s.1 a i + (if CC s.1 10 i = a then 2 ^ i else 0) from rfl] at this
          first
            | (rw [if_pos (by omega)] at this; rw [show ((i : Int) + 1) = ((i + 1 : Nat) : Int) by omega, e9]; exact this)
            | (rw [if_neg (by omega), Nat.add_zero] at this; rw [show ((i : Int) + 1) = ((i + 1 : Nat) : Int) by omega]; exact this)
  refine eg_al_n dX8_blame_0 rfl rfl ?_
  refine eg_get fl_X8_12 dX8_blame_1 (by first | exact er0 | exact ep0 hb | exact ep1 hb | exact ep3 hb | exact ep5 hb | exact ep7 hb | exact er25 | exact er34 | exact er181 | exact er182 | exact er196 | exact er199 | exact er156 | exact ep0 isB_13 | exact ep1 isB_13 | exact ep3 isB_13 | exact ep5 isB_13 | exact ep7 isB_13 | exact er26 | exact er27 | exact er28 | exact ep9 hb | exact ep10 hb | exact ep0 (isB_shelf _ (by omega))) rfl ?_
  refine eg_Vf0 cs_X8_170 dX8_blame_4 (c_X2_isThere hb hp hv) (by first | exact er0 | exact ep0 hb | exact ep1 hb | exact ep3 hb | exact ep5 hb | exact ep7 hb | exact er25 | exact er34 | exact er181 | exact er182 | exact er196 | exact er199 | exact er156 | exact ep0 isB_13 | exact ep1 isB_13 | exact ep3 isB_13 | exact ep5 isB_13 | exact ep7 isB_13 | exact er26 | exact er27 | exact er28 | exact ep9 hb | exact ep10 hb | exact ep0 (isB_shelf _ (by omega))) rfl (Nat.le_of_ble_eq_true rfl) (by decide) ?_
  refine eg_bi_ne 12 dX8_blame_7 rfl (fun h7 => ?_) (fun h7 => ?_)
  · refine eg_al_n dX8_blame_12 rfl rfl ?_
    refine eg_get fl_X8_22 dX8_blame_13 (by first | exact er0 | exact ep0 hb | exact ep1 hb | exact ep3 hb | exact ep5 hb | exact ep7 hb | exact er25 | exact er34 | exact er181 | exact er182 | exact er196 | exact er199 | exact er156 | exact ep0 isB_13 | exact ep1 isB_13 | exact ep3 isB_13 | exact ep5 isB_13 | exact ep7 isB_13 | exact er26 | exact er27 | exact er28 | exact ep9 hb | exact ep10 hb | exact ep0 (isB_shelf _ (by omega))) rfl ?_
    refine eg_al_n dX8_blame_16 rfl rfl ?_
    refine eg_get fl_X8_12 dX8_blame_17 (by first | exact er0 | exact ep0 hb | exact ep1 hb | exact ep3 hb | exact ep5 hb | exact ep7 hb | exact er25 | exact er34 | exact er181 | exact er182 | exact er196 | exact er199 | exact er156 | exact ep0 isB_13 | exact ep1 isB_13 | exact ep3 isB_13 | exact ep5 isB_13 | exact ep7 isB_13 | exact er26 | exact er27 | exact er28 | exact ep9 hb | exact ep10 hb | exact ep0 (isB_shelf _ (by omega))) rfl ?_
    refine eg_Vpv1 cs_X8_198 dX8_blame_20 (c_X4_make hb hp hv hV1.2.2.2.1) (by first | exact er0 | exact ep0 hb | exact ep1 hb | exact ep3 hb | exact ep5 hb | exact ep7 hb | exact er25 | exact er34 | exact er181 | exact er182 | exact er196 | exact er199 | exact er156 | exact ep0 isB_13 | exact ep1 isB_13 | exact ep3 isB_13 | exact ep5 isB_13 | exact ep7 isB_13 | exact er26 | exact er27 | exact er28 | exact ep9 hb | exact ep10 hb | exact ep0 (isB_shelf _ (by omega))) rfl (Nat.le_of_ble_eq_true rfl) (by decide) ?_
    rintro y1 ⟨m1, s1, f1⟩
    have f9 : Fr z y1 := Fr.s m1
    have hp1 := m1.hP hb hp
    have c7b := hp1.2.1.2.2.2
    refine eg_iconst dX8_blame_23 ?_
    refine eg_istore_n dX8_blame_24 rfl rfl rfl ?_
    refine eg_iconst dX8_blame_25 ?_
    refine eg_istore_n dX8_blame_26 rfl rfl rfl ?_
    exact L (by omega) y1 f9 s1 c7b 17 0 (by omega) (by omega)
  · refine eg_iconst dX8_blame_10 ?_
    refine eg_ireturn dX8_blame_11 rfl rfl ?_
    refine ⟨congrArg (fun q => some (vI q)) ?_, rfl, z, rfl, (Fr.rf).fc, (Fr.rf).ic hI⟩
    unfold A_blame; (repeat (first | rw [if_pos (by first | assumption | omega)] | rw [if_neg (by first | assumption | omega)]))
theorem p_alone {k : eg_K} {z : eg_Z} {X : eg_M} {n : Nat} {s : eg_S} (hI : IC z s) {a : Int} (r_a : iR a) : eg_P k gX8_alone 5 0 0 [vR k 0, vI a] n (enc k z X) (eg_p k (some (vI (A_alone s.1 a))) n X (fun z' => FC z z' ∧ IC z' s)) := by
  refine eg_P.of (by decide) (Nat.le_of_ble_eq_true rfl) ?_
  show eg_E k gX8_alone 5 0 0 n (enc k z X) [vR k 0, vI a, vU] [] 0 _
  obtain ⟨hV1, hHi, ⟨hkb, hsh⟩, hT, hTl, hTb⟩ := id hI
  have hb := isB_1
  have hp := hV1.1
  have hv := hV1.2.2.1
  have q := hv.r.2
  obtain ⟨⟨z0, z1, z2, z3⟩, ⟨c1, c3, c5, c7⟩, -⟩ := id hp
  have r_a1 := r_a.1; have r_a2 := r_a.2
  have L : (0 ≤ a ∧ a < s.1 3) → ∀ (m : Nat) (i : Int) (y1 : eg_Z), 0 ≤ i → i ≤ s.1 3 → Fr z y1 → hP y1 13 (alIt s.1 a i.toNat) → s.1 3 - i < (m : Int) → eg_E k gX8_alone 5 0 0 n (enc k y1 X) [vR k 0, vI a, vI i] [] 29 (eg_p k (some (vI (A_alone s.1 a))) n X (fun z' => FC z z' ∧ IC z' s)) := by
    intro ha m
    induction m with
    | zero => intro i y1 h0 h1 f1 hp1 hm; exfalso; omega
    | succ m ih =>
      intro i y1 h0 h1 f1 hp1 hm
      have ap := alIt_p (q := a) hV1.2.2 i.toNat (by omega)
      have c7b : y1 (13 + 7) 3 = s.1 3 := by rw [hp1.2.1.2.2.2, ap.2 3 (by omega)]
      refine eg_iload_n dX8_alone_29 rfl ?_
      refine eg_al_n dX8_alone_30 rfl rfl ?_
      refine eg_get fl_X8_16 dX8_alone_31 (by first | exact er0 | exact ep0 hb | exact ep1 hb | exact ep3 hb | exact ep5 hb | exact ep7 hb | exact er25 | exact er34 | exact er181 | exact er182 | exact er196 | exact er199 | exact er156 | exact ep0 isB_13 | exact ep1 isB_13 | exact ep3 isB_13 | exact ep5 isB_13 | exact ep7 isB_13 | exact er26 | exact er27 | exact er28 | exact ep9 hb | exact ep10 hb | exact ep0 (isB_shelf _ (by omega))) rfl ?_
      refine eg_get fl_X8_108 dX8_alone_34 (by first | exact er0 | exact ep0 hb | exact ep1 hb | exact ep3 hb | exact ep5 hb | exact ep7 hb | exact er25 | exact er34 | exact er181 | exact er182 | exact er196 | exact er199 | exact er156 | exact ep0 isB_13 | exact ep1 isB_13 | exact ep3 isB_13 | exact ep5 isB_13 | exact ep7 isB_13 | exact er26 | exact er27 | exact er28 | exact ep9 hb | exact ep10 hb | exact ep0 (isB_shelf _ (by omega))) rfl ?_
      refine eg_get fl_X8_99 dX8_alone_37 (by first | exact er0 | exact ep0 hb | exact ep1 hb | exact ep3 hb | exact ep5 hb | exact ep7 hb | exact er25 | exact er34 | exact er181 | exact er182 | exact er196 | exact er199 | exact er156 | exact ep0 isB_13 | exact ep1 isB_13 | exact ep3 isB_13 | exact ep5 isB_13 | exact ep7 isB_13 | exact er26 | exact er27 | exact er28 | exact ep9 hb | exact ep10 hb | exact ep0 (isB_shelf _ (by omega))) rfl ?_
      rw [c7b]
      refine eg_icmp_ge 67 dX8_alone_40 ⟨by omega, by omega⟩ ⟨by omega, by omega⟩ rfl (fun h40 => ?_) (fun h40 => ?_)
      · refine eg_al_n dX8_alone_67 rfl rfl ?_
        refine eg_get fl_X8_22 dX8_alone_68 (by first | exact er0 | exact ep0 hb | exact ep1 hb | exact ep3 hb | exact ep5 hb | exact ep7 hb | exact er25 | exact er34 | exact er181 | exact er182 | exact er196 | exact er199 | exact er156 | exact ep0 isB_13 | exact ep1 isB_13 | exact ep3 isB_13 | exact ep5 isB_13 | exact ep7 isB_13 | exact er26 | exact er27 | exact er28 | exact ep9 hb | exact ep10 hb | exact ep0 (isB_shelf _ (by omega))) rfl ?_
        refine eg_al_n dX8_alone_71 rfl rfl ?_
        refine eg_get fl_X8_16 dX8_alone_72 (by first | exact er0 | exact ep0 hb | exact ep1 hb | exact ep3 hb | exact ep5 hb | exact ep7 hb | exact er25 | exact er34 | exact er181 | exact er182 | exact er196 | exact er199 | exact er156 | exact ep0 isB_13 | exact ep1 isB_13 | exact ep3 isB_13 | exact ep5 isB_13 | exact ep7 isB_13 | exact er26 | exact er27 | exact er28 | exact ep9 hb | exact ep10 hb | exact ep0 (isB_shelf _ (by omega))) rfl ?_
        refine eg_Vpv1 cs_X8_198 dX8_alone_75 (c_X4_make isB_13 hp1 ap.1.1 ap.1.2.1) (by first | exact er0 | exact ep0 hb | exact ep1 hb | exact ep3 hb | exact ep5 hb | exact ep7 hb | exact er25 | exact er34 | exact er181 | exact er182 | exact er196 | exact er199 | exact er156 | exact ep0 isB_13 | exact ep1 isB_13 | exact ep3 isB_13 | exact ep5 isB_13 | exact ep7 isB_13 | exact er26 | exact er27 | exact er28 | exact ep9 hb | exact ep10 hb | exact ep0 (isB_shelf _ (by omega))) rfl (Nat.le_of_ble_eq_true rfl) (by decide) ?_
        rintro y3 ⟨m3, s3, f3⟩
        refine eg_al_n dX8_alone_78 rfl rfl ?_
        refine eg_get fl_X8_22 dX8_alone_79 (by first | exact er0 | exact ep0 hb | exact ep1 hb | exact ep3 hb | exact ep5 hb | exact ep7 hb | exact er25 | exact er34 | exact er181 | exact er182 | exact er196 | exact er199 | exact er156 | exact ep0 isB_13 | exact ep1 isB_13 | exact ep3 isB_13 | exact ep5 isB_13 | exact ep7 isB_13 | exact er26 | exact er27 | exact er28 | exact ep9 hb | exact ep10 hb | exact ep0 (isB_shelf _ (by omega))) rfl ?_
        refine eg_iload_n dX8_alone_82 rfl ?_
        refine eg_Vf1 cs_X8_220 dX8_alone_83 (c_X4_of (by omega) (by omega)) (by first | exact er0 | exact ep0 hb | exact ep1 hb | exact ep3 hb | exact ep5 hb | exact ep7 hb | exact er25 | exact er34 | exact er181 | exact er182 | exact er196 | exact er199 | exact er156 | exact ep0 isB_13 | exact ep1 isB_13 | exact ep3 isB_13 | exact ep5 isB_13 | exact ep7 isB_13 | exact er26 | exact er27 | exact er28 | exact ep9 hb | exact ep10 hb | exact ep0 (isB_shelf _ (by omega))) rfl (Nat.le_of_ble_eq_true rfl) (by decide) ?_
        refine eg_ireturn dX8_alone_86 rfl rfl ?_
        rw [(s3.2.2.1 a (by omega) (by rw [ap.2 3 (by omega)]; omega)).1, show i = s.1 3 by omega]
        refine ⟨congrArg (fun q => some (vI q)) ?_, rfl, y3, rfl, (f1.tr (Fr.s m3)).fc, (f1.tr (Fr.s m3)).ic hI⟩
        unfold A_alone; (repeat (first | rw [if_pos (by first | assumption | omega)] | rw [if_neg (by first | assumption | omega)]))
      · refine eg_iload_n dX8_alone_43 rfl ?_
        refine eg_iload_n dX8_alone_44 rfl ?_
        refine eg_icmp_eq 61 dX8_alone_45 ⟨by omega, by omega⟩ ⟨by omega, by omega⟩ rfl (fun h45 => ?_) (fun h45 => ?_)
        · refine eg_iinc dX8_alone_61 rfl rfl rfl ?_
          refine eg_goto 29 dX8_alone_64 rfl ?_
          first
            | (refine ih (i + 1) y2 (by omega) (by omega) (f1.tr (Fr.t m2)) ?_ (by omega)
               rw [alIt_s h0, if_neg (by omega)]; exact hp2)
            | (refine ih (i + 1) y1 (by omega) (by omega) f1 ?_ (by omega)
               rw [alIt_s h0, if_pos (by omega)]; exact hp1)
        · refine eg_al_n dX8_alone_48 rfl rfl ?_
          refine eg_get fl_X8_16 dX8_alone_49 (by first | exact er0 | exact ep0 hb | exact ep1 hb | exact ep3 hb | exact ep5 hb | exact ep7 hb | exact er25 | exact er34 | exact er181 | exact er182 | exact er196 | exact er199 | exact er156 | exact ep0 isB_13 | exact ep1 isB_13 | exact ep3 isB_13 | exact ep5 isB_13 | exact ep7 isB_13 | exact er26 | exact er27 | exact er28 | exact ep9 hb | exact ep10 hb | exact ep0 (isB_shelf _ (by omega))) rfl ?_
          refine eg_get fl_X8_108 dX8_alone_52 (by first | exact er0 | exact ep0 hb | exact ep1 hb | exact ep3 hb | exact ep5 hb | exact ep7 hb | exact er25 | exact er34 | exact er181 | exact er182 | exact er196 | exact er199 | exact er156 | exact ep0 isB_13 | exact ep1 isB_13 | exact ep3 isB_13 | exact ep5 isB_13 | exact ep7 isB_13 | exact er26 | exact er27 | exact er28 | exact ep9 hb | exact ep10 hb | exact ep0 (isB_shelf _ (by omega))) rfl ?_
          refine eg_iload_n dX8_alone_55 rfl ?_
          refine eg_iconst dX8_alone_56 ?_
          refine eg_iconst dX8_alone_57 ?_
          refine eg_Vpv3 cs_X8_129 dX8_alone_58 (nm_putQ isB_13 hp1 ap.1.1 (by omega) (by rw [ap.2 3 (by omega)]; omega) (by omega) (by omega)) (by first | exact er0 | exact ep0 hb | exact ep1 hb | exact ep3 hb | exact ep5 hb | exact ep7 hb | exact er25 | exact er34 | exact er181 | exact er182 | exact er196 | exact er199 | exact er156 | exact ep0 isB_13 | exact ep1 isB_13 | exact ep3 isB_13 | exact ep5 isB_13 | exact ep7 isB_13 | exact er26 | exact er27 | exact er28 | exact ep9 hb | exact ep10 hb | exact ep0 (isB_shelf _ (by omega))) rfl (Nat.le_of_ble_eq_true rfl) (by decide) ?_
          rintro y2 ⟨m2, l2, hp2⟩
          refine eg_iinc dX8_alone_61 rfl rfl rfl ?_
          refine eg_goto 29 dX8_alone_64 rfl ?_
          first
            | (refine ih (i + 1) y2 (by omega) (by omega) (f1.tr (Fr.t m2)) ?_ (by omega)
               rw [alIt_s h0, if_neg (by omega)]; exact hp2)
            | (refine ih (i + 1) y1 (by omega) (by omega) f1 ?_ (by omega)
               rw [alIt_s h0, if_pos (by omega)]; exact hp1)
  refine eg_al_n dX8_alone_0 rfl rfl ?_
  refine eg_get fl_X8_12 dX8_alone_1 (by first | exact er0 | exact ep0 hb | exact ep1 hb | exact ep3 hb | exact ep5 hb | exact ep7 hb | exact er25 | exact er34 | exact er181 | exact er182 | exact er196 | exact er199 | exact er156 | exact ep0 isB_13 | exact ep1 isB_13 | exact ep3 isB_13 | exact ep5 isB_13 | exact ep7 isB_13 | exact er26 | exact er27 | exact er28 | exact ep9 hb | exact ep10 hb | exact ep0 (isB_shelf _ (by omega))) rfl ?_
  refine eg_get fl_X8_108 dX8_alone_4 (by first | exact er0 | exact ep0 hb | exact ep1 hb | exact ep3 hb | exact ep5 hb | exact ep7 hb | exact er25 | exact er34 | exact er181 | exact er182 | exact er196 | exact er199 | exact er156 | exact ep0 isB_13 | exact ep1 isB_13 | exact ep3 isB_13 | exact ep5 isB_13 | exact ep7 isB_13 | exact er26 | exact er27 | exact er28 | exact ep9 hb | exact ep10 hb | exact ep0 (isB_shelf _ (by omega))) rfl ?_
  refine eg_iload_n dX8_alone_7 rfl ?_
  refine eg_Vf1 cs_X8_121 dX8_alone_8 (nm_has hb hp hv r_a) (by first | exact er0 | exact ep0 hb | exact ep1 hb | exact ep3 hb | exact ep5 hb | exact ep7 hb | exact er25 | exact er34 | exact er181 | exact er182 | exact er196 | exact er199 | exact er156 | exact ep0 isB_13 | exact ep1 isB_13 | exact ep3 isB_13 | exact ep5 isB_13 | exact ep7 isB_13 | exact er26 | exact er27 | exact er28 | exact ep9 hb | exact ep10 hb | exact ep0 (isB_shelf _ (by omega))) rfl (Nat.le_of_ble_eq_true rfl) (by decide) ?_
  refine eg_bi_ne 16 dX8_alone_11 rfl (fun h11 => ?_) (fun h11 => ?_)
  · refine eg_al_n dX8_alone_16 rfl rfl ?_
    refine eg_get fl_X8_16 dX8_alone_17 (by first | exact er0 | exact ep0 hb | exact ep1 hb | exact ep3 hb | exact ep5 hb | exact ep7 hb | exact er25 | exact er34 | exact er181 | exact er182 | exact er196 | exact er199 | exact er156 | exact ep0 isB_13 | exact ep1 isB_13 | exact ep3 isB_13 | exact ep5 isB_13 | exact ep7 isB_13 | exact er26 | exact er27 | exact er28 | exact ep9 hb | exact ep10 hb | exact ep0 (isB_shelf _ (by omega))) rfl ?_
    refine eg_al_n dX8_alone_20 rfl rfl ?_
    refine eg_get fl_X8_12 dX8_alone_21 (by first | exact er0 | exact ep0 hb | exact ep1 hb | exact ep3 hb | exact ep5 hb | exact ep7 hb | exact er25 | exact er34 | exact er181 | exact er182 | exact er196 | exact er199 | exact er156 | exact ep0 isB_13 | exact ep1 isB_13 | exact ep3 isB_13 | exact ep5 isB_13 | exact ep7 isB_13 | exact er26 | exact er27 | exact er28 | exact ep9 hb | exact ep10 hb | exact ep0 (isB_shelf _ (by omega))) rfl ?_
    refine eg_Vpv1 cs_X8_88 dX8_alone_24 (bec isB_13 hb (by omega) hV1) (by first | exact er0 | exact ep0 hb | exact ep1 hb | exact ep3 hb | exact ep5 hb | exact ep7 hb | exact er25 | exact er34 | exact er181 | exact er182 | exact er196 | exact er199 | exact er156 | exact ep0 isB_13 | exact ep1 isB_13 | exact ep3 isB_13 | exact ep5 isB_13 | exact ep7 isB_13 | exact er26 | exact er27 | exact er28 | exact ep9 hb | exact ep10 hb | exact ep0 (isB_shelf _ (by omega))) rfl (Nat.le_of_ble_eq_true rfl) (by decide) ?_
    rintro y1 ⟨m1, v1⟩
    refine eg_iconst dX8_alone_27 ?_
    refine eg_istore_n dX8_alone_28 rfl rfl rfl ?_
    exact L (by omega) 17 0 y1 (by omega) (by omega) (Fr.t m1) v1.1 (by omega)
  · refine eg_iconst dX8_alone_14 ?_
    refine eg_ireturn dX8_alone_15 rfl rfl ?_
    refine ⟨congrArg (fun q => some (vI q)) ?_, rfl, z, rfl, (Fr.rf).fc, (Fr.rf).ic hI⟩
    unfold A_alone; (repeat (first | rw [if_pos (by first | assumption | omega)] | rw [if_neg (by first | assumption | omega)]))
theorem p_worst {k : eg_K} {z : eg_Z} {X : eg_M} {n : Nat} {s : eg_S} (hI : IC z s) : eg_P k gX8_worst 5 0 0 [vR k 0] n (enc k z X) (eg_p k (some (vI (A_worst s.1))) n X (fun z' => FC z z' ∧ IC z' s)) := by
  refine eg_P.of (by decide) (Nat.le_of_ble_eq_true rfl) ?_
  show eg_E k gX8_worst 5 0 0 n (enc k z X) [vR k 0, vU, vU, vU, vU] [] 0 _
  obtain ⟨hV1, hHi, ⟨hkb, hsh⟩, hT, hTl, hTb⟩ := id hI
  have hb := isB_1
  have hp := hV1.1
  have hv := hV1.2.2.1
  have q := hv.r.2
  obtain ⟨⟨z0, z1, z2, z3⟩, ⟨c1, c3, c5, c7⟩, -⟩ := id hp
  have L : 0 < s.1 0 → ∀ (y1 : eg_Z), Fr z y1 → SJ s.1 10 y1 → hP y1 1 s.1 → ∀ (m : Nat) (i : Int) (w4 : Value), 0 ≤ i → i ≤ s.1 2 → s.1 2 - i < (m : Int) → eg_E k gX8_worst 5 0 0 n (enc k y1 X) [vR k 0, vI (woF s.1 i.toNat), vI (if woF s.1 i.toNat = -2 then 1000 else shR s.1 (SS s.1 10) (woF s.1 i.toNat)), vI i, w4] [] 32 (eg_p k (some (vI (A_worst s.1))) n X (fun z' => FC z z' ∧ IC z' s)) := by
    intro ht y1 f9 s1 hp1 m
    have c5b := hp1.2.1.2.2.1
    induction m with
    | zero => intro i w4 h0 h1 hm; exfalso; omega
    | succ m ih =>
      intro i w4 h0 h1 hm
      have wb := woF_b (v := s.1) i.toNat
      refine eg_iload_n dX8_worst_32 rfl ?_
      refine eg_al_n dX8_worst_33 rfl rfl ?_
      refine eg_get fl_X8_12 dX8_worst_34 (by first | exact er0 | exact ep0 hb | exact ep1 hb | exact ep3 hb | exact ep5 hb | exact ep7 hb | exact er25 | exact er34 | exact er181 | exact er182 | exact er196 | exact er199 | exact er156 | exact ep0 isB_13 | exact ep1 isB_13 | exact ep3 isB_13 | exact ep5 isB_13 | exact ep7 isB_13 | exact er26 | exact er27 | exact er28 | exact ep9 hb | exact ep10 hb | exact ep0 (isB_shelf _ (by omega))) rfl ?_
      refine eg_get fl_X8_146 dX8_worst_37 (by first | exact er0 | exact ep0 hb | exact ep1 hb | exact ep3 hb | exact ep5 hb | exact ep7 hb | exact er25 | exact er34 | exact er181 | exact er182 | exact er196 | exact er199 | exact er156 | exact ep0 isB_13 | exact ep1 isB_13 | exact ep3 isB_13 | exact ep5 isB_13 | exact ep7 isB_13 | exact er26 | exact er27 | exact er28 | exact ep9 hb | exact ep10 hb | exact ep0 (isB_shelf _ (by omega))) rfl ?_
      refine eg_get fl_X8_99 dX8_worst_40 (by first | exact er0 | exact ep0 hb | exact ep1 hb | exact ep3 hb | exact ep5 hb | exact ep7 hb | exact er25 | exact er34 | exact er181 | exact er182 | exact er196 | exact er199 | exact er156 | exact ep0 isB_13 | exact ep1 isB_13 | exact ep3 isB_13 | exact ep5 isB_13 | exact ep7 isB_13 | exact er26 | exact er27 | exact er28 | exact ep9 hb | exact ep10 hb | exact ep0 (isB_shelf _ (by omega))) rfl ?_
      rw [c5b]
      refine eg_icmp_ge 95 dX8_worst_43 ⟨by omega, by omega⟩ ⟨by omega, by omega⟩ rfl (fun h43 => ?_) (fun h43 => ?_)
      · refine eg_iload_n dX8_worst_95 rfl ?_
        refine eg_ireturn dX8_worst_96 rfl rfl ?_
        rw [show i.toNat = (s.1 2).toNat by omega]
        refine ⟨congrArg (fun q => some (vI q)) ?_, rfl, y1, rfl, (f9).fc, (f9).ic hI⟩
        unfold A_worst; rw [if_pos (by omega)]
      · refine eg_al_n dX8_worst_46 rfl rfl ?_
        refine eg_get fl_X8_12 dX8_worst_47 (by first | exact er0 | exact ep0 hb | exact ep1 hb | exact ep3 hb | exact ep5 hb | exact ep7 hb | exact er25 | exact er34 | exact er181 | exact er182 | exact er196 | exact er199 | exact er156 | exact ep0 isB_13 | exact ep1 isB_13 | exact ep3 isB_13 | exact ep5 isB_13 | exact ep7 isB_13 | exact er26 | exact er27 | exact er28 | exact ep9 hb | exact ep10 hb | exact ep0 (isB_shelf _ (by omega))) rfl ?_
        refine eg_iload_n dX8_worst_50 rfl ?_
        refine eg_Vf1 cs_X8_270 dX8_worst_51 (c_X2_nominatedBy hb hp1 hv ⟨by omega, by omega⟩) (by first | exact er0 | exact ep0 hb | exact ep1 hb | exact ep3 hb | exact ep5 hb | exact ep7 hb | exact er25 | exact er34 | exact er181 | exact er182 | exact er196 | exact er199 | exact er156 | exact ep0 isB_13 | exact ep1 isB_13 | exact ep3 isB_13 | exact ep5 isB_13 | exact ep7 isB_13 | exact er26 | exact er27 | exact er28 | exact ep9 hb | exact ep10 hb | exact ep0 (isB_shelf _ (by omega))) rfl (Nat.le_of_ble_eq_true rfl) (by decide) ?_
        have nb := sNom_b hv i
        refine eg_if_ne 60 dX8_worst_54 ⟨by omega, by omega⟩ rfl (fun h54 => ?_) (fun h54 => ?_)
        · refine eg_al_n dX8_worst_60 rfl rfl ?_
          refine eg_get fl_X8_22 dX8_worst_61 (by first | exact er0 | exact ep0 hb | exact ep1 hb | exact ep3 hb | exact ep5 hb | exact ep7 hb | exact er25 | exact er34 | exact er181 | exact er182 | exact er196 | exact er199 | exact er156 | exact ep0 isB_13 | exact ep1 isB_13 | exact ep3 isB_13 | exact ep5 isB_13 | exact ep7 isB_13 | exact er26 | exact er27 | exact er28 | exact ep9 hb | exact ep10 hb | exact ep0 (isB_shelf _ (by omega))) rfl ?_
          refine eg_al_n dX8_worst_64 rfl rfl ?_
          refine eg_get fl_X8_12 dX8_worst_65 (by first | exact er0 | exact ep0 hb | exact ep1 hb | exact ep3 hb | exact ep5 hb | exact ep7 hb | exact er25 | exact er34 | exact er181 | exact er182 | exact er196 | exact er199 | exact er156 | exact ep0 isB_13 | exact ep1 isB_13 | exact ep3 isB_13 | exact ep5 isB_13 | exact ep7 isB_13 | exact er26 | exact er27 | exact er28 | exact ep9 hb | exact ep10 hb | exact ep0 (isB_shelf _ (by omega))) rfl ?_
          refine eg_iload_n dX8_worst_68 rfl ?_
          refine eg_Vf2 cs_X8_273 dX8_worst_69 (c_X4_share hb hp1 hv ⟨by omega, by omega⟩ s1.1 (okpS hv hV1.2.2.2.1) (fun q9 g0 g1 => (s1.2.2.1 q9 g0 g1).1)) (by first | exact er0 | exact ep0 hb | exact ep1 hb | exact ep3 hb | exact ep5 hb | exact ep7 hb | exact er25 | exact er34 | exact er181 | exact er182 | exact er196 | exact er199 | exact er156 | exact ep0 isB_13 | exact ep1 isB_13 | exact ep3 isB_13 | exact ep5 isB_13 | exact ep7 isB_13 | exact er26 | exact er27 | exact er28 | exact ep9 hb | exact ep10 hb | exact ep0 (isB_shelf _ (by omega))) rfl (Nat.le_of_ble_eq_true rfl) (by decide) ?_
          refine eg_istore dX8_worst_72 rfl rfl rfl ?_
          have sb := shR_b hv (okpS hv hV1.2.2.2.1) i
          have sb2 := shR_b hv (okpS hv hV1.2.2.2.1) (woF s.1 i.toNat)
          have sb3 : 0 ≤ (if woF s.1 i.toNat = -2 then 1000 else shR s.1 (SS s.1 10) (woF s.1 i.toNat)) ∧ (if woF s.1 i.toNat = -2 then 1000 else shR s.1 (SS s.1 10) (woF s.1 i.toNat)) ≤ 159984000 := by split <;> omega
          refine eg_iload_n dX8_worst_74 rfl ?_
          refine eg_if_lt 84 dX8_worst_75 ⟨by omega, by omega⟩ rfl (fun h75 => ?_) (fun h75 => ?_)
          · refine eg_iload_n dX8_worst_84 rfl ?_
            refine eg_istore_n dX8_worst_85 rfl rfl rfl ?_
            refine eg_iload dX8_worst_86 rfl ?_
            refine eg_istore_n dX8_worst_88 rfl rfl rfl ?_
            refine eg_iinc dX8_worst_89 rfl rfl rfl ?_
            refine eg_goto 32 dX8_worst_92 rfl ?_
            have := fun w => ih (i + 1) w (by omega) (by omega) (by omega)
            have ws := woF_s (v := s.1) h0
            first
              | (rw [if_pos ⟨by omega, by first | (left; omega) | (right; rw [if_neg (by omega)] at h81; omega)⟩] at ws; rw [ws, if_neg (by omega)] at this; exact this _)
              | (rw [if_neg (fun hh => absurd hh.1 (by omega))] at ws; rw [ws] at this; exact this _)
              | (rw [if_neg (fun hh => by rw [if_neg (by omega)] at h81; have := hh.2; omega)] at ws; rw [ws] at this; exact this _)
          · refine eg_iload dX8_worst_78 rfl ?_
            refine eg_iload_n dX8_worst_80 rfl ?_
            refine eg_icmp_ge 89 dX8_worst_81 ⟨by omega, by omega⟩ ⟨by omega, by omega⟩ rfl (fun h81 => ?_) (fun h81 => ?_)
            · refine eg_iinc dX8_worst_89 rfl rfl rfl ?_
              refine eg_goto 32 dX8_worst_92 rfl ?_
              have := fun w => ih (i + 1) w (by omega) (by omega) (by omega)
              have ws := woF_s (v := s.1) h0
              first
                | (rw [if_pos ⟨by omega, by first | (left; omega) | (right; rw [if_neg (by omega)] at h81; omega)⟩] at ws; rw [ws, if_neg (by omega)] at this; exact this _)
                | (rw [if_neg (fun hh => absurd hh.1 (by omega))] at ws; rw [ws] at this; exact this _)
                | (rw [if_neg (fun hh => by rw [if_neg (by omega)] at h81; have := hh.2; omega)] at ws; rw [ws] at this; exact this _)
            · refine eg_iload_n dX8_worst_84 rfl ?_
              refine eg_istore_n dX8_worst_85 rfl rfl rfl ?_
              refine eg_iload dX8_worst_86 rfl ?_
              refine eg_istore_n dX8_worst_88 rfl rfl rfl ?_
              refine eg_iinc dX8_worst_89 rfl rfl rfl ?_
              refine eg_goto 32 dX8_worst_92 rfl ?_
              have := fun w => ih (i + 1) w (by omega) (by omega) (by omega)
              have ws := woF_s (v := s.1) h0
              first
                | (rw [if_pos ⟨by omega, by first | (left; omega) | (right; rw [if_neg (by omega)] at h81; omega)⟩] at ws; rw [ws, if_neg (by omega)] at this; exact this _)
                | (rw [if_neg (fun hh => absurd hh.1 (by omega))] at ws; rw [ws] at this; exact this _)
                | (rw [if_neg (fun hh => by rw [if_neg (by omega)] at h81; have := hh.2; omega)] at ws; rw [ws] at this; exact this _)
        · refine eg_goto 89 dX8_worst_57 rfl ?_
          refine eg_iinc dX8_worst_89 rfl rfl rfl ?_
          refine eg_goto 32 dX8_worst_92 rfl ?_
          have := fun w => ih (i + 1) w (by omega) (by omega) (by omega)
          have ws := woF_s (v := s.1) h0
          first
            | (rw [if_pos ⟨by omega, by first | (left; omega) | (right; rw [if_neg (by omega)] at h81; omega)⟩] at ws; rw [ws, if_neg (by omega)] at this; exact this _)
            | (rw [if_neg (fun hh => absurd hh.1 (by omega))] at ws; rw [ws] at this; exact this _)
            | (rw [if_neg (fun hh => by rw [if_neg (by omega)] at h81; have := hh.2; omega)] at ws; rw [ws] at this; exact this _)
  refine eg_al_n dX8_worst_0 rfl rfl ?_
  refine eg_get fl_X8_12 dX8_worst_1 (by first | exact er0 | exact ep0 hb | exact ep1 hb | exact ep3 hb | exact ep5 hb | exact ep7 hb | exact er25 | exact er34 | exact er181 | exact er182 | exact er196 | exact er199 | exact er156 | exact ep0 isB_13 | exact ep1 isB_13 | exact ep3 isB_13 | exact ep5 isB_13 | exact ep7 isB_13 | exact er26 | exact er27 | exact er28 | exact ep9 hb | exact ep10 hb | exact ep0 (isB_shelf _ (by omega))) rfl ?_
  refine eg_Vf0 cs_X8_170 dX8_worst_4 (c_X2_isThere hb hp hv) (by first | exact er0 | exact ep0 hb | exact ep1 hb | exact ep3 hb | exact ep5 hb | exact ep7 hb | exact er25 | exact er34 | exact er181 | exact er182 | exact er196 | exact er199 | exact er156 | exact ep0 isB_13 | exact ep1 isB_13 | exact ep3 isB_13 | exact ep5 isB_13 | exact ep7 isB_13 | exact er26 | exact er27 | exact er28 | exact ep9 hb | exact ep10 hb | exact ep0 (isB_shelf _ (by omega))) rfl (Nat.le_of_ble_eq_true rfl) (by decide) ?_
  refine eg_bi_ne 12 dX8_worst_7 rfl (fun h7 => ?_) (fun h7 => ?_)
  · refine eg_al_n dX8_worst_12 rfl rfl ?_
    refine eg_get fl_X8_22 dX8_worst_13 (by first | exact er0 | exact ep0 hb | exact ep1 hb | exact ep3 hb | exact ep5 hb | exact ep7 hb | exact er25 | exact er34 | exact er181 | exact er182 | exact er196 | exact er199 | exact er156 | exact ep0 isB_13 | exact ep1 isB_13 | exact ep3 isB_13 | exact ep5 isB_13 | exact ep7 isB_13 | exact er26 | exact er27 | exact er28 | exact ep9 hb | exact ep10 hb | exact ep0 (isB_shelf _ (by omega))) rfl ?_
    refine eg_al_n dX8_worst_16 rfl rfl ?_
    refine eg_get fl_X8_12 dX8_worst_17 (by first | exact er0 | exact ep0 hb | exact ep1 hb | exact ep3 hb | exact ep5 hb | exact ep7 hb | exact er25 | exact er34 | exact er181 | exact er182 | exact er196 | exact er199 | exact er156 | exact ep0 isB_13 | exact ep1 isB_13 | exact ep3 isB_13 | exact ep5 isB_13 | exact ep7 isB_13 | exact er26 | exact er27 | exact er28 | exact ep9 hb | exact ep10 hb | exact ep0 (isB_shelf _ (by omega))) rfl ?_
    refine eg_Vpv1 cs_X8_198 dX8_worst_20 (c_X4_make hb hp hv hV1.2.2.2.1) (by first | exact er0 | exact ep0 hb | exact ep1 hb | exact ep3 hb | exact ep5 hb | exact ep7 hb | exact er25 | exact er34 | exact er181 | exact er182 | exact er196 | exact er199 | exact er156 | exact ep0 isB_13 | exact ep1 isB_13 | exact ep3 isB_13 | exact ep5 isB_13 | exact ep7 isB_13 | exact er26 | exact er27 | exact er28 | exact ep9 hb | exact ep10 hb | exact ep0 (isB_shelf _ (by omega))) rfl (Nat.le_of_ble_eq_true rfl) (by decide) ?_
    rintro y1 ⟨m1, s1, f1⟩
    refine eg_bipush dX8_worst_23 (by decide) ?_
    refine eg_istore_n dX8_worst_25 rfl rfl rfl ?_
    refine eg_sipush dX8_worst_26 (by decide) ?_
    refine eg_istore_n dX8_worst_29 rfl rfl rfl ?_
    refine eg_iconst dX8_worst_30 ?_
    refine eg_istore_n dX8_worst_31 rfl rfl rfl ?_
    exact L (by omega) y1 (Fr.s m1) s1 (m1.hP hb hp) 7 0 vU (by omega) (by omega) (by omega)
  · refine eg_iconst dX8_worst_10 ?_
    refine eg_ireturn dX8_worst_11 rfl rfl ?_
    refine ⟨congrArg (fun q => some (vI q)) ?_, rfl, z, rfl, (Fr.rf).fc, (Fr.rf).ic hI⟩
    unfold A_worst; (repeat (first | rw [if_pos (by first | assumption | omega)] | rw [if_neg (by first | assumption | omega)]))
