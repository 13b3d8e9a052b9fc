/-- how many balances are not 0 -/
def nzI (f : Nat → Int) (i : Int) : Int := if f i.toNat = 0 then 0 else 1
def nz (f : Nat → Int) : Int := sm (nzI f) 6
theorem nz_0 (f : Nat → Int) : 0 ≤ nz f := (sm_b (K := 1) (fun i _ _ => by unfold nzI; split <;> omega)).1
theorem nz_t {f : Nat → Int} (h : ¬ (ngF f = -1 ∨ nlF f = -1)) : nz (trV f) < nz f := by
  obtain ⟨a, b, c, d, e, g⟩ := trd h
  have le : ∀ i : Int, 0 ≤ i → i < (6 : Nat) → nzI (trV f) i ≤ nzI f i := fun i h0 h1 => by
    unfold nzI
    by_cases e1 : f i.toNat = 0
    · have e2 : trV f i.toNat = f i.toNat := by
        unfold trV
        rw [va_up_n _ _ (fun e => by rw [e] at e1; omega), va_up_n _ _ (fun e => by rw [e] at e1; omega)]
      rw [if_pos e1, if_pos (by rw [e2]; exact e1)]
      omega
    · rw [if_neg e1]; split <;> omega
  unfold nz
  by_cases m : f (ngF f).toNat ≤ -f (nlF f).toNat
  · have na : naF f = f (ngF f).toNat := by unfold naF mn; split <;> omega
    refine sm_lt (j := ngF f) a.1 ?_ le (by omega)
    unfold nzI
    rw [if_neg (show ¬ f (ngF f).toNat = 0 by omega), if_pos ?_]
    · decide
    · unfold trV
      rw [va_up_n _ _ c, va_up_s]
      omega
  · have na : naF f = -f (nlF f).toNat := by unfold naF mn; split <;> omega
    refine sm_lt (j := nlF f) b.1 ?_ le (by omega)
    unfold nzI
    rw [if_neg (show ¬ f (nlF f).toNat = 0 by omega), if_pos ?_]
    · decide
    · unfold trV
      rw [va_up_s]
      omega
/-- the row after trades -/
def ntV (v : eg_v) : Nat → eg_v
  | 0 => v
  | j + 1 => mvV (ntV v j) (ngF (ntF (blV v) j)) (nlF (ntF (blV v) j)) 4 (naF (ntF (blV v) j))
theorem mv_i {v : eg_v} {a b n : Int} (ha : 0 ≤ a ∧ a < 6) (hb : 0 ≤ b ∧ b < 6) {i : Nat} (h : i < 66 ∨ 108 ≤ i) : mvV v a b 4 n i = v i := by
  unfold mvV
  rw [va_up_n _ _ (by omega), va_up_n _ _ (by omega)]
/-- ntV and ntF go together -/
theorem ntV_p {v : eg_v} (h2 : 0 ≤ v 2 ∧ v 2 ≤ 6) : ∀ j : Nat, (∀ m, m < j → ¬ (ngF (ntF (blV v) m) = -1 ∨ nlF (ntF (blV v) m) = -1)) → (∀ i : Nat, i < 66 ∨ 108 ≤ i → ntV v j i = v i) ∧ (∀ i : Nat, (i : Int) < v 2 → gH (ntV v j) i 4 = ntF (blV v) j i) ∧ (∀ i : Nat, v 2 ≤ (i : Int) → i < 6 → ntF (blV v) j i = 0)
  | 0, _ => ⟨fun _ _ => rfl, fun i hi => by show gH v i 4 = (if (i : Int) < v 2 then gH v i 4 else 0); rw [if_pos hi], fun i hi _ => by show (if (i : Int) < v 2 then gH v i 4 else 0) = 0; rw [if_neg (by omega)]⟩
  | j + 1, h => by
    obtain ⟨p1, p2, p3⟩ := ntV_p h2 j (fun m hm => h m (by omega))
    obtain ⟨a, b, c, d, e, g⟩ := trd (h j (by omega))
    have ga : ngF (ntF (blV v) j) < v 2 := by
      by_cases q : ngF (ntF (blV v) j) < v 2
      · exact q
      · have := p3 (ngF (ntF (blV v) j)).toNat (by omega) (by omega); omega
    have gb9 : nlF (ntF (blV v) j) < v 2 := by
      by_cases q : nlF (ntF (blV v) j) < v 2
      · exact q
      · have := p3 (nlF (ntF (blV v) j)).toNat (by omega) (by omega); omega
    refine ⟨fun i hi => ?_, fun i hi => ?_, fun i hi h6 => ?_⟩
    · show mvV (ntV v j) _ _ 4 _ i = v i
      rw [mv_i ⟨a.1, by omega⟩ ⟨b.1, by omega⟩ hi]
      exact p1 i hi
    · show gH (mvV (ntV v j) (ngF (ntF (blV v) j)) (nlF (ntF (blV v) j)) 4 (naF (ntF (blV v) j))) i 4 = trV (ntF (blV v) j) i
      have ei := p2 i hi
      have eg := p2 (ngF (ntF (blV v) j)).toNat (by omega)
      have el := p2 (nlF (ntF (blV v) j)).toNat (by omega)
      rw [show (((ngF (ntF (blV v) j)).toNat : Nat) : Int) = ngF (ntF (blV v) j) by omega] at eg
      rw [show (((nlF (ntF (blV v) j)).toNat : Nat) : Int) = nlF (ntF (blV v) j) by omega] at el
      unfold mvV trV
      rw [gH_i b.1 (by omega) (by omega) (by omega) (by omega) (by omega), gH_i a.1 (by omega) (by omega) b.1 (by omega) (by omega), gH_i a.1 (by omega) (by omega) (by omega) (by omega) (by omega)]
      by_cases e1 : i = (nlF (ntF (blV v) j)).toNat
      · rw [if_pos (by omega), if_neg (by omega), e1, va_up_s, el]
      · rw [if_neg (by omega), va_up_n _ _ e1]
        by_cases e2 : i = (ngF (ntF (blV v) j)).toNat
        · rw [if_pos (by omega), e2, va_up_s, eg]
        · rw [if_neg (by omega), va_up_n _ _ e2, ei]
    · show trV (ntF (blV v) j) i = 0
      unfold trV
      rw [va_up_n _ _ (by omega), va_up_n _ _ (by omega)]
      exact p3 i hi h6
theorem fsP_cut {f : Nat → Int} {N : Nat} (h : ∀ j : Nat, N ≤ j → ¬ 0 < f j) : ∀ m i : Nat, N ≤ i → fsP f m i = -1
  | 0, i, _ => rfl
  | m + 1, i, hi => by
    show (if 0 < f i then (i : Int) else fsP f m (i + 1)) = -1
    rw [if_neg (h i hi)]
    exact fsP_cut h m (i + 1) (by omega)
theorem nTn_e {f : Nat → Int} {j : Nat} (hj : ngF (ntF f j) = -1 ∨ nlF (ntF f j) = -1) : ∀ m i : Nat, i ≤ j → j ≤ i + m → (∀ x, i ≤ x → x < j → ¬ (ngF (ntF f x) = -1 ∨ nlF (ntF f x) = -1)) → nTn f m i = j
  | 0, i, h0, h1, _ => by show i = j; omega
  | m + 1, i, h0, h1, h => by
    show (if ngF (ntF f i) = -1 ∨ nlF (ntF f i) = -1 then i else nTn f m (i + 1)) = j
    by_cases e : i = j
    · subst e; rw [if_pos hj]
    · rw [if_neg (h i (by omega) (by omega))]
      exact nTn_e hj m (i + 1) (by omega) (by omega) (fun x a b => h x (by omega) b)
theorem fsP_cut6 {f : Nat → Int} {N : Nat} (h : ∀ j : Nat, N ≤ j → j < 6 → ¬ 0 < f j) : ∀ m i : Nat, N ≤ i → i + m ≤ 6 → fsP f m i = -1
  | 0, i, _, _ => rfl
  | m + 1, i, hi, hm => by
    show (if 0 < f i then (i : Int) else fsP f m (i + 1)) = -1
    rw [if_neg (h i hi (by omega))]
    exact fsP_cut6 h m (i + 1) (by omega) (by omega)
theorem c_firstBalp {k : eg_K} {z : eg_Z} {X : eg_M} {n : Nat} {v : eg_v} (hN : nw z v) {f : Nat → Int} (h26 : 0 ≤ v 2 ∧ v 2 ≤ 6) (hf : ∀ i : Nat, (i : Int) < v 2 → gH v i 4 = f i) (h0 : ∀ i : Nat, v 2 ≤ (i : Int) → i < 6 → f i = 0) (hb : ∀ i, i < 6 → -100000000 ≤ f i ∧ f i ≤ 100000000) : eg_P k gX9_firstBalance 1 0 0 [vR k 202, vI (1)] n (enc k z X) (eg_f (some (vI (fsP (f) 6 0))) n (enc k z X)) := by
  refine eg_P.of (by decide) (Nat.le_of_ble_eq_true rfl) ?_
  show eg_E k gX9_firstBalance 1 0 0 n (enc k z X) [vR k 202, vI (1), vU] [] 0 _
  have L1 : ∀ (mm : Nat) (i : Nat), ((i : Int) ≤ v 2) → (fsP (f) (6 - i) i = fsP (f) 6 0) → v 2 - (i : Int) < (mm : Int) → eg_E k gX9_firstBalance 1 0 0 n (enc k z X) [vR k 202, vI (1), vI (i : Int)] [] 2 (eg_f (some (vI (fsP (f) 6 0))) n (enc k z X)) := by
    intro mm
    induction mm with
    | zero => intro i h1 hT hmm; exfalso; omega
    | succ mm ih =>
      intro i h1 hT hmm
      refine eg_iload_n dX9_firstBalance_2 rfl ?_
      refine eg_al_n dX9_firstBalance_3 rfl rfl ?_
      refine eg_iconst dX9_firstBalance_4 ?_
      refine eg_Vf1 cs_X9_179 dX9_firstBalance_5 (many_2 hN) (by first | exact er202 | exact er203 | exact er204 | exact er205 | exact er206 | exact er207 | exact er208 | exact er209 | exact er210 | exact er211 | exact er212 | exact er213 | exact er214 | exact er215) rfl (Nat.le_of_ble_eq_true rfl) (by decide) ?_
      refine eg_icmp_ge 33 dX9_firstBalance_8 ⟨by omega, by omega⟩ ⟨by omega, by omega⟩ rfl (fun h8 => ?_) (fun h8 => ?_)
      · refine eg_iconst dX9_firstBalance_33 ?_
        refine eg_ireturn dX9_firstBalance_34 rfl rfl ?_
        refine ⟨congrArg (fun q => some (vI q)) ?_, rfl, rfl⟩
        rw [← hT]
        exact (fsP_cut6 (f := f) (N := i) (fun j a b => by have := h0 j (by omega) b; omega) _ _ (Nat.le_refl _) (by omega)).symm
      · have hi : (i : Int) < v 2 := by omega
        have bi9 := hb i (by omega)
        refine eg_iload_n dX9_firstBalance_11 rfl ?_
        refine eg_i2l dX9_firstBalance_12 ⟨by omega, by omega⟩ ?_
        refine eg_al_n dX9_firstBalance_13 rfl rfl ?_
        refine eg_iload_n dX9_firstBalance_14 rfl ?_
        refine eg_iconst dX9_firstBalance_15 ?_
        refine eg_Vf2 cs_X9_237 dX9_firstBalance_16 (c_ship hN (by omega) (by omega) (by omega) (by omega)) (by first | exact er202 | exact er203 | exact er204 | exact er205 | exact er206 | exact er207 | exact er208 | exact er209 | exact er210 | exact er211 | exact er212 | exact er213 | exact er214 | exact er215) rfl (Nat.le_of_ble_eq_true rfl) (by decide) ?_
        refine eg_eqL (hf i hi) ?_
        refine eg_lmul dX9_firstBalance_19 ?_
        refine eg_lk0 dX9_firstBalance_20 ?_
        refine eg_lc_le 27 dX9_firstBalance_21 dX9_firstBalance_22 ⟨by omega, by omega⟩ ⟨by omega, by omega⟩ rfl (fun h21 => ?_) (fun h21 => ?_)
        · refine eg_iinc dX9_firstBalance_27 rfl rfl rfl ?_
          refine eg_goto 2 dX9_firstBalance_30 rfl ?_
          refine ih (i + 1) (by omega) ?_ (by omega)
          rw [← hT, show 6 - i = (6 - (i + 1)) + 1 by omega]
          show _ = (if 0 < f i then (i : Int) else _)
          rw [if_neg (by omega)]
        · refine eg_iload_n dX9_firstBalance_25 rfl ?_
          refine eg_ireturn dX9_firstBalance_26 rfl rfl ?_
          refine ⟨congrArg (fun q => some (vI q)) ?_, rfl, rfl⟩
          rw [← hT, show 6 - i = (6 - (i + 1)) + 1 by omega]
          show (i : Int) = (if 0 < f i then (i : Int) else _)
          rw [if_pos (by omega)]
  refine eg_iconst dX9_firstBalance_0 ?_
  refine eg_istore_n dX9_firstBalance_1 rfl rfl rfl ?_
  exact L1 7 0 (by omega) rfl (by omega)
theorem c_firstBaln {k : eg_K} {z : eg_Z} {X : eg_M} {n : Nat} {v : eg_v} (hN : nw z v) {f : Nat → Int} (h26 : 0 ≤ v 2 ∧ v 2 ≤ 6) (hf : ∀ i : Nat, (i : Int) < v 2 → gH v i 4 = f i) (h0 : ∀ i : Nat, v 2 ≤ (i : Int) → i < 6 → f i = 0) (hb : ∀ i, i < 6 → -100000000 ≤ f i ∧ f i ≤ 100000000) : eg_P k gX9_firstBalance 1 0 0 [vR k 202, vI (-1)] n (enc k z X) (eg_f (some (vI (fsP (fun i => -f i) 6 0))) n (enc k z X)) := by
  refine eg_P.of (by decide) (Nat.le_of_ble_eq_true rfl) ?_
  show eg_E k gX9_firstBalance 1 0 0 n (enc k z X) [vR k 202, vI (-1), vU] [] 0 _
  have L1 : ∀ (mm : Nat) (i : Nat), ((i : Int) ≤ v 2) → (fsP (fun i => -f i) (6 - i) i = fsP (fun i => -f i) 6 0) → v 2 - (i : Int) < (mm : Int) → eg_E k gX9_firstBalance 1 0 0 n (enc k z X) [vR k 202, vI (-1), vI (i : Int)] [] 2 (eg_f (some (vI (fsP (fun i => -f i) 6 0))) n (enc k z X)) := by
    intro mm
    induction mm with
    | zero => intro i h1 hT hmm; exfalso; omega
    | succ mm ih =>
      intro i h1 hT hmm
      refine eg_iload_n dX9_firstBalance_2 rfl ?_
      refine eg_al_n dX9_firstBalance_3 rfl rfl ?_
      refine eg_iconst dX9_firstBalance_4 ?_
      refine eg_Vf1 cs_X9_179 dX9_firstBalance_5 (many_2 hN) (by first | exact er202 | exact er203 | exact er204 | exact er205 | exact er206 | exact er207 | exact er208 | exact er209 | exact er210 | exact er211 | exact er212 | exact er213 | exact er214 | exact er215) rfl (Nat.le_of_ble_eq_true rfl) (by decide) ?_
      refine eg_icmp_ge 33 dX9_firstBalance_8 ⟨by omega, by omega⟩ ⟨by omega, by omega⟩ rfl (fun h8 => ?_) (fun h8 => ?_)
      · refine eg_iconst dX9_firstBalance_33 ?_
        refine eg_ireturn dX9_firstBalance_34 rfl rfl ?_
        refine ⟨congrArg (fun q => some (vI q)) ?_, rfl, rfl⟩
        rw [← hT]
        exact (fsP_cut6 (f := fun i => -f i) (N := i) (fun j a b => by have := h0 j (by omega) b; show ¬ 0 < -f j; omega) _ _ (Nat.le_refl _) (by omega)).symm
      · have hi : (i : Int) < v 2 := by omega
        have bi9 := hb i (by omega)
        refine eg_iload_n dX9_firstBalance_11 rfl ?_
        refine eg_i2l dX9_firstBalance_12 ⟨by omega, by omega⟩ ?_
        refine eg_al_n dX9_firstBalance_13 rfl rfl ?_
        refine eg_iload_n dX9_firstBalance_14 rfl ?_
        refine eg_iconst dX9_firstBalance_15 ?_
        refine eg_Vf2 cs_X9_237 dX9_firstBalance_16 (c_ship hN (by omega) (by omega) (by omega) (by omega)) (by first | exact er202 | exact er203 | exact er204 | exact er205 | exact er206 | exact er207 | exact er208 | exact er209 | exact er210 | exact er211 | exact er212 | exact er213 | exact er214 | exact er215) rfl (Nat.le_of_ble_eq_true rfl) (by decide) ?_
        refine eg_eqL (hf i hi) ?_
        refine eg_lmul dX9_firstBalance_19 ?_
        refine eg_lk0 dX9_firstBalance_20 ?_
        refine eg_lc_le 27 dX9_firstBalance_21 dX9_firstBalance_22 ⟨by omega, by omega⟩ ⟨by omega, by omega⟩ rfl (fun h21 => ?_) (fun h21 => ?_)
        · refine eg_iinc dX9_firstBalance_27 rfl rfl rfl ?_
          refine eg_goto 2 dX9_firstBalance_30 rfl ?_
          refine ih (i + 1) (by omega) ?_ (by omega)
          rw [← hT, show 6 - i = (6 - (i + 1)) + 1 by omega]
          show _ = (if 0 < -f i then (i : Int) else _)
          rw [if_neg (by omega)]
        · refine eg_iload_n dX9_firstBalance_25 rfl ?_
          refine eg_ireturn dX9_firstBalance_26 rfl rfl ?_
          refine ⟨congrArg (fun q => some (vI q)) ?_, rfl, rfl⟩
          rw [← hT, show 6 - i = (6 - (i + 1)) + 1 by omega]
          show (i : Int) = (if 0 < -f i then (i : Int) else _)
          rw [if_pos (by omega)]
  refine eg_iconst dX9_firstBalance_0 ?_
  refine eg_istore_n dX9_firstBalance_1 rfl rfl rfl ?_
  exact L1 7 0 (by omega) rfl (by omega)
theorem m_net {k : eg_K} {z : eg_Z} {X : eg_M} {n : Nat} {s : eg_S} (hI : IM z s) (hO : OS s) {a b : Int} (r_a : iR a) (r_b : iR b) : eg_P k gX9_net 2 0 0 [vR k 202, vI a, vI b] n (enc k z X) (eg_p k (some (vI (A_net s.1 a b))) n X (fun z' => FM z z' ∧ IM z' s)) := by
  refine eg_P.of (by decide) (Nat.le_of_ble_eq_true rfl) ?_
  show eg_E k gX9_net 2 0 0 n (enc k z X) [vR k 202, vI a, vI b, vU, vU, vU, vU, vU, vU, vU, vU] [] 0 _
  have hN := hI.1
  have hv := hO.1.1
  have q := hv.r.2
  have hF : ∀ c, c ≠ 203 → z c = z c := fun _ _ => rfl
  have r_a1 := r_a.1; have r_a2 := r_a.2; have r_b1 := r_b.1; have r_b2 := r_b.2
  have J : 0 < s.1 0 → -1 ≤ a → (0 ≤ b ∧ b ≤ 2) → ¬ (a = -1 ∧ b = 1) → ∀ y : eg_Z, nw y s.1 → (∀ c, c ≠ 203 → c ≠ 205 → y c = z c) → (∀ i : Nat, i < 220 → y 205 i = s.1 i) → eg_E k gX9_net 2 0 0 n (enc k y X) [vR k 202, vI a, vI b, vI 0, vL 0, vU, vI (-2), vI (ngF (blV s.1)), vI (nlF (blV s.1)), vU, vU] [] 63 (eg_p k (some (vI (A_net s.1 a b))) n X (fun z' => FM z z' ∧ IM z' s)) := by
    intro ht ha hb hab y hNy hf hA
    have bb : ∀ i, i < 6 → -100000000 ≤ blV s.1 i ∧ blV s.1 i ≤ 100000000 := fun i hi => by
      unfold blV
      split
      · have o1 := hv.H (s := i) (by omega) (by assumption); unfold okH at o1; omega
      · omega
    have L1 : ∀ (mm : Nat) (j : Nat) (y : eg_Z) (w : Value), (j ≤ 6) → (∀ m, m < j → ¬ (ngF (ntF (blV s.1) m) = -1 ∨ nlF (ntF (blV s.1) m) = -1)) → (nz (ntF (blV s.1) j) + (j : Int) ≤ 6) → (∀ i, i < 6 → -100000000 ≤ ntF (blV s.1) j i ∧ ntF (blV s.1) j i ≤ 100000000) → (nw y (ntV s.1 j)) → (∀ c, c ≠ 203 → c ≠ 205 → y c = z c) → (∀ i : Nat, i < 220 → y 205 i = s.1 i) → 6 - (j : Int) < (mm : Int) → eg_E k gX9_net 2 0 0 n (enc k y X) [vR k 202, vI a, vI b, vI ((j : Nat) : Int), vL (sm (naS s.1) (j)), vU, vI (if 0 ≤ a ∧ a < ((j : Nat) : Int) then nTe s.1 a b else -2), vI (ngF (ntF (blV s.1) (j))), vI (nlF (ntF (blV s.1) (j))), w, vU] [] 63 (eg_p k (some (vI (A_net s.1 a b))) n X (fun z' => FM z z' ∧ IM z' s)) := by
      intro mm
      induction mm with
      | zero => intro j y w h1 hno hz hbd hNj hf hA hmm; exfalso; omega
      | succ mm ih =>
        intro j y w h1 hno hz hbd hNj hf hA hmm
        have gb := fsP_b (f := ntF (blV s.1) j) 6 0
        have lb := fsP_b (f := fun i => -ntF (blV s.1) j i) 6 0
        have gb : ngF (ntF (blV s.1) j) = -1 ∨ (0 ≤ ngF (ntF (blV s.1) j) ∧ ngF (ntF (blV s.1) j) < 6) := gb.imp id (fun h => ⟨h.1, by have := h.2.1; unfold ngF; omega⟩)
        have lb : nlF (ntF (blV s.1) j) = -1 ∨ (0 ≤ nlF (ntF (blV s.1) j) ∧ nlF (ntF (blV s.1) j) < 6) := lb.imp id (fun h => ⟨h.1, by have := h.2.1; unfold nlF; omega⟩)
        have nz9 := nz_0 (ntF (blV s.1) j)
        refine eg_iload dX9_net_63 rfl ?_
        refine eg_iconst dX9_net_65 ?_
        refine eg_icmp_eq 162 dX9_net_66 ⟨by omega, by omega⟩ ⟨by omega, by omega⟩ rfl (fun h66 => ?_) (fun h66 => ?_)
        · refine eg_al_n dX9_net_162 rfl rfl ?_
          refine eg_Vpv0 cs_X9_352 dX9_net_163 (c_laysBack (v := s.1) hA) (by first | exact er202 | exact er203 | exact er204 | exact er205 | exact er206 | exact er207 | exact er208 | exact er209 | exact er210 | exact er211 | exact er212 | exact er213 | exact er214 | exact er215) rfl (Nat.le_of_ble_eq_true rfl) (by decide) ?_
          rintro y5 ⟨f5, hN9⟩
          have fm9 : Fm z y5 := Fm.of (fun c hc => by rw [f5 c (by omega)]; exact hf c (by omega) (by omega))
          have eT : nTr s.1 = j := nTn_e (by omega) 6 0 (by omega) (by omega) (fun x _ hx => hno x hx)
          refine eg_iload_n dX9_net_166 rfl ?_
          refine eg_iconst dX9_net_167 ?_
          refine eg_icmp_eq 176 dX9_net_168 ⟨by omega, by omega⟩ ⟨by omega, by omega⟩ rfl (fun h168 => ?_) (fun h168 => ?_)
          · refine eg_iload_n dX9_net_176 rfl ?_
            refine eg_if_ne 184 dX9_net_177 ⟨by omega, by omega⟩ rfl (fun h177 => ?_) (fun h177 => ?_)
            · refine eg_lload dX9_net_184 rfl ?_
              refine eg_l2i dX9_net_186 ?_
              refine eg_ireturn dX9_net_187 rfl rfl ?_
              refine ⟨congrArg (fun q => some (vI q)) ?_, rfl, y5, rfl, fm9.1, hI.fm fm9 hN9⟩
              have eA : A_net s.1 a b = (if a = -1 then (if b = 0 then (j : Int) else sm (naS s.1) j) else if (j : Int) ≤ a then -2 else nTe s.1 a b) := by unfold A_net; rw [if_pos (by omega), eT]
              rw [eA]
              first
                | (rw [if_pos (show a = -1 by omega), if_pos (show b = 0 by omega)])
                | (rw [if_pos (show a = -1 by omega), if_neg (show ¬ b = 0 by omega)])
                | (rw [if_neg (show ¬ a = -1 by omega)]; by_cases e9 : 0 ≤ a ∧ a < (j : Int); (rw [if_pos e9, if_neg (show ¬ (j : Int) ≤ a by omega)]); (rw [if_neg e9, if_pos (show (j : Int) ≤ a by omega)]))
            · refine eg_iload_n dX9_net_180 rfl ?_
              refine eg_goto 187 dX9_net_181 rfl ?_
              refine eg_ireturn dX9_net_187 rfl rfl ?_
              refine ⟨congrArg (fun q => some (vI q)) ?_, rfl, y5, rfl, fm9.1, hI.fm fm9 hN9⟩
              have eA : A_net s.1 a b = (if a = -1 then (if b = 0 then (j : Int) else sm (naS s.1) j) else if (j : Int) ≤ a then -2 else nTe s.1 a b) := by unfold A_net; rw [if_pos (by omega), eT]
              rw [eA]
              first
                | (rw [if_pos (show a = -1 by omega), if_pos (show b = 0 by omega)])
                | (rw [if_pos (show a = -1 by omega), if_neg (show ¬ b = 0 by omega)])
                | (rw [if_neg (show ¬ a = -1 by omega)]; by_cases e9 : 0 ≤ a ∧ a < (j : Int); (rw [if_pos e9, if_neg (show ¬ (j : Int) ≤ a by omega)]); (rw [if_neg e9, if_pos (show (j : Int) ≤ a by omega)]))
          · refine eg_iload dX9_net_171 rfl ?_
            refine eg_goto 187 dX9_net_173 rfl ?_
            refine eg_ireturn dX9_net_187 rfl rfl ?_
            refine ⟨congrArg (fun q => some (vI q)) ?_, rfl, y5, rfl, fm9.1, hI.fm fm9 hN9⟩
            have eA : A_net s.1 a b = (if a = -1 then (if b = 0 then (j : Int) else sm (naS s.1) j) else if (j : Int) ≤ a then -2 else nTe s.1 a b) := by unfold A_net; rw [if_pos (by omega), eT]
            rw [eA]
            first
              | (rw [if_pos (show a = -1 by omega), if_pos (show b = 0 by omega)])
              | (rw [if_pos (show a = -1 by omega), if_neg (show ¬ b = 0 by omega)])
              | (rw [if_neg (show ¬ a = -1 by omega)]; by_cases e9 : 0 ≤ a ∧ a < (j : Int); (rw [if_pos e9, if_neg (show ¬ (j : Int) ≤ a by omega)]); (rw [if_neg e9, if_pos (show (j : Int) ≤ a by omega)]))
        · refine eg_iload dX9_net_69 rfl ?_
          refine eg_iconst dX9_net_71 ?_
          refine eg_icmp_eq 162 dX9_net_72 ⟨by omega, by omega⟩ ⟨by omega, by omega⟩ rfl (fun h72 => ?_) (fun h72 => ?_)
          · refine eg_al_n dX9_net_162 rfl rfl ?_
            refine eg_Vpv0 cs_X9_352 dX9_net_163 (c_laysBack (v := s.1) hA) (by first | exact er202 | exact er203 | exact er204 | exact er205 | exact er206 | exact er207 | exact er208 | exact er209 | exact er210 | exact er211 | exact er212 | exact er213 | exact er214 | exact er215) rfl (Nat.le_of_ble_eq_true rfl) (by decide) ?_
            rintro y5 ⟨f5, hN9⟩
            have fm9 : Fm z y5 := Fm.of (fun c hc => by rw [f5 c (by omega)]; exact hf c (by omega) (by omega))
            have eT : nTr s.1 = j := nTn_e (by omega) 6 0 (by omega) (by omega) (fun x _ hx => hno x hx)
            refine eg_iload_n dX9_net_166 rfl ?_
            refine eg_iconst dX9_net_167 ?_
            refine eg_icmp_eq 176 dX9_net_168 ⟨by omega, by omega⟩ ⟨by omega, by omega⟩ rfl (fun h168 => ?_) (fun h168 => ?_)
            · refine eg_iload_n dX9_net_176 rfl ?_
              refine eg_if_ne 184 dX9_net_177 ⟨by omega, by omega⟩ rfl (fun h177 => ?_) (fun h177 => ?_)
              · refine eg_lload dX9_net_184 rfl ?_
                refine eg_l2i dX9_net_186 ?_
                refine eg_ireturn dX9_net_187 rfl rfl ?_
                refine ⟨congrArg (fun q => some (vI q)) ?_, rfl, y5, rfl, fm9.1, hI.fm fm9 hN9⟩
                have eA : A_net s.1 a b = (if a = -1 then (if b = 0 then (j : Int) else sm (naS s.1) j) else if (j : Int) ≤ a then -2 else nTe s.1 a b) := by unfold A_net; rw [if_pos (by omega), eT]
                rw [eA]
                first
                  | (rw [if_pos (show a = -1 by omega), if_pos (show b = 0 by omega)])
                  | (rw [if_pos (show a = -1 by omega), if_neg (show ¬ b = 0 by omega)])
                  | (rw [if_neg (show ¬ a = -1 by omega)]; by_cases e9 : 0 ≤ a ∧ a < (j : Int); (rw [if_pos e9, if_neg (show ¬ (j : Int) ≤ a by omega)]); (rw [if_neg e9, if_pos (show (j : Int) ≤ a by omega)]))
              · refine eg_iload_n dX9_net_180 rfl ?_
                refine eg_goto 187 dX9_net_181 rfl ?_
                refine eg_ireturn dX9_net_187 rfl rfl ?_
                refine ⟨congrArg (fun q => some (vI q)) ?_, rfl, y5, rfl, fm9.1, hI.fm fm9 hN9⟩
                have eA : A_net s.1 a b = (if a = -1 then (if b = 0 then (j : Int) else sm (naS s.1) j) else if (j : Int) ≤ a then -2 else nTe s.1 a b) := by unfold A_net; rw [if_pos (by omega), eT]
                rw [eA]
                first
                  | (rw [if_pos (show a = -1 by omega), if_pos (show b = 0 by omega)])
                  | (rw [if_pos (show a = -1 by omega), if_neg (show ¬ b = 0 by omega)])
                  | (rw [if_neg (show ¬ a = -1 by omega)]; by_cases e9 : 0 ≤ a ∧ a < (j : Int); (rw [if_pos e9, if_neg (show ¬ (j : Int) ≤ a by omega)]); (rw [if_neg e9, if_pos (show (j : Int) ≤ a by omega)]))
            · refine eg_iload dX9_net_171 rfl ?_
              refine eg_goto 187 dX9_net_173 rfl ?_
              refine eg_ireturn dX9_net_187 rfl rfl ?_
              refine ⟨congrArg (fun q => some (vI q)) ?_, rfl, y5, rfl, fm9.1, hI.fm fm9 hN9⟩
              have eA : A_net s.1 a b = (if a = -1 then (if b = 0 then (j : Int) else sm (naS s.1) j) else if (j : Int) ≤ a then -2 else nTe s.1 a b) := by unfold A_net; rw [if_pos (by omega), eT]
              rw [eA]
              first
                | (rw [if_pos (show a = -1 by omega), if_pos (show b = 0 by omega)])
                | (rw [if_pos (show a = -1 by omega), if_neg (show ¬ b = 0 by omega)])
                | (rw [if_neg (show ¬ a = -1 by omega)]; by_cases e9 : 0 ≤ a ∧ a < (j : Int); (rw [if_pos e9, if_neg (show ¬ (j : Int) ≤ a by omega)]); (rw [if_neg e9, if_pos (show (j : Int) ≤ a by omega)]))
          · have hs : ¬ (ngF (ntF (blV s.1) j) = -1 ∨ nlF (ntF (blV s.1) j) = -1) := by omega
            have tt := trd hs
            have pv := ntV_p (v := s.1) (by omega) j hno
            have ga : ngF (ntF (blV s.1) j) < s.1 2 := by
              by_cases q9 : ngF (ntF (blV s.1) j) < s.1 2
              · exact q9
              · have := pv.2.2 (ngF (ntF (blV s.1) j)).toNat (by omega) (by omega); omega
            have gl : nlF (ntF (blV s.1) j) < s.1 2 := by
              by_cases q9 : nlF (ntF (blV s.1) j) < s.1 2
              · exact q9
              · have := pv.2.2 (nlF (ntF (blV s.1) j)).toNat (by omega) (by omega); omega
            have eg9 := pv.2.1 (ngF (ntF (blV s.1) j)).toNat (by omega)
            rw [show (((ngF (ntF (blV s.1) j)).toNat : Nat) : Int) = ngF (ntF (blV s.1) j) by omega] at eg9
            have el9 := pv.2.1 (nlF (ntF (blV s.1) j)).toNat (by omega)
            rw [show (((nlF (ntF (blV s.1) j)).toNat : Nat) : Int) = nlF (ntF (blV s.1) j) by omega] at el9
            have bg := hbd (ngF (ntF (blV s.1) j)).toNat (by omega)
            have bl := hbd (nlF (ntF (blV s.1) j)).toNat (by omega)
            have hno2 : ∀ m, m < j + 1 → ¬ (ngF (ntF (blV s.1) m) = -1 ∨ nlF (ntF (blV s.1) m) = -1) := fun m hm => by
              by_cases e : m = j
              · subst e; exact hs
              · exact hno m (by omega)
            have pv2 := ntV_p (v := s.1) (by omega) (j + 1) hno2
            have hbd2 : ∀ i, i < 6 → -100000000 ≤ ntF (blV s.1) (j + 1) i ∧ ntF (blV s.1) (j + 1) i ≤ 100000000 := trV_b hs hbd
            have nzt : nz (ntF (blV s.1) (j + 1)) < nz (ntF (blV s.1) j) := nz_t hs
            have nz0 := nz_0 (ntF (blV s.1) (j + 1))
            have J124 : ∀ (mm0 : Nat), mm0 = 0 → eg_E k gX9_net 2 0 0 n (enc k y X) [vR k 202, vI a, vI b, vI ((j : Nat) : Int), vL (sm (naS s.1) (j)), vU, vI (if 0 ≤ a ∧ a < (((j + 1 : Nat) : Nat) : Int) then nTe s.1 a b else -2), vI (ngF (ntF (blV s.1) (j))), vI (nlF (ntF (blV s.1) (j))), vL (naF (ntF (blV s.1) j)), vU] [] 124 (eg_p k (some (vI (A_net s.1 a b))) n X (fun z' => FM z z' ∧ IM z' s)) := by
              intro _ _
              refine eg_al_n dX9_net_124 rfl rfl ?_
              refine eg_iload dX9_net_125 rfl ?_
              refine eg_iload dX9_net_127 rfl ?_
              refine eg_iconst dX9_net_129 ?_
              refine eg_lload dX9_net_130 rfl ?_
              refine eg_Vpv4 cs_X9_249 dX9_net_132 (c_goes hNj ⟨by omega, by omega⟩ ⟨by omega, by omega⟩ (by omega)) (by first | exact er202 | exact er203 | exact er204 | exact er205 | exact er206 | exact er207 | exact er208 | exact er209 | exact er210 | exact er211 | exact er212 | exact er213 | exact er214 | exact er215) rfl (Nat.le_of_ble_eq_true rfl) (by decide) ?_
              rintro y2 ⟨f2, n2⟩
              have n2 : nw y2 (ntV s.1 (j + 1)) := n2
              refine eg_iinc dX9_net_135 rfl rfl rfl ?_
              refine eg_lload dX9_net_138 rfl ?_
              refine eg_lload dX9_net_140 rfl ?_
              refine eg_ladd dX9_net_142 ?_
              refine eg_eqL (y := sm (naS s.1) (j + 1)) (by show _ = sm (naS s.1) j + naS s.1 (j : Int); unfold naS; rw [Int.toNat_natCast]) ?_
              refine eg_lstore dX9_net_143 rfl rfl rfl ?_
              refine eg_al_n dX9_net_145 rfl rfl ?_
              refine eg_iconst dX9_net_146 ?_
              refine eg_Vf1 cs_X9_362 dX9_net_147 (c_firstBalp n2 (f := ntF (blV s.1) (j + 1)) (by rw [pv2.1 2 (by omega)]; omega) (fun i hi => pv2.2.1 i (by rw [pv2.1 2 (by omega)] at hi; exact hi)) (fun i hi => pv2.2.2 i (by rw [pv2.1 2 (by omega)] at hi; exact hi)) hbd2) (by first | exact er202 | exact er203 | exact er204 | exact er205 | exact er206 | exact er207 | exact er208 | exact er209 | exact er210 | exact er211 | exact er212 | exact er213 | exact er214 | exact er215) rfl (Nat.le_of_ble_eq_true rfl) (by decide) ?_
              refine eg_istore dX9_net_150 rfl rfl rfl ?_
              refine eg_al_n dX9_net_152 rfl rfl ?_
              refine eg_iconst dX9_net_153 ?_
              refine eg_Vf1 cs_X9_362 dX9_net_154 (c_firstBaln n2 (f := ntF (blV s.1) (j + 1)) (by rw [pv2.1 2 (by omega)]; omega) (fun i hi => pv2.2.1 i (by rw [pv2.1 2 (by omega)] at hi; exact hi)) (fun i hi => pv2.2.2 i (by rw [pv2.1 2 (by omega)] at hi; exact hi)) hbd2) (by first | exact er202 | exact er203 | exact er204 | exact er205 | exact er206 | exact er207 | exact er208 | exact er209 | exact er210 | exact er211 | exact er212 | exact er213 | exact er214 | exact er215) rfl (Nat.le_of_ble_eq_true rfl) (by decide) ?_
              refine eg_istore dX9_net_157 rfl rfl rfl ?_
              refine eg_goto 63 dX9_net_159 rfl ?_
              have t := ih (j + 1) y2 (vL (naF (ntF (blV s.1) j))) (by omega) hno2 (by omega) hbd2 n2 (fun c h1 h2 => (f2 c h1).trans (hf c h1 h2)) (fun i hi => by rw [f2 205 (by decide)]; exact hA i hi) (by omega)
              exact t
            refine eg_al_n dX9_net_75 rfl rfl ?_
            refine eg_iload dX9_net_76 rfl ?_
            refine eg_iconst dX9_net_78 ?_
            refine eg_Vf2 cs_X9_237 dX9_net_79 (c_ship hNj (by omega) (by omega) (by omega) (by omega)) (by first | exact er202 | exact er203 | exact er204 | exact er205 | exact er206 | exact er207 | exact er208 | exact er209 | exact er210 | exact er211 | exact er212 | exact er213 | exact er214 | exact er215) rfl (Nat.le_of_ble_eq_true rfl) (by decide) ?_
            refine eg_eqL eg9 ?_
            refine eg_al_n dX9_net_82 rfl rfl ?_
            refine eg_iload dX9_net_83 rfl ?_
            refine eg_iconst dX9_net_85 ?_
            refine eg_Vf2 cs_X9_237 dX9_net_86 (c_ship hNj (by omega) (by omega) (by omega) (by omega)) (by first | exact er202 | exact er203 | exact er204 | exact er205 | exact er206 | exact er207 | exact er208 | exact er209 | exact er210 | exact er211 | exact er212 | exact er213 | exact er214 | exact er215) rfl (Nat.le_of_ble_eq_true rfl) (by decide) ?_
            refine eg_eqL el9 ?_
            refine eg_lneg dX9_net_89 ?_
            refine eg_mminL cs_X9_365 dX9_net_90 ⟨by omega, by omega⟩ ⟨by omega, by omega⟩ (Nat.le_of_ble_eq_true rfl) (by decide) ?_
            refine eg_eqL (y := naF (ntF (blV s.1) j)) (by unfold naF mn; rfl) ?_
            refine eg_lstore dX9_net_93 rfl rfl rfl ?_
            refine eg_iload_n dX9_net_95 rfl ?_
            refine eg_iload_n dX9_net_96 rfl ?_
            refine eg_icmp_ne 124 dX9_net_97 ⟨by omega, by omega⟩ ⟨by omega, by omega⟩ rfl (fun h97 => ?_) (fun h97 => ?_)
            · rw [show (if 0 ≤ a ∧ a < ((j : Nat) : Int) then nTe s.1 a b else -2) = (if 0 ≤ a ∧ a < (((j + 1 : Nat) : Nat) : Int) then nTe s.1 a b else -2) from by (by_cases e9 : 0 ≤ a ∧ a < ((j : Nat) : Int); rw [if_pos e9, if_pos (by omega)]; rw [if_neg e9, if_neg (by omega)])]
              exact J124 0 rfl
            · refine eg_iload_n dX9_net_100 rfl ?_
              refine eg_if_ne 109 dX9_net_101 ⟨by omega, by omega⟩ rfl (fun h101 => ?_) (fun h101 => ?_)
              · refine eg_iload_n dX9_net_109 rfl ?_
                refine eg_iconst dX9_net_110 ?_
                refine eg_icmp_ne 119 dX9_net_111 ⟨by omega, by omega⟩ ⟨by omega, by omega⟩ rfl (fun h111 => ?_) (fun h111 => ?_)
                · refine eg_lload dX9_net_119 rfl ?_
                  refine eg_l2i dX9_net_121 ?_
                  refine eg_eqI (y := (if 0 ≤ a ∧ a < (((j + 1 : Nat) : Nat) : Int) then nTe s.1 a b else -2)) (by rw [if_pos (by omega)]; unfold nTe; rw [show a.toNat = j by omega]; first | rw [if_pos (by omega)] | rw [if_neg (by omega), if_pos (by omega)] | rw [if_neg (by omega), if_neg (by omega)]) ?_
                  refine eg_istore dX9_net_122 rfl rfl rfl ?_
                  exact J124 0 rfl
                · refine eg_iload dX9_net_114 rfl ?_
                  refine eg_goto 122 dX9_net_116 rfl ?_
                  refine eg_eqI (y := (if 0 ≤ a ∧ a < (((j + 1 : Nat) : Nat) : Int) then nTe s.1 a b else -2)) (by rw [if_pos (by omega)]; unfold nTe; rw [show a.toNat = j by omega]; first | rw [if_pos (by omega)] | rw [if_neg (by omega), if_pos (by omega)] | rw [if_neg (by omega), if_neg (by omega)]) ?_
                  refine eg_istore dX9_net_122 rfl rfl rfl ?_
                  exact J124 0 rfl
              · refine eg_iload dX9_net_104 rfl ?_
                refine eg_goto 122 dX9_net_106 rfl ?_
                refine eg_eqI (y := (if 0 ≤ a ∧ a < (((j + 1 : Nat) : Nat) : Int) then nTe s.1 a b else -2)) (by rw [if_pos (by omega)]; unfold nTe; rw [show a.toNat = j by omega]; first | rw [if_pos (by omega)] | rw [if_neg (by omega), if_pos (by omega)] | rw [if_neg (by omega), if_neg (by omega)]) ?_
                refine eg_istore dX9_net_122 rfl rfl rfl ?_
                exact J124 0 rfl
    have nb : nz (ntF (blV s.1) 0) ≤ 6 := by
      have := (sm_b (f := nzI (ntF (blV s.1) 0)) (K := 1) (n := 6) (fun i _ _ => by unfold nzI; split <;> omega)).2
      unfold nz; omega
    have t := L1 7 0 y vU (by omega) (fun m hm => absurd hm (Nat.not_lt_zero m)) (by omega) bb hNy hf hA (by omega)
    rw [if_neg (by omega)] at t
    exact t
  refine eg_al_n dX9_net_0 rfl rfl ?_
  refine eg_Vf0 cs_X9_315 dX9_net_1 (c_hasPipe hN hv) (by first | exact er202 | exact er203 | exact er204 | exact er205 | exact er206 | exact er207 | exact er208 | exact er209 | exact er210 | exact er211 | exact er212 | exact er213 | exact er214 | exact er215) rfl (Nat.le_of_ble_eq_true rfl) (by decide) ?_
  refine eg_bi_eq 34 dX9_net_4 rfl (fun h4 => ?_) (fun h4 => ?_)
  · refine eg_iconst dX9_net_34 ?_
    refine eg_ireturn dX9_net_35 rfl rfl ?_
    refine ⟨congrArg (fun q => some (vI q)) ?_, rfl, z, rfl, (Fm.rf).1, hI.fm (Fm.rf) hN⟩
    unfold A_net; rw [if_neg (by omega)]
  · refine eg_iload_n dX9_net_7 rfl ?_
    refine eg_iconst dX9_net_8 ?_
    refine eg_icmp_lt 34 dX9_net_9 ⟨by omega, by omega⟩ ⟨by omega, by omega⟩ rfl (fun h9 => ?_) (fun h9 => ?_)
    · refine eg_iconst dX9_net_34 ?_
      refine eg_ireturn dX9_net_35 rfl rfl ?_
      refine ⟨congrArg (fun q => some (vI q)) ?_, rfl, z, rfl, (Fm.rf).1, hI.fm (Fm.rf) hN⟩
      unfold A_net; rw [if_neg (by omega)]
    · refine eg_iload_n dX9_net_12 rfl ?_
      refine eg_i2l dX9_net_13 ⟨by omega, by omega⟩ ?_
      refine eg_lk0 dX9_net_14 ?_
      refine eg_ldc2 kw_X9_183 dX9_net_15 ?_
      refine eg_Sf3 cs_X9_81 dX9_net_18 (c_in ⟨by omega, by omega⟩ ⟨by omega, by omega⟩ ⟨by omega, by omega⟩) (Nat.le_of_ble_eq_true rfl) (by decide) ?_
      refine eg_bi_eq 34 dX9_net_21 rfl (fun h21 => ?_) (fun h21 => ?_)
      · refine eg_iconst dX9_net_34 ?_
        refine eg_ireturn dX9_net_35 rfl rfl ?_
        refine ⟨congrArg (fun q => some (vI q)) ?_, rfl, z, rfl, (Fm.rf).1, hI.fm (Fm.rf) hN⟩
        unfold A_net; rw [if_neg (by omega)]
      · refine eg_iload_n dX9_net_24 rfl ?_
        refine eg_iconst dX9_net_25 ?_
        refine eg_icmp_ne 36 dX9_net_26 ⟨by omega, by omega⟩ ⟨by omega, by omega⟩ rfl (fun h26 => ?_) (fun h26 => ?_)
        · refine eg_al_n dX9_net_36 rfl rfl ?_
          refine eg_Vpv0 cs_X9_349 dX9_net_37 (c_laysAside hN) (by first | exact er202 | exact er203 | exact er204 | exact er205 | exact er206 | exact er207 | exact er208 | exact er209 | exact er210 | exact er211 | exact er212 | exact er213 | exact er214 | exact er215) rfl (Nat.le_of_ble_eq_true rfl) (by decide) ?_
          rintro y1 ⟨f1, g1⟩
          have hN1 : nw y1 s.1 := nw_c (f1 203 (by decide)) hN
          have bb : ∀ i, i < 6 → -100000000 ≤ blV s.1 i ∧ blV s.1 i ≤ 100000000 := fun i hi => by
            unfold blV
            split
            · have o1 := hv.H (s := i) (by omega) (by assumption); unfold okH at o1; omega
            · omega
          refine eg_iconst dX9_net_40 ?_
          refine eg_istore_n dX9_net_41 rfl rfl rfl ?_
          refine eg_lk0 dX9_net_42 ?_
          refine eg_lstore dX9_net_43 rfl rfl rfl ?_
          refine eg_bipush dX9_net_45 (by decide) ?_
          refine eg_istore dX9_net_47 rfl rfl rfl ?_
          refine eg_al_n dX9_net_49 rfl rfl ?_
          refine eg_iconst dX9_net_50 ?_
          refine eg_Vf1 cs_X9_362 dX9_net_51 (c_firstBalp hN1 (f := blV s.1) (by omega) (fun i hi => by unfold blV; rw [if_pos hi]) (fun i hi _ => by unfold blV; rw [if_neg (by omega)]) bb) (by first | exact er202 | exact er203 | exact er204 | exact er205 | exact er206 | exact er207 | exact er208 | exact er209 | exact er210 | exact er211 | exact er212 | exact er213 | exact er214 | exact er215) rfl (Nat.le_of_ble_eq_true rfl) (by decide) ?_
          refine eg_istore dX9_net_54 rfl rfl rfl ?_
          refine eg_al_n dX9_net_56 rfl rfl ?_
          refine eg_iconst dX9_net_57 ?_
          refine eg_Vf1 cs_X9_362 dX9_net_58 (c_firstBaln hN1 (f := blV s.1) (by omega) (fun i hi => by unfold blV; rw [if_pos hi]) (fun i hi _ => by unfold blV; rw [if_neg (by omega)]) bb) (by first | exact er202 | exact er203 | exact er204 | exact er205 | exact er206 | exact er207 | exact er208 | exact er209 | exact er210 | exact er211 | exact er212 | exact er213 | exact er214 | exact er215) rfl (Nat.le_of_ble_eq_true rfl) (by decide) ?_
          refine eg_istore dX9_net_61 rfl rfl rfl ?_
          exact J (by omega) (by omega) (by omega) (by omega) y1 hN1 (fun c _ h2 => f1 c h2) g1
        · refine eg_iload_n dX9_net_29 rfl ?_
          refine eg_iconst dX9_net_30 ?_
          refine eg_icmp_ne 36 dX9_net_31 ⟨by omega, by omega⟩ ⟨by omega, by omega⟩ rfl (fun h31 => ?_) (fun h31 => ?_)
          · refine eg_al_n dX9_net_36 rfl rfl ?_
            refine eg_Vpv0 cs_X9_349 dX9_net_37 (c_laysAside hN) (by first | exact er202 | exact er203 | exact er204 | exact er205 | exact er206 | exact er207 | exact er208 | exact er209 | exact er210 | exact er211 | exact er212 | exact er213 | exact er214 | exact er215) rfl (Nat.le_of_ble_eq_true rfl) (by decide) ?_
            rintro y1 ⟨f1, g1⟩
            have hN1 : nw y1 s.1 := nw_c (f1 203 (by decide)) hN
            have bb : ∀ i, i < 6 → -100000000 ≤ blV s.1 i ∧ blV s.1 i ≤ 100000000 := fun i hi => by
              unfold blV
              split
              · have o1 := hv.H (s := i) (by omega) (by assumption); unfold okH at o1; omega
              · omega
            refine eg_iconst dX9_net_40 ?_
            refine eg_istore_n dX9_net_41 rfl rfl rfl ?_
            refine eg_lk0 dX9_net_42 ?_
            refine eg_lstore dX9_net_43 rfl rfl rfl ?_
            refine eg_bipush dX9_net_45 (by decide) ?_
            refine eg_istore dX9_net_47 rfl rfl rfl ?_
            refine eg_al_n dX9_net_49 rfl rfl ?_
            refine eg_iconst dX9_net_50 ?_
            refine eg_Vf1 cs_X9_362 dX9_net_51 (c_firstBalp hN1 (f := blV s.1) (by omega) (fun i hi => by unfold blV; rw [if_pos hi]) (fun i hi _ => by unfold blV; rw [if_neg (by omega)]) bb) (by first | exact er202 | exact er203 | exact er204 | exact er205 | exact er206 | exact er207 | exact er208 | exact er209 | exact er210 | exact er211 | exact er212 | exact er213 | exact er214 | exact er215) rfl (Nat.le_of_ble_eq_true rfl) (by decide) ?_
            refine eg_istore dX9_net_54 rfl rfl rfl ?_
            refine eg_al_n dX9_net_56 rfl rfl ?_
            refine eg_iconst dX9_net_57 ?_
            refine eg_Vf1 cs_X9_362 dX9_net_58 (c_firstBaln hN1 (f := blV s.1) (by omega) (fun i hi => by unfold blV; rw [if_pos hi]) (fun i hi _ => by unfold blV; rw [if_neg (by omega)]) bb) (by first | exact er202 | exact er203 | exact er204 | exact er205 | exact er206 | exact er207 | exact er208 | exact er209 | exact er210 | exact er211 | exact er212 | exact er213 | exact er214 | exact er215) rfl (Nat.le_of_ble_eq_true rfl) (by decide) ?_
            refine eg_istore dX9_net_61 rfl rfl rfl ?_
            exact J (by omega) (by omega) (by omega) (by omega) y1 hN1 (fun c _ h2 => f1 c h2) g1
          · refine eg_iconst dX9_net_34 ?_
            refine eg_ireturn dX9_net_35 rfl rfl ?_
            refine ⟨congrArg (fun q => some (vI q)) ?_, rfl, z, rfl, (Fm.rf).1, hI.fm (Fm.rf) hN⟩
            unfold A_net; rw [if_neg (by omega)]
