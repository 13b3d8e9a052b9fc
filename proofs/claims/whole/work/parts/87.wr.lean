/-- which capacity a text of N signs has, from the g-th on -/
def ix (N : Nat) : Nat := if N ≤ 16 then 0 else if N ≤ 34 then 1 else if N ≤ 70 then 2 else if N ≤ 142 then 3 else if N ≤ 286 then 4 else if N ≤ 574 then 5 else 6
def gF (g N : Nat) : Nat := if g ≤ ix N then ix N else g
theorem ix_6 {N : Nat} : ix N ≤ 6 := by unfold ix; (repeat' split) <;> omega
theorem ix_m {a b : Nat} (h : a ≤ b) : ix a ≤ ix b := by unfold ix; (repeat' split) <;> omega
theorem gF_6 {g N : Nat} (h : g ≤ 6) : gF g N ≤ 6 := by have := ix_6 (N := N); unfold gF; split <;> omega
theorem gF_ge {g N : Nat} : g ≤ gF g N := by unfold gF; split <;> omega
theorem gF_c {g a b : Nat} (h : a ≤ b) : gF (gF g a) b = gF g b := by have := ix_m h; unfold gF; (repeat' split) <;> omega
theorem ix_c (N : Nat) : (N ≤ 16 ∧ ix N = 0) ∨ (16 < N ∧ N ≤ 34 ∧ ix N = 1) ∨ (34 < N ∧ N ≤ 70 ∧ ix N = 2) ∨ (70 < N ∧ N ≤ 142 ∧ ix N = 3) ∨ (142 < N ∧ N ≤ 286 ∧ ix N = 4) ∨ (286 < N ∧ N ≤ 574 ∧ ix N = 5) ∨ (574 < N ∧ ix N = 6) := by unfold ix; (repeat' split) <;> omega
theorem cp_c : ∀ g, g ≤ 6 → ((g = 0 ∧ cpG g = 16) ∨ (g = 1 ∧ cpG g = 34) ∨ (g = 2 ∧ cpG g = 70) ∨ (g = 3 ∧ cpG g = 142) ∨ (g = 4 ∧ cpG g = 286) ∨ (g = 5 ∧ cpG g = 574) ∨ (g = 6 ∧ cpG g = 1150)) := by decide
theorem gI_F {g N : Nat} (hg : g ≤ 6) (hN : N ≤ cpG g + 8) (hN2 : N ≤ 1150) : gI g N = gF g N := by
  have h := ix_c N
  have hc := cp_c g hg
  unfold gI gF
  generalize ix N = i at h ⊢
  generalize cpG g = c at hc hN ⊢
  rcases hc with ⟨h1, h2⟩ | ⟨h1, h2⟩ | ⟨h1, h2⟩ | ⟨h1, h2⟩ | ⟨h1, h2⟩ | ⟨h1, h2⟩ | ⟨h1, h2⟩ <;> by_cases a1 : N ≤ c <;> by_cases a2 : g ≤ i <;> first | rw [if_pos a1, if_pos a2]; omega | rw [if_pos a1, if_neg a2] | rw [if_neg a1, if_pos a2]; omega | (exfalso; omega)
theorem slG_m {a b : Nat} (h : a ≤ b) : slG a ≤ slG b := by
  induction b with
  | zero => rw [Nat.le_zero.mp h]; exact Nat.le_refl _
  | succ b ih =>
    by_cases e : a = b + 1
    · rw [e]; exact Nat.le_refl _
    · have := ih (by omega)
      show slG a ≤ slG b + cpG (b + 1)
      omega
theorem bud_c {g a b : Nat} (h : a ≤ b) : gF g b - g = (gF g a - g) + (gF (gF g a) b - gF g a) := by
  have h1 := gF_ge (g := g) (N := a)
  have h2 := gF_ge (g := gF g a) (N := b)
  rw [gF_c h] at h2 ⊢
  omega
theorem bud_s {g a b : Nat} (h : a ≤ b) : slG (gF g b) - slG g = (slG (gF g a) - slG g) + (slG (gF (gF g a) b) - slG (gF g a)) := by
  have h1 := slG_m (gF_ge (g := g) (N := a))
  have h2 := slG_m (gF_ge (g := gF g a) (N := b))
  rw [gF_c h] at h2 ⊢
  omega
theorem c_tS {k : eg_K} {z : eg_Z} {X : eg_M} {n : Nat} {T : List Int} {g N : Nat} (hS : SB k z X n T g) {i : Nat} (hi : i < 35) (hN : N = T.length + (eg_tx i).length) (h9 : N ≤ 1150) : eg_P k gJ4_append_15ec4 5 (gF g N - g) (slG (gF g N) - slG g) [vR k 197, vS k i] n (enc k z X) (eg_b k (some (vR k 197)) (fun n' z' X' => (∀ c, c ≠ 197 → z' c = z c) ∧ SB k z' X' n' (T ++ eg_tx i) (gF g N))) := by
  have b8 : (eg_tx i).length ≤ 8 := (tx_b i hi).1
  have hl := hS.2.2.2.2.1
  have e := gI_F (g := g) (N := T.length + (eg_tx i).length) hS.2.2.2.1 (by omega) (by omega)
  have s := c_apS (k := k) hS hi (by rw [e]; exact gF_6 hS.2.2.2.1)
  rw [e, ← hN] at s
  exact s
theorem c_tI {k : eg_K} {z : eg_Z} {X : eg_M} {n : Nat} {T : List Int} {g N : Nat} (hS : SB k z X n T g) {x : Int} (hx : 0 ≤ x ∧ x ≤ 9999) (hN : N = T.length + (ndF 3 x).length) (h9 : N ≤ 1150) : eg_P k gJ4_append_bf812 5 (gF g N - g) (slG (gF g N) - slG g) [vR k 197, vI x] n (enc k z X) (eg_b k (some (vR k 197)) (fun n' z' X' => (∀ c, c ≠ 197 → z' c = z c) ∧ SB k z' X' n' (T ++ ndF 3 x) (gF g N))) := by
  have b8 : (ndF 3 x).length ≤ 8 := by have := nd_len 3 x; omega
  have hl := hS.2.2.2.2.1
  have e := gI_F (g := g) (N := T.length + (ndF 3 x).length) hS.2.2.2.1 (by omega) (by omega)
  have s := c_apI (k := k) hS hx (by rw [e]; exact gF_6 hS.2.2.2.1)
  rw [e, ← hN] at s
  exact s
theorem c_tC {k : eg_K} {z : eg_Z} {X : eg_M} {n : Nat} {T : List Int} {g N : Nat} (hS : SB k z X n T g) {x : Int} (hx : 0 ≤ x ∧ x < 128) (hN : N = T.length + 1) (h9 : N ≤ 1150) : eg_P k gJ4_append_cf468 5 (gF g N - g) (slG (gF g N) - slG g) [vR k 197, vI x] n (enc k z X) (eg_b k (some (vR k 197)) (fun n' z' X' => (∀ c, c ≠ 197 → z' c = z c) ∧ SB k z' X' n' (T ++ [x]) (gF g N))) := by
  have b8 : 1 ≤ 8 := by decide
  have hl := hS.2.2.2.2.1
  have e := gI_F (g := g) (N := T.length + 1) hS.2.2.2.1 (by omega) (by omega)
  have s := c_apC (k := k) hS hx (by rw [e]; exact gF_6 hS.2.2.2.1)
  rw [e, ← hN] at s
  exact s
theorem c_putWord {k : eg_K} {z : eg_Z} {X : eg_M} {n : Nat} {T : List Int} {g N : Nat} (hS : SB k z X n T g) {i : Nat} (hi : i < 35) (hN : N = T.length + (1 + (eg_tx i).length)) (h9 : N ≤ 1150) : eg_P k gX7_putWord 6 (gF g N - g) (slG (gF g N) - slG g) [vR k 196, vS k i] n (enc k z X) (eg_b k none (fun n' z' X' => (∀ c, c ≠ 197 → z' c = z c) ∧ SB k z' X' n' (T ++ 59 :: eg_tx i) (gF g N))) := by
  refine eg_P.of (by decide) (Nat.le_of_ble_eq_true rfl) ?_
  show eg_E k gX7_putWord 6 (gF g N - g) (slG (gF g N) - slG g) n (enc k z X) [vR k 196, vS k i] [] 0 _
  refine eg_al_n dX7_putWord_0 rfl rfl ?_
  refine eg_get fl_X7_12 dX7_putWord_1 (by exact er196) rfl ?_
  refine eg_bipush dX7_putWord_4 (by decide) ?_
  refine eg_Vb1 (bc' := gF (gF g (T.length + 1)) N - gF g (T.length + 1)) (bs' := slG (gF (gF g (T.length + 1)) N) - slG (gF g (T.length + 1))) cs_X7_64 dX7_putWord_6 (c_tC (x := 59) hS (by decide) rfl (by omega)) er197 rfl (Nat.le_of_ble_eq_true rfl) (by decide) (bud_c (by omega)) (bud_s (by omega)) ?_
  rintro n1 z1 X1 ⟨fr1, hS1⟩
  refine eg_pop dX7_putWord_9 rfl ?_
  refine eg_al_n dX7_putWord_10 rfl rfl ?_
  refine eg_get fl_X7_12 dX7_putWord_11 (by exact er196) rfl ?_
  refine eg_al_n dX7_putWord_14 rfl rfl ?_
  refine eg_Vb1 (bc' := 0) (bs' := 0) cs_X7_30 dX7_putWord_15 (c_tS (N := N) hS1 hi (by rw [List.length_append]; show N = T.length + 1 + _; omega) h9) er197 rfl (Nat.le_of_ble_eq_true rfl) (by decide) rfl rfl ?_
  rintro n2 z2 X2 ⟨fr2, hS2⟩
  refine eg_pop dX7_putWord_18 rfl ?_
  refine eg_return dX7_putWord_19 rfl ?_
  refine ⟨rfl, z2, X2, rfl, fun c hc => (fr2 c hc).trans (fr1 c hc), ?_⟩
  rw [gF_c (by omega), List.append_assoc] at hS2
  exact hS2
theorem c_putNumber {k : eg_K} {z : eg_Z} {X : eg_M} {n : Nat} {T : List Int} {g N : Nat} (hS : SB k z X n T g) {x : Int} (hx : 0 ≤ x ∧ x ≤ 9999) (hN : N = T.length + (1 + (ndF 3 x).length)) (h9 : N ≤ 1150) : eg_P k gX7_putNumber 6 (gF g N - g) (slG (gF g N) - slG g) [vR k 196, vI x] n (enc k z X) (eg_b k none (fun n' z' X' => (∀ c, c ≠ 197 → z' c = z c) ∧ SB k z' X' n' (T ++ nmT x) (gF g N))) := by
  refine eg_P.of (by decide) (Nat.le_of_ble_eq_true rfl) ?_
  show eg_E k gX7_putNumber 6 (gF g N - g) (slG (gF g N) - slG g) n (enc k z X) [vR k 196, vI x] [] 0 _
  refine eg_al_n dX7_putNumber_0 rfl rfl ?_
  refine eg_get fl_X7_12 dX7_putNumber_1 (by exact er196) rfl ?_
  refine eg_bipush dX7_putNumber_4 (by decide) ?_
  refine eg_Vb1 (bc' := gF (gF g (T.length + 1)) N - gF g (T.length + 1)) (bs' := slG (gF (gF g (T.length + 1)) N) - slG (gF g (T.length + 1))) cs_X7_64 dX7_putNumber_6 (c_tC (x := 32) hS (by decide) rfl (by omega)) er197 rfl (Nat.le_of_ble_eq_true rfl) (by decide) (bud_c (by omega)) (bud_s (by omega)) ?_
  rintro n1 z1 X1 ⟨fr1, hS1⟩
  refine eg_pop dX7_putNumber_9 rfl ?_
  refine eg_al_n dX7_putNumber_10 rfl rfl ?_
  refine eg_get fl_X7_12 dX7_putNumber_11 (by exact er196) rfl ?_
  refine eg_iload_n dX7_putNumber_14 rfl ?_
  refine eg_Vb1 (bc' := 0) (bs' := 0) cs_X7_67 dX7_putNumber_15 (c_tI (N := N) hS1 hx (by rw [List.length_append]; show N = T.length + 1 + _; omega) h9) er197 rfl (Nat.le_of_ble_eq_true rfl) (by decide) rfl rfl ?_
  rintro n2 z2 X2 ⟨fr2, hS2⟩
  refine eg_pop dX7_putNumber_18 rfl ?_
  refine eg_return dX7_putNumber_19 rfl ?_
  refine ⟨rfl, z2, X2, rfl, fun c hc => (fr2 c hc).trans (fr1 c hc), ?_⟩
  rw [gF_c (by omega), List.append_assoc] at hS2
  exact hS2
