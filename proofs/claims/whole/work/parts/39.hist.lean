theorem er0 {k : eg_K} {z : eg_Z} {X : eg_M} : enc k z X 0 = some (oO 9 [vR k 1, vR k 13, vR k 25, vR k 34, vR k 156, vI (z 0 5), vR k 181, vR k 196, vR k 199]) := rfl
theorem es0_5 {k : eg_K} {z : eg_Z} {X : eg_M} {x : Int} : va_up (enc k z X) 0 (some (oO 9 [vR k 1, vR k 13, vR k 25, vR k 34, vR k 156, vI x, vR k 181, vR k 196, vR k 199])) = enc k (va_up z 0 (va_up (z 0) 5 x)) X := enc_st (va_up (z 0) 5 x) rfl
theorem er34 {k : eg_K} {z : eg_Z} {X : eg_M} : enc k z X 34 = some (oO 1 [vR k 35, vI (z 34 1), vI (z 34 2)]) := rfl
theorem es34_1 {k : eg_K} {z : eg_Z} {X : eg_M} {x : Int} : va_up (enc k z X) 34 (some (oO 1 [vR k 35, vI x, vI (z 34 2)])) = enc k (va_up z 34 (va_up (z 34) 1 x)) X := enc_st (va_up (z 34) 1 x) rfl
theorem es34_2 {k : eg_K} {z : eg_Z} {X : eg_M} {x : Int} : va_up (enc k z X) 34 (some (oO 1 [vR k 35, vI (z 34 1), vI x])) = enc k (va_up z 34 (va_up (z 34) 2 x)) X := enc_st (va_up (z 34) 2 x) rfl
theorem er35 {k : eg_K} {z : eg_Z} {X : eg_M} : enc k z X 35 = some (aP k 10 ringf) := rfl
theorem er156 {k : eg_K} {z : eg_Z} {X : eg_M} : enc k z X 156 = some (aP k 2 shlf) := rfl
theorem er181 {k : eg_K} {z : eg_Z} {X : eg_M} : enc k z X 181 = some (oO 4 [vR k 182, vR k 184, vI (z 181 2), vI (z 181 3), vI (z 181 4), vI (z 181 5)]) := rfl
theorem es181_2 {k : eg_K} {z : eg_Z} {X : eg_M} {x : Int} : va_up (enc k z X) 181 (some (oO 4 [vR k 182, vR k 184, vI x, vI (z 181 3), vI (z 181 4), vI (z 181 5)])) = enc k (va_up z 181 (va_up (z 181) 2 x)) X := enc_st (va_up (z 181) 2 x) rfl
theorem es181_3 {k : eg_K} {z : eg_Z} {X : eg_M} {x : Int} : va_up (enc k z X) 181 (some (oO 4 [vR k 182, vR k 184, vI (z 181 2), vI x, vI (z 181 4), vI (z 181 5)])) = enc k (va_up z 181 (va_up (z 181) 3 x)) X := enc_st (va_up (z 181) 3 x) rfl
theorem es181_4 {k : eg_K} {z : eg_Z} {X : eg_M} {x : Int} : va_up (enc k z X) 181 (some (oO 4 [vR k 182, vR k 184, vI (z 181 2), vI (z 181 3), vI x, vI (z 181 5)])) = enc k (va_up z 181 (va_up (z 181) 4 x)) X := enc_st (va_up (z 181) 4 x) rfl
theorem es181_5 {k : eg_K} {z : eg_Z} {X : eg_M} {x : Int} : va_up (enc k z X) 181 (some (oO 4 [vR k 182, vR k 184, vI (z 181 2), vI (z 181 3), vI (z 181 4), vI x])) = enc k (va_up z 181 (va_up (z 181) 5 x)) X := enc_st (va_up (z 181) 5 x) rfl
theorem er182 {k : eg_K} {z : eg_Z} {X : eg_M} : enc k z X 182 = some (oO 7 [vR k 183, vI (z 182 1)]) := rfl
theorem es182_1 {k : eg_K} {z : eg_Z} {X : eg_M} {x : Int} : va_up (enc k z X) 182 (some (oO 7 [vR k 183, vI x])) = enc k (va_up z 182 (va_up (z 182) 1 x)) X := enc_st (va_up (z 182) 1 x) rfl
theorem er183 {k : eg_K} {z : eg_Z} {X : eg_M} : enc k z X 183 = some (aB k 400 (z 183)) := rfl
theorem es183 {k : eg_K} {z : eg_Z} {X : eg_M} {f : Nat → Int} : va_up (enc k z X) 183 (some (aB k 400 f)) = enc k (va_up z 183 f) X := enc_st f rfl
theorem er196 {k : eg_K} {z : eg_Z} {X : eg_M} : enc k z X 196 = some (oO 8 [vR k 197]) := rfl
theorem er197 {k : eg_K} {z : eg_Z} {X : eg_M} : enc k z X 197 = some (oO 0 [vR k (z 197 0).toNat, vI 0, vI (z 197 2), vI (z 197 3)]) := rfl
theorem es197_2 {k : eg_K} {z : eg_Z} {X : eg_M} {x : Int} : va_up (enc k z X) 197 (some (oO 0 [vR k (z 197 0).toNat, vI 0, vI x, vI (z 197 3)])) = enc k (va_up z 197 (va_up (z 197) 2 x)) X := enc_st (va_up (z 197) 2 x) rfl
theorem es197_3 {k : eg_K} {z : eg_Z} {X : eg_M} {x : Int} : va_up (enc k z X) 197 (some (oO 0 [vR k (z 197 0).toNat, vI 0, vI (z 197 2), vI x])) = enc k (va_up z 197 (va_up (z 197) 3 x)) X := enc_st (va_up (z 197) 3 x) rfl
theorem er199 {k : eg_K} {z : eg_Z} {X : eg_M} : enc k z X 199 = some (oO 2 [vR k 200, vR k 201, vI (z 199 2)]) := rfl
theorem es199_2 {k : eg_K} {z : eg_Z} {X : eg_M} {x : Int} : va_up (enc k z X) 199 (some (oO 2 [vR k 200, vR k 201, vI x])) = enc k (va_up z 199 (va_up (z 199) 2 x)) X := enc_st (va_up (z 199) 2 x) rfl
theorem er200 {k : eg_K} {z : eg_Z} {X : eg_M} : enc k z X 200 = some (aI k 6 (z 200)) := rfl
theorem es200 {k : eg_K} {z : eg_Z} {X : eg_M} {f : Nat → Int} : va_up (enc k z X) 200 (some (aI k 6 f)) = enc k (va_up z 200 f) X := enc_st f rfl
theorem er201 {k : eg_K} {z : eg_Z} {X : eg_M} : enc k z X 201 = some (aI k 18 (z 201)) := rfl
theorem es201 {k : eg_K} {z : eg_Z} {X : eg_M} {f : Nat → Int} : va_up (enc k z X) 201 (some (aI k 18 f)) = enc k (va_up z 201 f) X := enc_st f rfl
theorem er202 {k : eg_K} {z : eg_Z} {X : eg_M} : enc k z X 202 = some (oO 10 [vR k 203, vR k 204, vR k 205, vR k 206, vR k 207, vR k 208, vI (z 202 6), vR k 209, vI (z 202 8), vI (z 202 9), vI (z 202 10), vI (z 202 11), vR k 210, vR k 211, vR k 212, vR k 213, vR k 214, vR k 215, vI (z 202 18), vI (z 202 19), vI (z 202 20)]) := rfl
theorem es202_6 {k : eg_K} {z : eg_Z} {X : eg_M} {x : Int} : va_up (enc k z X) 202 (some (oO 10 [vR k 203, vR k 204, vR k 205, vR k 206, vR k 207, vR k 208, vI x, vR k 209, vI (z 202 8), vI (z 202 9), vI (z 202 10), vI (z 202 11), vR k 210, vR k 211, vR k 212, vR k 213, vR k 214, vR k 215, vI (z 202 18), vI (z 202 19), vI (z 202 20)])) = enc k (va_up z 202 (va_up (z 202) 6 x)) X := enc_st (va_up (z 202) 6 x) rfl
theorem es202_8 {k : eg_K} {z : eg_Z} {X : eg_M} {x : Int} : va_up (enc k z X) 202 (some (oO 10 [vR k 203, vR k 204, vR k 205, vR k 206, vR k 207, vR k 208, vI (z 202 6), vR k 209, vI x, vI (z 202 9), vI (z 202 10), vI (z 202 11), vR k 210, vR k 211, vR k 212, vR k 213, vR k 214, vR k 215, vI (z 202 18), vI (z 202 19), vI (z 202 20)])) = enc k (va_up z 202 (va_up (z 202) 8 x)) X := enc_st (va_up (z 202) 8 x) rfl
theorem es202_9 {k : eg_K} {z : eg_Z} {X : eg_M} {x : Int} : va_up (enc k z X) 202 (some (oO 10 [vR k 203, vR k 204, vR k 205, vR k 206, vR k 207, vR k 208, vI (z 202 6), vR k 209, vI (z 202 8), vI x, vI (z 202 10), vI (z 202 11), vR k 210, vR k 211, vR k 212, vR k 213, vR k 214, vR k 215, vI (z 202 18), vI (z 202 19), vI (z 202 20)])) = enc k (va_up z 202 (va_up (z 202) 9 x)) X := enc_st (va_up (z 202) 9 x) rfl
theorem es202_10 {k : eg_K} {z : eg_Z} {X : eg_M} {x : Int} : va_up (enc k z X) 202 (some (oO 10 [vR k 203, vR k 204, vR k 205, vR k 206, vR k 207, vR k 208, vI (z 202 6), vR k 209, vI (z 202 8), vI (z 202 9), vI x, vI (z 202 11), vR k 210, vR k 211, vR k 212, vR k 213, vR k 214, vR k 215, vI (z 202 18), vI (z 202 19), vI (z 202 20)])) = enc k (va_up z 202 (va_up (z 202) 10 x)) X := enc_st (va_up (z 202) 10 x) rfl
theorem es202_11 {k : eg_K} {z : eg_Z} {X : eg_M} {x : Int} : va_up (enc k z X) 202 (some (oO 10 [vR k 203, vR k 204, vR k 205, vR k 206, vR k 207, vR k 208, vI (z 202 6), vR k 209, vI (z 202 8), vI (z 202 9), vI (z 202 10), vI x, vR k 210, vR k 211, vR k 212, vR k 213, vR k 214, vR k 215, vI (z 202 18), vI (z 202 19), vI (z 202 20)])) = enc k (va_up z 202 (va_up (z 202) 11 x)) X := enc_st (va_up (z 202) 11 x) rfl
theorem es202_18 {k : eg_K} {z : eg_Z} {X : eg_M} {x : Int} : va_up (enc k z X) 202 (some (oO 10 [vR k 203, vR k 204, vR k 205, vR k 206, vR k 207, vR k 208, vI (z 202 6), vR k 209, vI (z 202 8), vI (z 202 9), vI (z 202 10), vI (z 202 11), vR k 210, vR k 211, vR k 212, vR k 213, vR k 214, vR k 215, vI x, vI (z 202 19), vI (z 202 20)])) = enc k (va_up z 202 (va_up (z 202) 18 x)) X := enc_st (va_up (z 202) 18 x) rfl
theorem es202_19 {k : eg_K} {z : eg_Z} {X : eg_M} {x : Int} : va_up (enc k z X) 202 (some (oO 10 [vR k 203, vR k 204, vR k 205, vR k 206, vR k 207, vR k 208, vI (z 202 6), vR k 209, vI (z 202 8), vI (z 202 9), vI (z 202 10), vI (z 202 11), vR k 210, vR k 211, vR k 212, vR k 213, vR k 214, vR k 215, vI (z 202 18), vI x, vI (z 202 20)])) = enc k (va_up z 202 (va_up (z 202) 19 x)) X := enc_st (va_up (z 202) 19 x) rfl
theorem es202_20 {k : eg_K} {z : eg_Z} {X : eg_M} {x : Int} : va_up (enc k z X) 202 (some (oO 10 [vR k 203, vR k 204, vR k 205, vR k 206, vR k 207, vR k 208, vI (z 202 6), vR k 209, vI (z 202 8), vI (z 202 9), vI (z 202 10), vI (z 202 11), vR k 210, vR k 211, vR k 212, vR k 213, vR k 214, vR k 215, vI (z 202 18), vI (z 202 19), vI x])) = enc k (va_up z 202 (va_up (z 202) 20 x)) X := enc_st (va_up (z 202) 20 x) rfl
theorem er203 {k : eg_K} {z : eg_Z} {X : eg_M} : enc k z X 203 = some (aL k 220 (z 203)) := rfl
theorem es203 {k : eg_K} {z : eg_Z} {X : eg_M} {f : Nat → Int} : va_up (enc k z X) 203 (some (aL k 220 f)) = enc k (va_up z 203 f) X := enc_st f rfl
theorem er204 {k : eg_K} {z : eg_Z} {X : eg_M} : enc k z X 204 = some (aL k 220 (z 204)) := rfl
theorem es204 {k : eg_K} {z : eg_Z} {X : eg_M} {f : Nat → Int} : va_up (enc k z X) 204 (some (aL k 220 f)) = enc k (va_up z 204 f) X := enc_st f rfl
theorem er205 {k : eg_K} {z : eg_Z} {X : eg_M} : enc k z X 205 = some (aL k 220 (z 205)) := rfl
theorem es205 {k : eg_K} {z : eg_Z} {X : eg_M} {f : Nat → Int} : va_up (enc k z X) 205 (some (aL k 220 f)) = enc k (va_up z 205 f) X := enc_st f rfl
theorem er206 {k : eg_K} {z : eg_Z} {X : eg_M} : enc k z X 206 = some (aL k 2200 (z 206)) := rfl
theorem es206 {k : eg_K} {z : eg_Z} {X : eg_M} {f : Nat → Int} : va_up (enc k z X) 206 (some (aL k 2200 f)) = enc k (va_up z 206 f) X := enc_st f rfl
theorem er207 {k : eg_K} {z : eg_Z} {X : eg_M} : enc k z X 207 = some (aL k 440 (z 207)) := rfl
theorem es207 {k : eg_K} {z : eg_Z} {X : eg_M} {f : Nat → Int} : va_up (enc k z X) 207 (some (aL k 440 f)) = enc k (va_up z 207 f) X := enc_st f rfl
theorem er208 {k : eg_K} {z : eg_Z} {X : eg_M} : enc k z X 208 = some (aZ k 2 (z 208)) := rfl
theorem es208 {k : eg_K} {z : eg_Z} {X : eg_M} {f : Nat → Int} : va_up (enc k z X) 208 (some (aZ k 2 f)) = enc k (va_up z 208 f) X := enc_st f rfl
theorem er209 {k : eg_K} {z : eg_Z} {X : eg_M} : enc k z X 209 = some (aB k 400 (z 209)) := rfl
theorem es209 {k : eg_K} {z : eg_Z} {X : eg_M} {f : Nat → Int} : va_up (enc k z X) 209 (some (aB k 400 f)) = enc k (va_up z 209 f) X := enc_st f rfl
theorem er210 {k : eg_K} {z : eg_Z} {X : eg_M} : enc k z X 210 = some (aI k 36 (z 210)) := rfl
theorem es210 {k : eg_K} {z : eg_Z} {X : eg_M} {f : Nat → Int} : va_up (enc k z X) 210 (some (aI k 36 f)) = enc k (va_up z 210 f) X := enc_st f rfl
theorem er211 {k : eg_K} {z : eg_Z} {X : eg_M} : enc k z X 211 = some (aI k 16 (z 211)) := rfl
theorem es211 {k : eg_K} {z : eg_Z} {X : eg_M} {f : Nat → Int} : va_up (enc k z X) 211 (some (aI k 16 f)) = enc k (va_up z 211 f) X := enc_st f rfl
theorem er212 {k : eg_K} {z : eg_Z} {X : eg_M} : enc k z X 212 = some (aI k 16 (z 212)) := rfl
theorem es212 {k : eg_K} {z : eg_Z} {X : eg_M} {f : Nat → Int} : va_up (enc k z X) 212 (some (aI k 16 f)) = enc k (va_up z 212 f) X := enc_st f rfl
theorem er213 {k : eg_K} {z : eg_Z} {X : eg_M} : enc k z X 213 = some (aI k 16 (z 213)) := rfl
theorem es213 {k : eg_K} {z : eg_Z} {X : eg_M} {f : Nat → Int} : va_up (enc k z X) 213 (some (aI k 16 f)) = enc k (va_up z 213 f) X := enc_st f rfl
theorem er214 {k : eg_K} {z : eg_Z} {X : eg_M} : enc k z X 214 = some (aI k 16 (z 214)) := rfl
theorem es214 {k : eg_K} {z : eg_Z} {X : eg_M} {f : Nat → Int} : va_up (enc k z X) 214 (some (aI k 16 f)) = enc k (va_up z 214 f) X := enc_st f rfl
theorem er215 {k : eg_K} {z : eg_Z} {X : eg_M} : enc k z X 215 = some (aI k 16 (z 215)) := rfl
theorem es215 {k : eg_K} {z : eg_Z} {X : eg_M} {f : Nat → Int} : va_up (enc k z X) 215 (some (aI k 16 f)) = enc k (va_up z 215 f) X := enc_st f rfl
theorem nb_bm {x : Int} : narrow .byte (vI (x.bmod 256)) = vI (x.bmod 256) := by
  show Value.int (Int32.ofInt (x.bmod 256)).toInt8.toInt32 = _
  rw [i2b_e, Int.bmod_bmod]
  rfl
theorem isB_ring : ∀ j, j < 10 → isB (36 + 12 * j) = true := by decide +kernel
theorem isB_shelf : ∀ j, j < 2 → isB (157 + 12 * j) = true := by decide +kernel
theorem isB_1 : isB 1 = true := by decide +kernel
theorem isB_13 : isB 13 = true := by decide +kernel
theorem isB_184 : isB 184 = true := by decide +kernel
/-- a state as every call leaves it -/
def okV (v : eg_v) : Prop := VV 999999 v ∧ PK v ∧ v 4 ≤ 999
def hV (z : eg_Z) (b : Nat) (v : eg_v) : Prop := hP z b v ∧ hL z b v ∧ okV v
theorem hL_k {z z' : eg_Z} {b : Nat} {v : eg_v} (e : z' (b + 11) = z (b + 11)) (h : hL z b v) : hL z' b v := by
  unfold hL at h ⊢
  rw [e]
  exact h
theorem hP_k {z z' : eg_Z} {b : Nat} {v : eg_v} (e : ∀ j, j < 12 → z' (b + j) = z (b + j)) (h : hP z b v) : hP z' b v := by
  have e0 := e 0 (by omega)
  rw [Nat.add_zero] at e0
  unfold hP at h ⊢
  rw [e0, e 1 (by omega), e 2 (by omega), e 3 (by omega), e 4 (by omega), e 5 (by omega), e 6 (by omega), e 7 (by omega), e 8 (by omega), e 9 (by omega), e 10 (by omega)]
  exact h
theorem hV_c {z z' : eg_Z} {b : Nat} {v : eg_v} (e : ∀ j, j < 12 → z' (b + j) = z (b + j)) (h : hV z b v) : hV z' b v := ⟨hP_k e h.1, hL_k (e 11 (by omega)) h.2.1, h.2.2⟩
theorem bec {k : eg_K} {z : eg_Z} {X : eg_M} {n b b2 : Nat} {v : eg_v} (hb : isB b = true) (hb2 : isB b2 = true) (hne : b ≠ b2) (h : hV z b2 v) : eg_P k gX2_become 2 0 0 [vR k b, vR k b2] n (enc k z X) (eg_p k none n X (fun z' => Md z z' b ∧ hV z' b v)) :=
  (c_X2_become hb hb2 hne h.1 h.2.2.1).weak (fun a b c ⟨e1, e2, z', e3, f1, f2, f3⟩ => ⟨e1, e2, z', e3, f1, f2, f3 h.2.1, h.2.2⟩)
/-- the history: the last d states, the oldest first -/
def hH (z : eg_Z) (d : Nat) (pa : Nat → eg_v) : Prop := (d ≤ 10 ∧ z 34 2 = (d : Int) ∧ 0 ≤ z 34 1 ∧ z 34 1 < 10) ∧ ∀ j : Nat, j < d → hV z (36 + 12 * ((z 34 1 + 10 - d + j) % 10).toNat) (pa j)
def puD (d : Nat) : Nat := if d < 10 then d + 1 else 10
def puP (d : Nat) (pa : Nat → eg_v) (v : eg_v) : Nat → eg_v := if d < 10 then va_up pa d v else fun j => if j = 9 then v else pa (j + 1)
theorem hH_push {z z' : eg_Z} {d : Nat} {pa : Nat → eg_v} {v : eg_v} (h : hH z d pa) (hM : ∀ c, c ≠ 34 → (c < 36 + 12 * (z 34 1).toNat ∨ 36 + 12 * (z 34 1).toNat + 12 ≤ c) → z' c = z c) (hv : hV z' (36 + 12 * (z 34 1).toNat) v) (h1 : z' 34 1 = (z 34 1 + 1) % 10) (h2 : z' 34 2 = if (10 : Int) < d + 1 then 10 else (d : Int) + 1) : hH z' (puD d) (puP d pa v) := by
  obtain ⟨⟨a1, a2, a3, a4⟩, a5⟩ := h
  unfold puD puP
  by_cases hd : d < 10
  · rw [if_pos hd, if_pos hd]
    rw [if_neg (by omega)] at h2
    refine ⟨⟨by omega, by rw [h2]; omega, by rw [h1]; omega, by rw [h1]; omega⟩, fun j hj => ?_⟩
    rw [h1]
    by_cases hjd : j = d
    · subst hjd
      rw [va_up_s, show ((z 34 1 + 1) % 10 + 10 - ((j + 1 : Nat) : Int) + (j : Int)) % 10 = z 34 1 by omega]
      exact hv
    · rw [va_up_n _ _ hjd, show ((z 34 1 + 1) % 10 + 10 - ((d + 1 : Nat) : Int) + (j : Int)) % 10 = (z 34 1 + 10 - d + j) % 10 by omega]
      exact hV_c (fun i hi => hM _ (by omega) (by omega)) (a5 j (by omega))
  · rw [if_neg hd, if_neg hd]
    have hd1 : d = 10 := by omega
    subst hd1
    rw [if_pos (by omega)] at h2
    refine ⟨⟨by omega, by rw [h2]; omega, by rw [h1]; omega, by rw [h1]; omega⟩, fun j hj => ?_⟩
    rw [h1]
    by_cases hjd : j = 9
    · subst hjd
      show hV z' _ (if (9 : Nat) = 9 then v else pa (9 + 1))
      rw [if_pos rfl, show ((z 34 1 + 1) % 10 + 10 - ((10 : Nat) : Int) + ((9 : Nat) : Int)) % 10 = z 34 1 by omega]
      exact hv
    · show hV z' _ (if j = 9 then v else pa (j + 1))
      rw [if_neg hjd, show ((z 34 1 + 1) % 10 + 10 - ((10 : Nat) : Int) + (j : Int)) % 10 = (z 34 1 + 10 - ((10 : Nat) : Int) + ((j + 1 : Nat) : Int)) % 10 by omega]
      exact hV_c (fun i hi => hM _ (by omega) (by omega)) (a5 (j + 1) (by omega))
theorem hH_pop {z z' : eg_Z} {d : Nat} {pa : Nat → eg_v} (hd : d ≠ 0) (h : hH z d pa) (hM : ∀ c, 35 ≤ c → z' c = z c) (h1 : z' 34 1 = (z 34 1 + 10 - 1) % 10) (h2 : z' 34 2 = (d : Int) - 1) : hH z' (d - 1) pa := by
  obtain ⟨⟨a1, a2, a3, a4⟩, a5⟩ := h
  refine ⟨⟨by omega, by rw [h2]; omega, by rw [h1]; omega, by rw [h1]; omega⟩, fun j hj => ?_⟩
  rw [h1, show ((z 34 1 + 10 - 1) % 10 + 10 - ((d - 1 : Nat) : Int) + (j : Int)) % 10 = (z 34 1 + 10 - d + j) % 10 by omega]
  exact hV_c (fun i hi => hM _ (by omega)) (a5 j (by omega))
theorem hH_c {z z' : eg_Z} {d : Nat} {pa : Nat → eg_v} (h : hH z d pa) (hM : ∀ c, 34 ≤ c → c < 156 → z' c = z c) : hH z' d pa := by
  obtain ⟨⟨a1, a2, a3, a4⟩, a5⟩ := h
  have e := hM 34 (by omega) (by omega)
  refine ⟨by rw [e]; exact ⟨a1, a2, a3, a4⟩, fun j hj => ?_⟩
  rw [e]
  exact hV_c (fun i hi => hM _ (by omega) (by omega)) (a5 j hj)
theorem c_X0_remember {k : eg_K} {z : eg_Z} {X : eg_M} {n : Nat} {d : Nat} {pa : Nat → eg_v} {v : eg_v} (hv : hV z 1 v) (h : hH z d pa) : eg_P k gX0_remember 3 0 0 [vR k 34, vR k 1] n (enc k z X) (eg_p k none n X (fun z' => (∀ c, (c < 34 ∨ 156 ≤ c) → z' c = z c) ∧ hH z' (puD d) (puP d pa v))) := by
  refine eg_P.of (by decide) (Nat.le_of_ble_eq_true rfl) ?_
  show eg_E k gX0_remember 3 0 0 n (enc k z X) [vR k 34, vR k 1] [] 0 _
  obtain ⟨⟨a1, a2, a3, a4⟩, a5⟩ := id h
  refine eg_al_n dX0_remember_0 rfl rfl ?_
  refine eg_get fl_X0_11 dX0_remember_1 (by first | exact er34 | exact er35 | exact er182 | exact er183 | exact er199 | exact er200 | exact er201 | exact ep0 isB_1 | exact ep0 (isB_ring _ (by omega))) rfl ?_
  refine eg_al_n dX0_remember_4 rfl rfl ?_
  refine eg_get fl_X0_17 dX0_remember_5 (by first | exact er34 | exact er35 | exact er182 | exact er183 | exact er199 | exact er200 | exact er201 | exact ep0 isB_1 | exact ep0 (isB_ring _ (by omega))) rfl ?_
  refine eg_aald dX0_remember_8 (by first | exact er34 | exact er35 | exact er182 | exact er183 | exact er199 | exact er200 | exact er201 | exact ep0 isB_1 | exact ep0 (isB_ring _ (by omega))) (by omega) (by omega) (by decide) (by rfl) ?_
  refine eg_al_n dX0_remember_9 rfl rfl ?_
  refine eg_Vpv1 cs_X0_25 dX0_remember_10 (bec (b := 36 + 12 * (z 34 1).toNat) (isB_ring _ (by omega)) isB_1 (by omega) hv) (by first | exact er34 | exact er35 | exact er182 | exact er183 | exact er199 | exact er200 | exact er201 | exact ep0 isB_1 | exact ep0 (isB_ring _ (by omega))) rfl (Nat.le_of_ble_eq_true rfl) (by decide) ?_
  rintro y1 ⟨hM, hv1⟩
  have e34 : y1 34 = z 34 := hM 34 (by omega)
  refine eg_al_n dX0_remember_13 rfl rfl ?_
  refine eg_al_n dX0_remember_14 rfl rfl ?_
  refine eg_get fl_X0_17 dX0_remember_15 (by first | exact er34 | exact er35 | exact er182 | exact er183 | exact er199 | exact er200 | exact er201 | exact ep0 isB_1 | exact ep0 (isB_ring _ (by omega))) rfl ?_
  rw [e34]
  refine eg_iconst dX0_remember_18 ?_
  refine eg_iadd dX0_remember_19 ?_
  refine eg_bipush dX0_remember_20 (by decide) ?_
  refine eg_irem dX0_remember_22 ⟨by omega, by omega⟩ ⟨by omega, by omega⟩ (by omega) (by omega) ?_
  refine eg_put fl_X0_17 dX0_remember_23 (by first | exact er34 | exact er35 | exact er182 | exact er183 | exact er199 | exact er200 | exact er201 | exact ep0 isB_1 | exact ep0 (isB_ring _ (by omega))) rfl rfl rfl rfl ?_
  refine eg_eqM es34_1 ?_
  refine eg_al_n dX0_remember_26 rfl rfl ?_
  refine eg_al_n dX0_remember_27 rfl rfl ?_
  refine eg_get fl_X0_21 dX0_remember_28 (by first | exact er34 | exact er35 | exact er182 | exact er183 | exact er199 | exact er200 | exact er201 | exact ep0 isB_1 | exact ep0 (isB_ring _ (by omega))) rfl ?_
  rw [va_up_s, va_up_n _ _ (show (2 : Nat) ≠ 1 by decide), e34, a2]
  refine eg_iconst dX0_remember_31 ?_
  refine eg_iadd dX0_remember_32 ?_
  refine eg_bipush dX0_remember_33 (by decide) ?_
  refine eg_mmin cs_X0_29 dX0_remember_35 ⟨by omega, by omega⟩ ⟨by omega, by omega⟩ (Nat.le_of_ble_eq_true rfl) (by decide) ?_
  refine eg_put fl_X0_21 dX0_remember_38 (by first | exact er34 | exact er35 | exact er182 | exact er183 | exact er199 | exact er200 | exact er201 | exact ep0 isB_1 | exact ep0 (isB_ring _ (by omega))) rfl rfl rfl rfl ?_
  refine eg_eqM es34_2 ?_
  refine eg_return dX0_remember_41 rfl ?_
  refine ⟨rfl, rfl, _, rfl, ?_, ?_⟩
  · intro c hc
    rw [va_up_n _ _ (by omega), va_up_n _ _ (by omega)]
    exact hM c (by omega)
  · refine hH_push h (fun c h1 h2 => ?_) (hV_c (fun j hj => ?_) hv1) ?_ ?_
    · rw [va_up_n _ _ h1, va_up_n _ _ h1]; exact hM c h2
    · rw [va_up_n _ _ (by omega), va_up_n _ _ (by omega)]
    · rw [va_up_s, va_up_n _ _ (by decide), va_up_s, va_up_s]
    · rw [va_up_s, va_up_s]
theorem c_X0_restore {k : eg_K} {z : eg_Z} {X : eg_M} {n : Nat} {d : Nat} {pa : Nat → eg_v} (hd : d ≠ 0) (h : hH z d pa) : eg_P k gX0_restore 3 0 0 [vR k 34, vR k 1] n (enc k z X) (eg_p k none n X (fun z' => (∀ c, (c < 1 ∨ 13 ≤ c) → c ≠ 34 → z' c = z c) ∧ hV z' 1 (pa (d - 1)) ∧ hH z' (d - 1) pa)) := by
  refine eg_P.of (by decide) (Nat.le_of_ble_eq_true rfl) ?_
  show eg_E k gX0_restore 3 0 0 n (enc k z X) [vR k 34, vR k 1] [] 0 _
  obtain ⟨⟨a1, a2, a3, a4⟩, a5⟩ := id h
  refine eg_al_n dX0_restore_0 rfl rfl ?_
  refine eg_get fl_X0_21 dX0_restore_1 (by first | exact er34 | exact er35 | exact er182 | exact er183 | exact er199 | exact er200 | exact er201 | exact ep0 isB_1 | exact ep0 (isB_ring _ (by omega))) rfl ?_
  rw [a2]
  refine eg_if_ne 8 dX0_restore_4 ⟨by omega, by omega⟩ rfl (fun h4 => ?_) (fun h4 => absurd h4 (by omega))
  refine eg_al_n dX0_restore_8 rfl rfl ?_
  refine eg_al_n dX0_restore_9 rfl rfl ?_
  refine eg_get fl_X0_17 dX0_restore_10 (by first | exact er34 | exact er35 | exact er182 | exact er183 | exact er199 | exact er200 | exact er201 | exact ep0 isB_1 | exact ep0 (isB_ring _ (by omega))) rfl ?_
  refine eg_bipush dX0_restore_13 (by decide) ?_
  refine eg_iadd dX0_restore_15 ?_
  refine eg_iconst dX0_restore_16 ?_
  refine eg_isub dX0_restore_17 ?_
  refine eg_bipush dX0_restore_18 (by decide) ?_
  refine eg_irem dX0_restore_20 ⟨by omega, by omega⟩ ⟨by omega, by omega⟩ (by omega) (by omega) ?_
  refine eg_put fl_X0_17 dX0_restore_21 (by first | exact er34 | exact er35 | exact er182 | exact er183 | exact er199 | exact er200 | exact er201 | exact ep0 isB_1 | exact ep0 (isB_ring _ (by omega))) rfl rfl rfl rfl ?_
  refine eg_eqM es34_1 ?_
  have hv9 : hV (va_up z 34 (va_up (z 34) 1 ((z 34 1 + 10 - 1) % 10))) (36 + 12 * ((z 34 1 + 10 - 1) % 10).toNat) (pa (d - 1)) := by
    have := a5 (d - 1) (by omega)
    rw [show (z 34 1 + 10 - (d : Int) + ((d - 1 : Nat) : Int)) % 10 = (z 34 1 + 10 - 1) % 10 by omega] at this
    exact hV_c (fun j hj => va_up_n _ _ (by omega)) this
  refine eg_al_n dX0_restore_24 rfl rfl ?_
  refine eg_al_n dX0_restore_25 rfl rfl ?_
  refine eg_get fl_X0_11 dX0_restore_26 (by first | exact er34 | exact er35 | exact er182 | exact er183 | exact er199 | exact er200 | exact er201 | exact ep0 isB_1 | exact ep0 (isB_ring _ (by omega))) rfl ?_
  refine eg_al_n dX0_restore_29 rfl rfl ?_
  refine eg_get fl_X0_17 dX0_restore_30 (by first | exact er34 | exact er35 | exact er182 | exact er183 | exact er199 | exact er200 | exact er201 | exact ep0 isB_1 | exact ep0 (isB_ring _ (by omega))) rfl ?_
  rw [va_up_s, va_up_s]
  refine eg_aald dX0_restore_33 (by first | exact er34 | exact er35 | exact er182 | exact er183 | exact er199 | exact er200 | exact er201 | exact ep0 isB_1 | exact ep0 (isB_ring _ (by omega))) (by omega) (by omega) (by decide) (by rfl) ?_
  refine eg_Vpv1 cs_X0_25 dX0_restore_34 (bec (b2 := 36 + 12 * ((z 34 1 + 10 - 1) % 10).toNat) isB_1 (isB_ring _ (by omega)) (by omega) hv9) (by first | exact er34 | exact er35 | exact er182 | exact er183 | exact er199 | exact er200 | exact er201 | exact ep0 isB_1 | exact ep0 (isB_ring _ (by omega))) rfl (Nat.le_of_ble_eq_true rfl) (by decide) ?_
  rintro y1 ⟨hM, hv1⟩
  have e34 : y1 34 = va_up z 34 (va_up (z 34) 1 ((z 34 1 + 10 - 1) % 10)) 34 := hM 34 (by omega)
  refine eg_al_n dX0_restore_37 rfl rfl ?_
  refine eg_dup dX0_restore_38 rfl ?_
  refine eg_get fl_X0_21 dX0_restore_39 (by first | exact er34 | exact er35 | exact er182 | exact er183 | exact er199 | exact er200 | exact er201 | exact ep0 isB_1 | exact ep0 (isB_ring _ (by omega))) rfl ?_
  rw [e34, va_up_s, va_up_n _ _ (show (2 : Nat) ≠ 1 by decide), a2]
  refine eg_iconst dX0_restore_42 ?_
  refine eg_isub dX0_restore_43 ?_
  refine eg_put fl_X0_21 dX0_restore_44 (by first | exact er34 | exact er35 | exact er182 | exact er183 | exact er199 | exact er200 | exact er201 | exact ep0 isB_1 | exact ep0 (isB_ring _ (by omega))) rfl rfl rfl rfl ?_
  refine eg_eqM es34_2 ?_
  refine eg_return dX0_restore_47 rfl ?_
  refine ⟨rfl, rfl, _, rfl, ?_, ?_, ?_⟩
  · intro c h1 h2
    rw [va_up_n _ _ (by omega), hM c (by omega), va_up_n _ _ (by omega)]
  · exact hV_c (fun j hj => by rw [va_up_n _ _ (by omega)]) hv1
  · refine hH_pop hd h (fun c hc => ?_) ?_ ?_
    · rw [va_up_n _ _ (by omega), hM c (by omega), va_up_n _ _ (by omega)]
    · rw [va_up_s, va_up_n _ _ (by decide), e34, va_up_s, va_up_s]
    · rw [va_up_s, va_up_s]
theorem c_X0_forget {k : eg_K} {z : eg_Z} {X : eg_M} {n : Nat} : eg_P k gX0_forget 0 0 0 [vR k 34] n (enc k z X) (eg_f none n (enc k (va_up z 34 (va_up (z 34) 2 0)) X)) := by
  refine eg_P.of (by decide) (Nat.le_of_ble_eq_true rfl) ?_
  show eg_E k gX0_forget 0 0 0 n (enc k z X) [vR k 34] [] 0 _
  refine eg_al_n dX0_forget_0 rfl rfl ?_
  refine eg_iconst dX0_forget_1 ?_
  refine eg_put fl_X0_21 dX0_forget_2 (by first | exact er34 | exact er35 | exact er182 | exact er183 | exact er199 | exact er200 | exact er201 | exact ep0 isB_1 | exact ep0 (isB_ring _ (by omega))) rfl rfl rfl rfl ?_
  refine eg_eqM es34_2 ?_
  refine eg_return dX0_forget_5 rfl ?_
  exact ⟨rfl, rfl, rfl⟩
/-- four bytes more -/
def apN (f : Nat → Int) (L : Nat) (x : Int) : Nat → Nat → Int
  | 0 => f
  | t + 1 => va_up (apN f L x t) (L + t) ((x / 2 ^ (24 - 8 * t)).bmod 256)
theorem bm_b (x : Int) : -128 ≤ x.bmod 256 ∧ x.bmod 256 < 128 := ⟨Int.le_bmod (by decide), Int.bmod_lt (by decide)⟩
theorem c_X6_hasRoom {k : eg_K} {z : eg_Z} {X : eg_M} {n : Nat} {L : Nat} (hL : L ≤ 400) (h1 : z 182 1 = (L : Int)) : eg_P k gX6_hasRoom 0 0 0 [vR k 182] n (enc k z X) (eg_f (some (vI (bi (L ≤ 380)))) n (enc k z X)) := by
  refine eg_P.of (by decide) (Nat.le_of_ble_eq_true rfl) ?_
  show eg_E k gX6_hasRoom 0 0 0 n (enc k z X) [vR k 182] [] 0 _
  refine eg_al_n dX6_hasRoom_0 rfl rfl ?_
  refine eg_get fl_X6_15 dX6_hasRoom_1 (by first | exact er34 | exact er35 | exact er182 | exact er183 | exact er199 | exact er200 | exact er201 | exact ep0 isB_1 | exact ep0 (isB_ring _ (by omega))) rfl ?_
  rw [h1]
  refine eg_bipush dX6_hasRoom_4 (by decide) ?_
  refine eg_iadd dX6_hasRoom_6 ?_
  refine eg_sipush dX6_hasRoom_7 (by decide) ?_
  refine eg_icmp_gt 17 dX6_hasRoom_10 ⟨by omega, by omega⟩ ⟨by omega, by omega⟩ rfl (fun h10 => ?_) (fun h10 => ?_)
  · refine eg_iconst dX6_hasRoom_17 ?_
    refine eg_ireturn dX6_hasRoom_18 rfl rfl ?_
    exact ⟨congrArg (fun q => some (vI q)) (by unfold bi; first | rw [if_pos (by omega)] | rw [if_neg (by omega)]), rfl, rfl⟩
  · refine eg_iconst dX6_hasRoom_13 ?_
    refine eg_goto 18 dX6_hasRoom_14 rfl ?_
    refine eg_ireturn dX6_hasRoom_18 rfl rfl ?_
    exact ⟨congrArg (fun q => some (vI q)) (by unfold bi; first | rw [if_pos (by omega)] | rw [if_neg (by omega)]), rfl, rfl⟩
theorem c_X6_at {k : eg_K} {z : eg_Z} {X : eg_M} {n : Nat} {L : Nat} {p : Int} (hL : L ≤ 400) (hl : z 182 1 = (L : Int)) (hp : iR p) : eg_P k gX6_at 0 0 0 [vR k 182, vI p] n (enc k z X) (eg_f (some (vI (if 0 ≤ p ∧ p < L then z 183 p.toNat % 256 else -1))) n (enc k z X)) := by
  refine eg_P.of (by decide) (Nat.le_of_ble_eq_true rfl) ?_
  show eg_E k gX6_at 0 0 0 n (enc k z X) [vR k 182, vI p] [] 0 _
  have hp1 := hp.1; have hp2 := hp.2
  refine eg_iload_n dX6_at_0 rfl ?_
  refine eg_if_lt 32 dX6_at_1 ⟨by omega, by omega⟩ rfl (fun h1 => ?_) (fun h1 => ?_)
  · refine eg_iconst dX6_at_32 ?_
    refine eg_ireturn dX6_at_33 rfl rfl ?_
    exact ⟨congrArg (fun q => some (vI q)) (by first | (rw [if_pos (by omega)]; rfl) | rw [if_neg (by omega)]), rfl, rfl⟩
  · refine eg_iload_n dX6_at_4 rfl ?_
    refine eg_al_n dX6_at_5 rfl rfl ?_
    refine eg_get fl_X6_15 dX6_at_6 (by first | exact er34 | exact er35 | exact er182 | exact er183 | exact er199 | exact er200 | exact er201 | exact ep0 isB_1 | exact ep0 (isB_ring _ (by omega))) rfl ?_
    rw [hl]
    refine eg_icmp_ge 32 dX6_at_9 ⟨by omega, by omega⟩ ⟨by omega, by omega⟩ rfl (fun h9 => ?_) (fun h9 => ?_)
    · refine eg_iconst dX6_at_32 ?_
      refine eg_ireturn dX6_at_33 rfl rfl ?_
      exact ⟨congrArg (fun q => some (vI q)) (by first | (rw [if_pos (by omega)]; rfl) | rw [if_neg (by omega)]), rfl, rfl⟩
    · refine eg_iload_n dX6_at_12 rfl ?_
      refine eg_sipush dX6_at_13 (by decide) ?_
      refine eg_icmp_ge 32 dX6_at_16 ⟨by omega, by omega⟩ ⟨by omega, by omega⟩ rfl (fun h16 => ?_) (fun h16 => ?_)
      · refine eg_iconst dX6_at_32 ?_
        refine eg_ireturn dX6_at_33 rfl rfl ?_
        exact ⟨congrArg (fun q => some (vI q)) (by first | (rw [if_pos (by omega)]; rfl) | rw [if_neg (by omega)]), rfl, rfl⟩
      · refine eg_al_n dX6_at_19 rfl rfl ?_
        refine eg_get fl_X6_9 dX6_at_20 (by first | exact er34 | exact er35 | exact er182 | exact er183 | exact er199 | exact er200 | exact er201 | exact ep0 isB_1 | exact ep0 (isB_ring _ (by omega))) rfl ?_
        refine eg_iload_n dX6_at_23 rfl ?_
        refine eg_bald dX6_at_24 (by first | exact er34 | exact er35 | exact er182 | exact er183 | exact er199 | exact er200 | exact er201 | exact ep0 isB_1 | exact ep0 (isB_ring _ (by omega))) (by omega) (by omega) (by decide) ?_
        refine eg_sipush dX6_at_25 (by decide) ?_
        refine eg_andM 8 dX6_at_28 (by decide) (by decide) ?_
        refine eg_goto 33 dX6_at_29 rfl ?_
        refine eg_ireturn dX6_at_33 rfl rfl ?_
        exact ⟨congrArg (fun q => some (vI q)) (by first | (rw [if_pos (by omega)]; rfl) | rw [if_neg (by omega)]), rfl, rfl⟩
theorem c_X6_append {k : eg_K} {z : eg_Z} {X : eg_M} {n : Nat} {L : Nat} {x : Int} (hL : L ≤ 396) (h1 : z 182 1 = (L : Int)) (hx : iR x) : eg_P k gX6_append 0 0 0 [vR k 182, vI x] n (enc k z X) (eg_p k none n X (fun z' => (∀ c, c ≠ 182 → c ≠ 183 → z' c = z c) ∧ z' 182 1 = (L : Int) + 4 ∧ z' 183 = apN (z 183) L x 4)) := by
  refine eg_P.of (by decide) (Nat.le_of_ble_eq_true rfl) ?_
  show eg_E k gX6_append 0 0 0 n (enc k z X) [vR k 182, vI x, vU] [] 0 _
  have hx1 := hx.1; have hx2 := hx.2
  have L : ∀ (m : Nat) (t : Nat) (y : eg_Z), t ≤ 4 → y 182 1 = (L : Int) + t → y 183 = apN (z 183) L x t → (∀ c, c ≠ 182 → c ≠ 183 → y c = z c) → 4 - (t : Int) < (m : Int) → eg_E k gX6_append 0 0 0 n (enc k y X) [vR k 182, vI x, vI (24 - 8 * (t : Int))] [] 3 (eg_p k none n X (fun z' => (∀ c, c ≠ 182 → c ≠ 183 → z' c = z c) ∧ z' 182 1 = (L : Int) + 4 ∧ z' 183 = apN (z 183) L x 4)) := by
    intro m
    induction m with
    | zero => intro t y ht b1 b2 b3 hm; exfalso; omega
    | succ m ih =>
      intro t y ht b1 b2 b3 hm
      refine eg_iload_n dX6_append_3 rfl ?_
      refine eg_if_lt 46 dX6_append_4 ⟨by omega, by omega⟩ rfl (fun h4 => ?_) (fun h4 => ?_)
      · refine eg_return dX6_append_46 rfl ?_
        have e9 : t = 4 := by omega
        subst e9
        exact ⟨rfl, rfl, y, rfl, b3, b1, b2⟩
      · refine eg_al_n dX6_append_7 rfl rfl ?_
        refine eg_get fl_X6_15 dX6_append_8 (by first | exact er34 | exact er35 | exact er182 | exact er183 | exact er199 | exact er200 | exact er201 | exact ep0 isB_1 | exact ep0 (isB_ring _ (by omega))) rfl ?_
        refine eg_sipush dX6_append_11 (by decide) ?_
        rw [b1]
        refine eg_icmp_ge 40 dX6_append_14 ⟨by omega, by omega⟩ ⟨by omega, by omega⟩ rfl (fun h14 => absurd h14 (by omega)) (fun h14 => ?_)
        refine eg_al_n dX6_append_17 rfl rfl ?_
        refine eg_get fl_X6_9 dX6_append_18 (by first | exact er34 | exact er35 | exact er182 | exact er183 | exact er199 | exact er200 | exact er201 | exact ep0 isB_1 | exact ep0 (isB_ring _ (by omega))) rfl ?_
        refine eg_al_n dX6_append_21 rfl rfl ?_
        refine eg_get fl_X6_15 dX6_append_22 (by first | exact er34 | exact er35 | exact er182 | exact er183 | exact er199 | exact er200 | exact er201 | exact ep0 isB_1 | exact ep0 (isB_ring _ (by omega))) rfl ?_
        rw [b1]
        refine eg_iload_n dX6_append_25 rfl ?_
        refine eg_iload_n dX6_append_26 rfl ?_
        obtain ⟨j, ej⟩ : ∃ j : Nat, (24 : Int) - 8 * t = (j : Int) := ⟨24 - 8 * t, by omega⟩
        rw [ej]
        refine eg_ishr dX6_append_27 ⟨by omega, by omega⟩ (by omega) ?_
        refine eg_i2b dX6_append_28 ?_
        refine eg_bast dX6_append_29 (by first | exact er34 | exact er35 | exact er182 | exact er183 | exact er199 | exact er200 | exact er201 | exact ep0 isB_1 | exact ep0 (isB_ring _ (by omega))) (by omega) (by omega) (by decide) nb_bm ?_
        refine eg_eqM (es183) ?_
        generalize w1 : va_up y 183 _ = y1
        have n1 : ∀ d, d ≠ 183 → y1 d = y d := fun d hd => by rw [← w1, va_up_n _ _ hd]
        have k1 : y1 183 = apN (z 183) L x (t + 1) := by
          rw [← w1, va_up_s, b2]
          show _ = va_up (apN (z 183) L x t) (L + t) _
          rw [show ((L : Int) + t).toNat = L + t by omega, show j = 24 - 8 * t by omega]
        refine eg_al_n dX6_append_30 rfl rfl ?_
        refine eg_dup dX6_append_31 rfl ?_
        refine eg_get fl_X6_15 dX6_append_32 (by first | exact er34 | exact er35 | exact er182 | exact er183 | exact er199 | exact er200 | exact er201 | exact ep0 isB_1 | exact ep0 (isB_ring _ (by omega))) rfl ?_
        rw [n1 _ (by decide), b1]
        refine eg_iconst dX6_append_35 ?_
        refine eg_iadd dX6_append_36 ?_
        refine eg_put fl_X6_15 dX6_append_37 (by first | exact er34 | exact er35 | exact er182 | exact er183 | exact er199 | exact er200 | exact er201 | exact ep0 isB_1 | exact ep0 (isB_ring _ (by omega))) rfl rfl rfl rfl ?_
        refine eg_eqM es182_1 ?_
        refine eg_iinc dX6_append_40 rfl rfl rfl ?_
        refine eg_goto 3 dX6_append_43 rfl ?_
        have := ih (t + 1) (va_up y1 182 (va_up (y1 182) 1 ((L : Int) + t + 1))) (by omega) (by rw [va_up_s, va_up_s]; omega) (by rw [va_up_n _ _ (by decide)]; exact k1) (fun c h1 h2 => by rw [va_up_n _ _ h1, n1 _ h2]; exact b3 c h1 h2) (by omega)
        rw [show (24 : Int) - 8 * ((t + 1 : Nat) : Int) = 24 - 8 * (t : Int) + -8 by omega] at this
        rw [← ej]
        exact this
  refine eg_bipush dX6_append_0 (by decide) ?_
  refine eg_istore_n dX6_append_2 rfl rfl rfl ?_
  exact L 5 0 z (by omega) (by rw [h1]; omega) rfl (fun _ _ _ => rfl) (by omega)
