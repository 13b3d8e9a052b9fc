/-- the start: nothing is held but the builder's row -/
def zzI : eg_Z := fun c j => if c = 197 then (if j = 0 then 198 else 0) else 0
def xxI (k : eg_K) : eg_M := fun c => if c = 198 then some (aB k 16 (fun _ => 0)) else none
def ffI (k : eg_K) : eg_M := enc k zzI (xxI k)
/-- while an object at b is made: it holds o, the cells behind it up to n are as F has them -/
def mkM (F M : eg_M) (b n : Nat) (o : va_E) : eg_M := fun c => if c = b then some o else if b < c ∧ c < n then F c else M c
def mkN (F M : eg_M) (b n : Nat) : eg_M := fun c => if b ≤ c ∧ c < n then F c else M c
theorem mkM_at {F M : eg_M} {b n : Nat} {o : va_E} : mkM F M b n o b = some o := if_pos rfl
theorem mkM_in {F M : eg_M} {b n c : Nat} {o : va_E} (h1 : b < c) (h2 : c < n) : mkM F M b n o c = F c := by
  unfold mkM; rw [if_neg (by omega), if_pos ⟨h1, h2⟩]
theorem mkM_put {F M : eg_M} {b n : Nat} {o o2 : va_E} : va_up (mkM F M b n o) b (some o2) = mkM F M b n o2 := by
  funext c; unfold va_up mkM
  by_cases h : c = b
  · rw [if_pos h, if_pos h]
  · rw [if_neg h, if_neg h, if_neg h]
theorem mkM_new {F M : eg_M} {b n : Nat} {o e : va_E} (hb : b < n) (hF : F n = some e) : va_up (mkM F M b n o) n (some e) = mkM F M b (n + 1) o := by
  funext c; unfold va_up mkM
  by_cases h : c = n
  · subst h; rw [if_pos rfl, if_neg (by omega), if_pos ⟨hb, by omega⟩, hF]
  · rw [if_neg h]
    by_cases h1 : c = b
    · rw [if_pos h1, if_pos h1]
    · rw [if_neg h1, if_neg h1]
      by_cases h2 : b < c ∧ c < n
      · rw [if_pos h2, if_pos ⟨h2.1, by omega⟩]
      · rw [if_neg h2, if_neg (by omega)]
theorem mkM_sub {F M : eg_M} {b n m : Nat} {o : va_E} {e : Option va_E} (hb : b < n) (hm : n < m) : mkN F (va_up (mkM F M b n o) n e) n m = mkM F M b m o := by
  funext c; unfold mkN va_up mkM
  by_cases h : n ≤ c ∧ c < m
  · rw [if_pos h, if_neg (by omega), if_pos ⟨by omega, h.2⟩]
  · rw [if_neg h, if_neg (by omega)]
    by_cases h1 : c = b
    · rw [if_pos h1, if_pos h1]
    · rw [if_neg h1, if_neg h1]
      by_cases h2 : b < c ∧ c < n
      · rw [if_pos h2, if_pos ⟨h2.1, by omega⟩]
      · rw [if_neg h2, if_neg (by omega)]
theorem mkM_st {F M : eg_M} {b : Nat} {o : va_E} (h : M b = some o) : M = mkM F M b (b + 1) o := by
  funext c; unfold mkM
  by_cases h1 : c = b
  · rw [if_pos h1, h1, h]
  · rw [if_neg h1, if_neg (by omega)]
theorem mkM_end {F M : eg_M} {b n : Nat} {o : va_E} (hb : b < n) (h : F b = some o) : mkM F M b n o = mkN F M b n := by
  funext c; unfold mkM mkN
  by_cases h1 : c = b
  · subst h1; rw [if_pos rfl, if_pos ⟨Nat.le_refl _, hb⟩, h]
  · rw [if_neg h1]
    by_cases h2 : b < c ∧ c < n
    · rw [if_pos h2, if_pos ⟨by omega, h2.2⟩]
    · rw [if_neg h2, if_neg (by omega)]
/-- a row that is filled while another object is made: nested -/
theorem mkM_nest {F M : eg_M} {b n m : Nat} {o e : va_E} (hb : b < n) (hm : n < m) (h : F n = some e) : mkM F (mkM F M b n o) n m e = mkM F M b m o := by
  rw [mkM_end hm h]
  funext c; unfold mkN mkM
  by_cases h : n ≤ c ∧ c < m
  · rw [if_pos h, if_neg (by omega), if_pos ⟨by omega, h.2⟩]
  · rw [if_neg h]
    by_cases h1 : c = b
    · rw [if_pos h1, if_pos h1]
    · rw [if_neg h1, if_neg h1]
      by_cases h2 : b < c ∧ c < n
      · rw [if_pos h2, if_pos ⟨h2.1, by omega⟩]
      · rw [if_neg h2, if_neg (by omega)]
theorem mkM_two {F M : eg_M} {b n : Nat} {o e : va_E} : va_up (mkM F M b n o) n (some e) = mkM F (mkM F M b n o) n (n + 1) e := by
  funext c; unfold va_up
  by_cases h : c = n
  · subst h; rw [if_pos rfl, mkM_at]
  · rw [if_neg h]
    show _ = (if c = n then _ else _)
    rw [if_neg h, if_neg (by omega)]
theorem mkM_put2 {F M : eg_M} {b n m : Nat} {o o2 e : va_E} (hb : b < n) : va_up (mkM F (mkM F M b n o) n m e) b (some o2) = mkM F (mkM F M b n o2) n m e := by
  funext c; unfold va_up mkM
  by_cases h : c = b
  · subst h; rw [if_pos rfl, if_neg (by omega), if_neg (by omega), if_pos rfl]
  · rw [if_neg h]
    by_cases h1 : c = n
    · rw [if_pos h1, if_pos h1]
    · rw [if_neg h1, if_neg h1]
      by_cases h2 : n < c ∧ c < m
      · rw [if_pos h2, if_pos h2]
      · rw [if_neg h2, if_neg h2, if_neg h, if_neg h]
theorem zzI_n {c : Nat} (h : c ≠ 197) : zzI c = fun _ => 0 := by funext j; unfold zzI; rw [if_neg h]
theorem ffP {k : eg_K} {b j : Nat} (hb : isB b = true) (hj : j < 12) : ffI k (b + j) = some (shP k b j (fun _ => 0)) := by
  have h1 := pbs_b b (isB_lt hb) hb j hj
  have h2 : b + j ≠ 197 := fun e => by rw [e, show pbs 197 = none by decide] at h1; cases h1
  have h3 := enc_at (k := k) (z := zzI) (X := xxI k) (shA_p (k := k) (f := zzI (b + j)) hb hj)
  rw [zzI_n h2] at h3
  exact h3
theorem ff_0 {k : eg_K} : ffI k 0 = some (oO 9 [vR k 1, vR k 13, vR k 25, vR k 34, vR k 156, vI 0, vR k 181, vR k 196, vR k 199]) := enc_at (k := k) (z := zzI) (X := xxI k) (c := 0) rfl
theorem ff_25 {k : eg_K} : ffI k 25 = some (oO 5 [vR k 26, vR k 27, vR k 28, vR k 29, vR k 30, vR k 31, vR k 32, vR k 33, vI 0]) := enc_at (k := k) (z := zzI) (X := xxI k) (c := 25) rfl
theorem ff_26 {k : eg_K} : ffI k 26 = some (aI k 16 (fun _ => 0)) := enc_at (k := k) (z := zzI) (X := xxI k) (c := 26) rfl
theorem ff_27 {k : eg_K} : ffI k 27 = some (aI k 16 (fun _ => 0)) := enc_at (k := k) (z := zzI) (X := xxI k) (c := 27) rfl
theorem ff_28 {k : eg_K} : ffI k 28 = some (aI k 16 (fun _ => 0)) := enc_at (k := k) (z := zzI) (X := xxI k) (c := 28) rfl
theorem ff_29 {k : eg_K} : ffI k 29 = some (aI k 46 (fun _ => 0)) := enc_at (k := k) (z := zzI) (X := xxI k) (c := 29) rfl
theorem ff_30 {k : eg_K} : ffI k 30 = some (aI k 46 (fun _ => 0)) := enc_at (k := k) (z := zzI) (X := xxI k) (c := 30) rfl
theorem ff_31 {k : eg_K} : ffI k 31 = some (aI k 16 (fun _ => 0)) := enc_at (k := k) (z := zzI) (X := xxI k) (c := 31) rfl
theorem ff_32 {k : eg_K} : ffI k 32 = some (aI k 16 (fun _ => 0)) := enc_at (k := k) (z := zzI) (X := xxI k) (c := 32) rfl
theorem ff_33 {k : eg_K} : ffI k 33 = some (aI k 16 (fun _ => 0)) := enc_at (k := k) (z := zzI) (X := xxI k) (c := 33) rfl
theorem ff_34 {k : eg_K} : ffI k 34 = some (oO 1 [vR k 35, vI 0, vI 0]) := enc_at (k := k) (z := zzI) (X := xxI k) (c := 34) rfl
theorem ff_35 {k : eg_K} : ffI k 35 = some (aP k 10 ringf) := enc_at (k := k) (z := zzI) (X := xxI k) (c := 35) rfl
theorem ff_156 {k : eg_K} : ffI k 156 = some (aP k 2 shlf) := enc_at (k := k) (z := zzI) (X := xxI k) (c := 156) rfl
theorem ff_181 {k : eg_K} : ffI k 181 = some (oO 4 [vR k 182, vR k 184, vI 0, vI 0, vI 0, vI 0]) := enc_at (k := k) (z := zzI) (X := xxI k) (c := 181) rfl
theorem ff_182 {k : eg_K} : ffI k 182 = some (oO 7 [vR k 183, vI 0]) := enc_at (k := k) (z := zzI) (X := xxI k) (c := 182) rfl
theorem ff_183 {k : eg_K} : ffI k 183 = some (aB k 400 (fun _ => 0)) := enc_at (k := k) (z := zzI) (X := xxI k) (c := 183) rfl
theorem ff_196 {k : eg_K} : ffI k 196 = some (oO 8 [vR k 197]) := enc_at (k := k) (z := zzI) (X := xxI k) (c := 196) rfl
theorem ff_197 {k : eg_K} : ffI k 197 = some (oO 0 [vR k 198, vI 0, vI 0, vI 0]) := enc_at (k := k) (z := zzI) (X := xxI k) (c := 197) rfl
theorem ff_199 {k : eg_K} : ffI k 199 = some (oO 2 [vR k 200, vR k 201, vI 0]) := enc_at (k := k) (z := zzI) (X := xxI k) (c := 199) rfl
theorem ff_200 {k : eg_K} : ffI k 200 = some (aI k 6 (fun _ => 0)) := enc_at (k := k) (z := zzI) (X := xxI k) (c := 200) rfl
theorem ff_201 {k : eg_K} : ffI k 201 = some (aI k 18 (fun _ => 0)) := enc_at (k := k) (z := zzI) (X := xxI k) (c := 201) rfl
theorem ff_202 {k : eg_K} : ffI k 202 = some (oO 10 [vR k 203, vR k 204, vR k 205, vR k 206, vR k 207, vR k 208, vI 0, vR k 209, vI 0, vI 0, vI 0, vI 0, vR k 210, vR k 211, vR k 212, vR k 213, vR k 214, vR k 215, vI 0, vI 0, vI 0]) := enc_at (k := k) (z := zzI) (X := xxI k) (c := 202) rfl
theorem ff_203 {k : eg_K} : ffI k 203 = some (aL k 220 (fun _ => 0)) := enc_at (k := k) (z := zzI) (X := xxI k) (c := 203) rfl
theorem ff_204 {k : eg_K} : ffI k 204 = some (aL k 220 (fun _ => 0)) := enc_at (k := k) (z := zzI) (X := xxI k) (c := 204) rfl
theorem ff_205 {k : eg_K} : ffI k 205 = some (aL k 220 (fun _ => 0)) := enc_at (k := k) (z := zzI) (X := xxI k) (c := 205) rfl
theorem ff_206 {k : eg_K} : ffI k 206 = some (aL k 2200 (fun _ => 0)) := enc_at (k := k) (z := zzI) (X := xxI k) (c := 206) rfl
theorem ff_207 {k : eg_K} : ffI k 207 = some (aL k 440 (fun _ => 0)) := enc_at (k := k) (z := zzI) (X := xxI k) (c := 207) rfl
theorem ff_208 {k : eg_K} : ffI k 208 = some (aZ k 2 (fun _ => 0)) := enc_at (k := k) (z := zzI) (X := xxI k) (c := 208) rfl
theorem ff_209 {k : eg_K} : ffI k 209 = some (aB k 400 (fun _ => 0)) := enc_at (k := k) (z := zzI) (X := xxI k) (c := 209) rfl
theorem ff_210 {k : eg_K} : ffI k 210 = some (aI k 36 (fun _ => 0)) := enc_at (k := k) (z := zzI) (X := xxI k) (c := 210) rfl
theorem ff_211 {k : eg_K} : ffI k 211 = some (aI k 16 (fun _ => 0)) := enc_at (k := k) (z := zzI) (X := xxI k) (c := 211) rfl
theorem ff_212 {k : eg_K} : ffI k 212 = some (aI k 16 (fun _ => 0)) := enc_at (k := k) (z := zzI) (X := xxI k) (c := 212) rfl
theorem ff_213 {k : eg_K} : ffI k 213 = some (aI k 16 (fun _ => 0)) := enc_at (k := k) (z := zzI) (X := xxI k) (c := 213) rfl
theorem ff_214 {k : eg_K} : ffI k 214 = some (aI k 16 (fun _ => 0)) := enc_at (k := k) (z := zzI) (X := xxI k) (c := 214) rfl
theorem ff_215 {k : eg_K} : ffI k 215 = some (aI k 16 (fun _ => 0)) := enc_at (k := k) (z := zzI) (X := xxI k) (c := 215) rfl
theorem ff_198 {k : eg_K} : ffI k 198 = some (aB k 16 (fun _ => 0)) := enc_x (Or.inl rfl)
theorem eg_newN {k : eg_K} {g : eg_G} {d bc bs n : Nat} {M : eg_M} {ls st : List Value} {pc : Nat} {Q : eg_Q} {idx ci bc' bs' N : Nat} {fs : List Value} (hf : eg_nw g.1.cls idx ci fs) (hd : decode g.2.1 pc = .ok (.new idx, 3)) (hN : fs.length = N) (hbc : bc = 1 + bc') (hbs : bs = N + bs') (h : eg_E k g d bc' bs' (n + 1) (va_up M n (some (oO ci fs))) ls (vR k n :: st) (pc + 3) Q) : eg_E k g d bc bs n (M) ls (st) (pc) Q := eg_new hf hd hbc (by rw [hN]; exact hbs) h
theorem c_X5_init {k : eg_K} {M : eg_M} {t C N : Nat} {x y : Int} (hx : x = (C : Int)) (hy : y = (N : Int)) (hC : C ≤ 16) (hN : N ≤ 16) (hF0 : ffI k t = some (oO 6 [vI x, vI y, vR k (t + 1), vI 0])) (hF1 : ffI k (t + 1) = some (aI k (C * N) (fun _ => 0))) (hM : M t = some (oO 6 [vI 0, vI 0, .null, vI 0])) : eg_P k gX5_init 1 1 (C * N) [vR k t, vI x, vI y] (t + 1) M (eg_f none (t + 2) (mkN (ffI k) M t (t + 2))) := by
  refine eg_P.of (by decide) (Nat.le_of_ble_eq_true rfl) ?_
  show eg_E k gX5_init 1 1 (C * N) (t + 1) M [vR k t, vI x, vI y] [] 0 _
  have hb : C * N ≤ 65536 := Nat.le_trans (Nat.mul_le_mul hC hN) (by decide)
  refine eg_eqM (mkM_st (F := ffI k) hM) ?_
  refine eg_al_n dX5_init_0 rfl rfl ?_
  refine eg_oI oi_X5_3 dX5_init_1 (Nat.le_of_ble_eq_true rfl) (by decide) ?_
  refine eg_al_n dX5_init_4 rfl rfl ?_
  refine eg_iconst dX5_init_5 ?_
  refine eg_put fl_X5_9 dX5_init_6 mkM_at rfl rfl rfl (fs' := [vI 0, vI 0, .null, vI 0]) rfl ?_
  refine eg_eqM mkM_put ?_
  refine eg_al_n dX5_init_9 rfl rfl ?_
  refine eg_iload_n dX5_init_10 rfl ?_
  refine eg_iconst dX5_init_11 ?_
  refine eg_mmax cs_X5_15 dX5_init_12 ⟨by omega, by omega⟩ ⟨by omega, by omega⟩ (Nat.le_of_ble_eq_true rfl) (by decide) ?_
  refine eg_eqI (y := x) (by rw [if_neg (by omega)]) ?_
  refine eg_putF fF_X5_21 rfl dX5_init_15 mkM_at rfl rfl rfl (fs' := [vI x, vI 0, .null, vI 0]) rfl ?_
  refine eg_eqM mkM_put ?_
  refine eg_al_n dX5_init_18 rfl rfl ?_
  refine eg_iload_n dX5_init_19 rfl ?_
  refine eg_iconst dX5_init_20 ?_
  refine eg_mmax cs_X5_15 dX5_init_21 ⟨by omega, by omega⟩ ⟨by omega, by omega⟩ (Nat.le_of_ble_eq_true rfl) (by decide) ?_
  refine eg_eqI (y := y) (by rw [if_neg (by omega)]) ?_
  refine eg_putF fF_X5_24 rfl dX5_init_24 mkM_at rfl rfl rfl (fs' := [vI x, vI y, .null, vI 0]) rfl ?_
  refine eg_eqM mkM_put ?_
  refine eg_al_n dX5_init_27 rfl rfl ?_
  refine eg_al_n dX5_init_28 rfl rfl ?_
  refine eg_get fl_X5_21 dX5_init_29 mkM_at rfl ?_
  refine eg_al_n dX5_init_32 rfl rfl ?_
  refine eg_get fl_X5_24 dX5_init_33 mkM_at rfl ?_
  refine eg_imul dX5_init_36 ?_
  refine eg_nwI (N := C * N) (bc' := 0) (bs' := 0) ka_int dX5_init_37 (by rw [hx, hy, Int.natCast_mul]) hb (by omega) (by omega) ?_
  refine eg_eqM (mkM_new (by omega) hF1) ?_
  refine eg_putF fF_X5_27 rfl dX5_init_39 mkM_at rfl rfl rfl (fs' := [vI x, vI y, vR k (t + 1), vI 0]) rfl ?_
  refine eg_eqM mkM_put ?_
  refine eg_return dX5_init_42 rfl ?_
  exact ⟨rfl, rfl, mkM_end (by omega) hF0⟩
theorem c_X2_init {k : eg_K} {M : eg_M} {b : Nat} (hb : isB b = true) (hM : M (b) = some (oO 3 [vI 0, vI 0, vI 0, vI 0, .null, .null, .null, .null, .null, .null, .null])) : eg_P k gX2_init 2 11 (228) [vR k (b)] (b + 1) M (eg_f none (b + 12) (mkN (ffI k) M (b) (b + 12))) := by
  refine eg_P.of (by decide) (Nat.le_of_ble_eq_true rfl) ?_
  show eg_E k gX2_init 2 11 (228) (b + 1) M [vR k b] [] 0 _
  refine eg_eqM (mkM_st (F := ffI k) hM) ?_
  refine eg_al_n dX2_init_0 rfl rfl ?_
  refine eg_oI oi_X2_3 dX2_init_1 (Nat.le_of_ble_eq_true rfl) (by decide) ?_
  refine eg_al_n dX2_init_4 rfl rfl ?_
  refine eg_iconst dX2_init_5 ?_
  refine eg_put fl_X2_9 dX2_init_6 mkM_at rfl rfl rfl (fs' := [vI 0, vI 0, vI 0, vI 0, .null, .null, .null, .null, .null, .null, .null]) rfl ?_
  refine eg_eqM mkM_put ?_
  refine eg_al_n dX2_init_9 rfl rfl ?_
  refine eg_iconst dX2_init_10 ?_
  refine eg_put fl_X2_15 dX2_init_11 mkM_at rfl rfl rfl (fs' := [vI 0, vI 0, vI 0, vI 0, .null, .null, .null, .null, .null, .null, .null]) rfl ?_
  refine eg_eqM mkM_put ?_
  refine eg_al_n dX2_init_14 rfl rfl ?_
  refine eg_iconst dX2_init_15 ?_
  refine eg_put fl_X2_18 dX2_init_16 mkM_at rfl rfl rfl (fs' := [vI 0, vI 0, vI 0, vI 0, .null, .null, .null, .null, .null, .null, .null]) rfl ?_
  refine eg_eqM mkM_put ?_
  refine eg_al_n dX2_init_19 rfl rfl ?_
  refine eg_iconst dX2_init_20 ?_
  refine eg_put fl_X2_21 dX2_init_21 mkM_at rfl rfl rfl (fs' := [vI 0, vI 0, vI 0, vI 0, .null, .null, .null, .null, .null, .null, .null]) rfl ?_
  refine eg_eqM mkM_put ?_
  refine eg_al_n dX2_init_24 rfl rfl ?_
  refine eg_newN (N := 4) (bc' := 10) (bs' := 224) nw_X2_24 dX2_init_25 rfl (by omega) (by omega) ?_
  refine eg_dup dX2_init_28 rfl ?_
  refine eg_iconst dX2_init_29 ?_
  refine eg_bipush dX2_init_30 (by decide) ?_
  refine eg_cI (As := [vI 2, vI 7]) (bc' := 9) (bs' := 210) cs_X2_26 dX2_init_32 (c_X5_init (t := b + 1) (C := 2) (N := 7) rfl rfl (by decide) (by decide) (ffP (j := 1) hb (by decide)) (ffP (j := 2) hb (by decide)) (va_up_s _ _ _)) rfl (Nat.le_of_ble_eq_true rfl) (by decide) (by omega) (by omega) ?_
  rintro _ _ _ ⟨rfl, rfl, rfl⟩
  refine eg_eqM (mkM_sub (by omega) (by omega)) ?_
  show eg_E k gX2_init 2 9 (210) (b + 3) (mkM (ffI k) M (b) (b + 3) (oO 3 [vI 0, vI 0, vI 0, vI 0, .null, .null, .null, .null, .null, .null, .null])) [vR k b] [vR k (b + 1), vR k (b)] 35 _
  refine eg_putF fF_X2_29 rfl dX2_init_35 mkM_at rfl rfl rfl (fs' := [vI 0, vI 0, vI 0, vI 0, vR k (b + 1), .null, .null, .null, .null, .null, .null]) rfl ?_
  refine eg_eqM mkM_put ?_
  refine eg_al_n dX2_init_38 rfl rfl ?_
  refine eg_newN (N := 4) (bc' := 8) (bs' := 206) nw_X2_24 dX2_init_39 rfl (by omega) (by omega) ?_
  refine eg_dup dX2_init_42 rfl ?_
  refine eg_iconst dX2_init_43 ?_
  refine eg_bipush dX2_init_44 (by decide) ?_
  refine eg_cI (As := [vI 4, vI 10]) (bc' := 7) (bs' := 166) cs_X2_26 dX2_init_46 (c_X5_init (t := b + 3) (C := 4) (N := 10) rfl rfl (by decide) (by decide) (ffP (j := 3) hb (by decide)) (ffP (j := 4) hb (by decide)) (va_up_s _ _ _)) rfl (Nat.le_of_ble_eq_true rfl) (by decide) (by omega) (by omega) ?_
  rintro _ _ _ ⟨rfl, rfl, rfl⟩
  refine eg_eqM (mkM_sub (by omega) (by omega)) ?_
  show eg_E k gX2_init 2 7 (166) (b + 5) (mkM (ffI k) M (b) (b + 5) (oO 3 [vI 0, vI 0, vI 0, vI 0, vR k (b + 1), .null, .null, .null, .null, .null, .null])) [vR k b] [vR k (b + 3), vR k (b)] 49 _
  refine eg_putF fF_X2_33 rfl dX2_init_49 mkM_at rfl rfl rfl (fs' := [vI 0, vI 0, vI 0, vI 0, vR k (b + 1), vR k (b + 3), .null, .null, .null, .null, .null]) rfl ?_
  refine eg_eqM mkM_put ?_
  refine eg_al_n dX2_init_52 rfl rfl ?_
  refine eg_newN (N := 4) (bc' := 6) (bs' := 162) nw_X2_24 dX2_init_53 rfl (by omega) (by omega) ?_
  refine eg_dup dX2_init_56 rfl ?_
  refine eg_bipush dX2_init_57 (by decide) ?_
  refine eg_bipush dX2_init_59 (by decide) ?_
  refine eg_cI (As := [vI 6, vI 6]) (bc' := 5) (bs' := 126) cs_X2_26 dX2_init_61 (c_X5_init (t := b + 5) (C := 6) (N := 6) rfl rfl (by decide) (by decide) (ffP (j := 5) hb (by decide)) (ffP (j := 6) hb (by decide)) (va_up_s _ _ _)) rfl (Nat.le_of_ble_eq_true rfl) (by decide) (by omega) (by omega) ?_
  rintro _ _ _ ⟨rfl, rfl, rfl⟩
  refine eg_eqM (mkM_sub (by omega) (by omega)) ?_
  show eg_E k gX2_init 2 5 (126) (b + 7) (mkM (ffI k) M (b) (b + 7) (oO 3 [vI 0, vI 0, vI 0, vI 0, vR k (b + 1), vR k (b + 3), .null, .null, .null, .null, .null])) [vR k b] [vR k (b + 5), vR k (b)] 64 _
  refine eg_putF fF_X2_36 rfl dX2_init_64 mkM_at rfl rfl rfl (fs' := [vI 0, vI 0, vI 0, vI 0, vR k (b + 1), vR k (b + 3), vR k (b + 5), .null, .null, .null, .null]) rfl ?_
  refine eg_eqM mkM_put ?_
  refine eg_al_n dX2_init_67 rfl rfl ?_
  refine eg_newN (N := 4) (bc' := 4) (bs' := 122) nw_X2_24 dX2_init_68 rfl (by omega) (by omega) ?_
  refine eg_dup dX2_init_71 rfl ?_
  refine eg_iconst dX2_init_72 ?_
  refine eg_bipush dX2_init_73 (by decide) ?_
  refine eg_cI (As := [vI 4, vI 16]) (bc' := 3) (bs' := 58) cs_X2_26 dX2_init_75 (c_X5_init (t := b + 7) (C := 4) (N := 16) rfl rfl (by decide) (by decide) (ffP (j := 7) hb (by decide)) (ffP (j := 8) hb (by decide)) (va_up_s _ _ _)) rfl (Nat.le_of_ble_eq_true rfl) (by decide) (by omega) (by omega) ?_
  rintro _ _ _ ⟨rfl, rfl, rfl⟩
  refine eg_eqM (mkM_sub (by omega) (by omega)) ?_
  show eg_E k gX2_init 2 3 (58) (b + 9) (mkM (ffI k) M (b) (b + 9) (oO 3 [vI 0, vI 0, vI 0, vI 0, vR k (b + 1), vR k (b + 3), vR k (b + 5), .null, .null, .null, .null])) [vR k b] [vR k (b + 7), vR k (b)] 78 _
  refine eg_putF fF_X2_39 rfl dX2_init_78 mkM_at rfl rfl rfl (fs' := [vI 0, vI 0, vI 0, vI 0, vR k (b + 1), vR k (b + 3), vR k (b + 5), vR k (b + 7), .null, .null, .null]) rfl ?_
  refine eg_eqM mkM_put ?_
  refine eg_al_n dX2_init_81 rfl rfl ?_
  refine eg_bipush dX2_init_82 (by decide) ?_
  refine eg_nwL (N := 6) (bc' := 2) (bs' := 52) ka_long dX2_init_84 rfl (Nat.le_of_ble_eq_true rfl) (by omega) (by omega) ?_
  refine eg_eqM (mkM_new (by omega) (ffP (j := 9) hb (by decide))) ?_
  show eg_E k gX2_init 2 2 (52) (b + 10) (mkM (ffI k) M (b) (b + 10) (oO 3 [vI 0, vI 0, vI 0, vI 0, vR k (b + 1), vR k (b + 3), vR k (b + 5), vR k (b + 7), .null, .null, .null])) [vR k b] [vR k (b + 9), vR k (b)] 86 _
  refine eg_putF fF_X2_42 rfl dX2_init_86 mkM_at rfl rfl rfl (fs' := [vI 0, vI 0, vI 0, vI 0, vR k (b + 1), vR k (b + 3), vR k (b + 5), vR k (b + 7), vR k (b + 9), .null, .null]) rfl ?_
  refine eg_eqM mkM_put ?_
  refine eg_al_n dX2_init_89 rfl rfl ?_
  refine eg_iconst dX2_init_90 ?_
  refine eg_nwL (N := 4) (bc' := 1) (bs' := 48) ka_long dX2_init_91 rfl (Nat.le_of_ble_eq_true rfl) (by omega) (by omega) ?_
  refine eg_eqM (mkM_new (by omega) (ffP (j := 10) hb (by decide))) ?_
  show eg_E k gX2_init 2 1 (48) (b + 11) (mkM (ffI k) M (b) (b + 11) (oO 3 [vI 0, vI 0, vI 0, vI 0, vR k (b + 1), vR k (b + 3), vR k (b + 5), vR k (b + 7), vR k (b + 9), .null, .null])) [vR k b] [vR k (b + 10), vR k (b)] 93 _
  refine eg_putF fF_X2_46 rfl dX2_init_93 mkM_at rfl rfl rfl (fs' := [vI 0, vI 0, vI 0, vI 0, vR k (b + 1), vR k (b + 3), vR k (b + 5), vR k (b + 7), vR k (b + 9), vR k (b + 10), .null]) rfl ?_
  refine eg_eqM mkM_put ?_
  refine eg_al_n dX2_init_96 rfl rfl ?_
  refine eg_bipush dX2_init_97 (by decide) ?_
  refine eg_nwI (N := 48) (bc' := 0) (bs' := 0) ka_int dX2_init_99 rfl (Nat.le_of_ble_eq_true rfl) (by omega) (by omega) ?_
  refine eg_eqM (mkM_new (by omega) (ffP (j := 11) hb (by decide))) ?_
  show eg_E k gX2_init 2 0 (0) (b + 12) (mkM (ffI k) M (b) (b + 12) (oO 3 [vI 0, vI 0, vI 0, vI 0, vR k (b + 1), vR k (b + 3), vR k (b + 5), vR k (b + 7), vR k (b + 9), vR k (b + 10), .null])) [vR k b] [vR k (b + 11), vR k (b)] 101 _
  refine eg_putF fF_X2_49 rfl dX2_init_101 mkM_at rfl rfl rfl (fs' := [vI 0, vI 0, vI 0, vI 0, vR k (b + 1), vR k (b + 3), vR k (b + 5), vR k (b + 7), vR k (b + 9), vR k (b + 10), vR k (b + 11)]) rfl ?_
  refine eg_eqM mkM_put ?_
  refine eg_return dX2_init_104 rfl ?_
  exact ⟨rfl, rfl, mkM_end (by omega) (ffP (j := 0) hb (by decide))⟩
theorem c_X4_init {k : eg_K} {M : eg_M} (hM : M (25) = some (oO 5 [.null, .null, .null, .null, .null, .null, .null, .null, vI 0])) : eg_P k gX4_init 1 8 (188) [vR k (25)] (26) M (eg_f none (34) (mkN (ffI k) M (25) (34))) := by
  refine eg_P.of (by decide) (Nat.le_of_ble_eq_true rfl) ?_
  show eg_E k gX4_init 1 8 (188) (26) M [vR k 25] [] 0 _
  refine eg_eqM (mkM_st (F := ffI k) hM) ?_
  refine eg_al_n dX4_init_0 rfl rfl ?_
  refine eg_oI oi_X4_5 dX4_init_1 (Nat.le_of_ble_eq_true rfl) (by decide) ?_
  refine eg_al_n dX4_init_4 rfl rfl ?_
  refine eg_bipush dX4_init_5 (by decide) ?_
  refine eg_nwI (N := 16) (bc' := 7) (bs' := 172) ka_int dX4_init_7 rfl (Nat.le_of_ble_eq_true rfl) (by omega) (by omega) ?_
  refine eg_eqM (mkM_new (by omega) (ff_26)) ?_
  show eg_E k gX4_init 1 7 (172) (27) (mkM (ffI k) M (25) (27) (oO 5 [.null, .null, .null, .null, .null, .null, .null, .null, vI 0])) [vR k 25] [vR k (26), vR k (25)] 9 _
  refine eg_putF fF_X4_11 rfl dX4_init_9 mkM_at rfl rfl rfl (fs' := [vR k (26), .null, .null, .null, .null, .null, .null, .null, vI 0]) rfl ?_
  refine eg_eqM mkM_put ?_
  refine eg_al_n dX4_init_12 rfl rfl ?_
  refine eg_bipush dX4_init_13 (by decide) ?_
  refine eg_nwI (N := 16) (bc' := 6) (bs' := 156) ka_int dX4_init_15 rfl (Nat.le_of_ble_eq_true rfl) (by omega) (by omega) ?_
  refine eg_eqM (mkM_new (by omega) (ff_27)) ?_
  show eg_E k gX4_init 1 6 (156) (28) (mkM (ffI k) M (25) (28) (oO 5 [vR k (26), .null, .null, .null, .null, .null, .null, .null, vI 0])) [vR k 25] [vR k (27), vR k (25)] 17 _
  refine eg_putF fF_X4_15 rfl dX4_init_17 mkM_at rfl rfl rfl (fs' := [vR k (26), vR k (27), .null, .null, .null, .null, .null, .null, vI 0]) rfl ?_
  refine eg_eqM mkM_put ?_
  refine eg_al_n dX4_init_20 rfl rfl ?_
  refine eg_bipush dX4_init_21 (by decide) ?_
  refine eg_nwI (N := 16) (bc' := 5) (bs' := 140) ka_int dX4_init_23 rfl (Nat.le_of_ble_eq_true rfl) (by omega) (by omega) ?_
  refine eg_eqM (mkM_new (by omega) (ff_28)) ?_
  show eg_E k gX4_init 1 5 (140) (29) (mkM (ffI k) M (25) (29) (oO 5 [vR k (26), vR k (27), .null, .null, .null, .null, .null, .null, vI 0])) [vR k 25] [vR k (28), vR k (25)] 25 _
  refine eg_putF fF_X4_18 rfl dX4_init_25 mkM_at rfl rfl rfl (fs' := [vR k (26), vR k (27), vR k (28), .null, .null, .null, .null, .null, vI 0]) rfl ?_
  refine eg_eqM mkM_put ?_
  refine eg_al_n dX4_init_28 rfl rfl ?_
  refine eg_bipush dX4_init_29 (by decide) ?_
  refine eg_nwI (N := 46) (bc' := 4) (bs' := 94) ka_int dX4_init_31 rfl (Nat.le_of_ble_eq_true rfl) (by omega) (by omega) ?_
  refine eg_eqM (mkM_new (by omega) (ff_29)) ?_
  show eg_E k gX4_init 1 4 (94) (30) (mkM (ffI k) M (25) (30) (oO 5 [vR k (26), vR k (27), vR k (28), .null, .null, .null, .null, .null, vI 0])) [vR k 25] [vR k (29), vR k (25)] 33 _
  refine eg_putF fF_X4_21 rfl dX4_init_33 mkM_at rfl rfl rfl (fs' := [vR k (26), vR k (27), vR k (28), vR k (29), .null, .null, .null, .null, vI 0]) rfl ?_
  refine eg_eqM mkM_put ?_
  refine eg_al_n dX4_init_36 rfl rfl ?_
  refine eg_bipush dX4_init_37 (by decide) ?_
  refine eg_nwI (N := 46) (bc' := 3) (bs' := 48) ka_int dX4_init_39 rfl (Nat.le_of_ble_eq_true rfl) (by omega) (by omega) ?_
  refine eg_eqM (mkM_new (by omega) (ff_30)) ?_
  show eg_E k gX4_init 1 3 (48) (31) (mkM (ffI k) M (25) (31) (oO 5 [vR k (26), vR k (27), vR k (28), vR k (29), .null, .null, .null, .null, vI 0])) [vR k 25] [vR k (30), vR k (25)] 41 _
  refine eg_putF fF_X4_24 rfl dX4_init_41 mkM_at rfl rfl rfl (fs' := [vR k (26), vR k (27), vR k (28), vR k (29), vR k (30), .null, .null, .null, vI 0]) rfl ?_
  refine eg_eqM mkM_put ?_
  refine eg_al_n dX4_init_44 rfl rfl ?_
  refine eg_bipush dX4_init_45 (by decide) ?_
  refine eg_nwI (N := 16) (bc' := 2) (bs' := 32) ka_int dX4_init_47 rfl (Nat.le_of_ble_eq_true rfl) (by omega) (by omega) ?_
  refine eg_eqM (mkM_new (by omega) (ff_31)) ?_
  show eg_E k gX4_init 1 2 (32) (32) (mkM (ffI k) M (25) (32) (oO 5 [vR k (26), vR k (27), vR k (28), vR k (29), vR k (30), .null, .null, .null, vI 0])) [vR k 25] [vR k (31), vR k (25)] 49 _
  refine eg_putF fF_X4_27 rfl dX4_init_49 mkM_at rfl rfl rfl (fs' := [vR k (26), vR k (27), vR k (28), vR k (29), vR k (30), vR k (31), .null, .null, vI 0]) rfl ?_
  refine eg_eqM mkM_put ?_
  refine eg_al_n dX4_init_52 rfl rfl ?_
  refine eg_bipush dX4_init_53 (by decide) ?_
  refine eg_nwI (N := 16) (bc' := 1) (bs' := 16) ka_int dX4_init_55 rfl (Nat.le_of_ble_eq_true rfl) (by omega) (by omega) ?_
  refine eg_eqM (mkM_new (by omega) (ff_32)) ?_
  show eg_E k gX4_init 1 1 (16) (33) (mkM (ffI k) M (25) (33) (oO 5 [vR k (26), vR k (27), vR k (28), vR k (29), vR k (30), vR k (31), .null, .null, vI 0])) [vR k 25] [vR k (32), vR k (25)] 57 _
  refine eg_putF fF_X4_30 rfl dX4_init_57 mkM_at rfl rfl rfl (fs' := [vR k (26), vR k (27), vR k (28), vR k (29), vR k (30), vR k (31), vR k (32), .null, vI 0]) rfl ?_
  refine eg_eqM mkM_put ?_
  refine eg_al_n dX4_init_60 rfl rfl ?_
  refine eg_bipush dX4_init_61 (by decide) ?_
  refine eg_nwI (N := 16) (bc' := 0) (bs' := 0) ka_int dX4_init_63 rfl (Nat.le_of_ble_eq_true rfl) (by omega) (by omega) ?_
  refine eg_eqM (mkM_new (by omega) (ff_33)) ?_
  show eg_E k gX4_init 1 0 (0) (34) (mkM (ffI k) M (25) (34) (oO 5 [vR k (26), vR k (27), vR k (28), vR k (29), vR k (30), vR k (31), vR k (32), .null, vI 0])) [vR k 25] [vR k (33), vR k (25)] 65 _
  refine eg_putF fF_X4_33 rfl dX4_init_65 mkM_at rfl rfl rfl (fs' := [vR k (26), vR k (27), vR k (28), vR k (29), vR k (30), vR k (31), vR k (32), vR k (33), vI 0]) rfl ?_
  refine eg_eqM mkM_put ?_
  refine eg_al_n dX4_init_68 rfl rfl ?_
  refine eg_iconst dX4_init_69 ?_
  refine eg_put fl_X4_36 dX4_init_70 mkM_at rfl rfl rfl (fs' := [vR k (26), vR k (27), vR k (28), vR k (29), vR k (30), vR k (31), vR k (32), vR k (33), vI 0]) rfl ?_
  refine eg_eqM mkM_put ?_
  refine eg_return dX4_init_73 rfl ?_
  exact ⟨rfl, rfl, mkM_end (by omega) (ff_25)⟩
theorem c_X6_init {k : eg_K} {M : eg_M} (hM : M (182) = some (oO 7 [.null, vI 0])) : eg_P k gX6_init 1 1 (400) [vR k (182)] (183) M (eg_f none (184) (mkN (ffI k) M (182) (184))) := by
  refine eg_P.of (by decide) (Nat.le_of_ble_eq_true rfl) ?_
  show eg_E k gX6_init 1 1 (400) (183) M [vR k 182] [] 0 _
  refine eg_eqM (mkM_st (F := ffI k) hM) ?_
  refine eg_al_n dX6_init_0 rfl rfl ?_
  refine eg_oI oi_X6_3 dX6_init_1 (Nat.le_of_ble_eq_true rfl) (by decide) ?_
  refine eg_al_n dX6_init_4 rfl rfl ?_
  refine eg_sipush dX6_init_5 (by decide) ?_
  refine eg_nwB (N := 400) (bc' := 0) (bs' := 0) ka_byte dX6_init_8 rfl (Nat.le_of_ble_eq_true rfl) (by omega) (by omega) ?_
  refine eg_eqM (mkM_new (by omega) (ff_183)) ?_
  show eg_E k gX6_init 1 0 (0) (184) (mkM (ffI k) M (182) (184) (oO 7 [.null, vI 0])) [vR k 182] [vR k (183), vR k (182)] 10 _
  refine eg_putF fF_X6_9 rfl dX6_init_10 mkM_at rfl rfl rfl (fs' := [vR k (183), vI 0]) rfl ?_
  refine eg_eqM mkM_put ?_
  refine eg_al_n dX6_init_13 rfl rfl ?_
  refine eg_iconst dX6_init_14 ?_
  refine eg_put fl_X6_15 dX6_init_15 mkM_at rfl rfl rfl (fs' := [vR k (183), vI 0]) rfl ?_
  refine eg_eqM mkM_put ?_
  refine eg_return dX6_init_18 rfl ?_
  exact ⟨rfl, rfl, mkM_end (by omega) (ff_182)⟩
theorem c_X3_init {k : eg_K} {M : eg_M} (hM : M (181) = some (oO 4 [.null, .null, vI 0, vI 0, vI 0, vI 0])) : eg_P k gX3_init 3 14 (641) [vR k (181)] (182) M (eg_f none (196) (mkN (ffI k) M (181) (196))) := by
  refine eg_P.of (by decide) (Nat.le_of_ble_eq_true rfl) ?_
  show eg_E k gX3_init 3 14 (641) (182) M [vR k 181] [] 0 _
  refine eg_eqM (mkM_st (F := ffI k) hM) ?_
  refine eg_al_n dX3_init_0 rfl rfl ?_
  refine eg_oI oi_X3_3 dX3_init_1 (Nat.le_of_ble_eq_true rfl) (by decide) ?_
  refine eg_al_n dX3_init_4 rfl rfl ?_
  refine eg_newN (N := 2) (bc' := 13) (bs' := 639) nw_X3_9 dX3_init_5 rfl (by omega) (by omega) ?_
  refine eg_dup dX3_init_8 rfl ?_
  refine eg_cIN (As := []) (bc' := 12) (bs' := 239) cs_X3_11 dX3_init_9 (c_X6_init (va_up_s _ _ _)) rfl (Nat.le_of_ble_eq_true rfl) (by decide) (by omega) (by omega) ?_
  rintro _ _ _ ⟨rfl, rfl, rfl⟩
  refine eg_eqM (mkM_sub (by omega) (by omega)) ?_
  show eg_E k gX3_init 3 12 (239) (184) (mkM (ffI k) M (181) (184) (oO 4 [.null, .null, vI 0, vI 0, vI 0, vI 0])) [vR k 181] [vR k (182), vR k (181)] 12 _
  refine eg_putF fF_X3_12 rfl dX3_init_12 mkM_at rfl rfl rfl (fs' := [vR k (182), .null, vI 0, vI 0, vI 0, vI 0]) rfl ?_
  refine eg_eqM mkM_put ?_
  refine eg_al_n dX3_init_15 rfl rfl ?_
  refine eg_newN (N := 11) (bc' := 11) (bs' := 228) nw_X3_18 dX3_init_16 rfl (by omega) (by omega) ?_
  refine eg_dup dX3_init_19 rfl ?_
  refine eg_cIN (As := []) (bc' := 0) (bs' := 0) cs_X3_20 dX3_init_20 (c_X2_init (b := 184) (by decide) (va_up_s _ _ _)) rfl (Nat.le_of_ble_eq_true rfl) (by decide) (by omega) (by omega) ?_
  rintro _ _ _ ⟨rfl, rfl, rfl⟩
  refine eg_eqM (mkM_sub (by omega) (by omega)) ?_
  show eg_E k gX3_init 3 0 (0) (196) (mkM (ffI k) M (181) (196) (oO 4 [vR k (182), .null, vI 0, vI 0, vI 0, vI 0])) [vR k 181] [vR k (184), vR k (181)] 23 _
  refine eg_putF fF_X3_21 rfl dX3_init_23 mkM_at rfl rfl rfl (fs' := [vR k (182), vR k (184), vI 0, vI 0, vI 0, vI 0]) rfl ?_
  refine eg_eqM mkM_put ?_
  refine eg_al_n dX3_init_26 rfl rfl ?_
  refine eg_iconst dX3_init_27 ?_
  refine eg_put fl_X3_25 dX3_init_28 mkM_at rfl rfl rfl (fs' := [vR k (182), vR k (184), vI 0, vI 0, vI 0, vI 0]) rfl ?_
  refine eg_eqM mkM_put ?_
  refine eg_al_n dX3_init_31 rfl rfl ?_
  refine eg_iconst dX3_init_32 ?_
  refine eg_put fl_X3_29 dX3_init_33 mkM_at rfl rfl rfl (fs' := [vR k (182), vR k (184), vI 0, vI 0, vI 0, vI 0]) rfl ?_
  refine eg_eqM mkM_put ?_
  refine eg_al_n dX3_init_36 rfl rfl ?_
  refine eg_iconst dX3_init_37 ?_
  refine eg_put fl_X3_32 dX3_init_38 mkM_at rfl rfl rfl (fs' := [vR k (182), vR k (184), vI 0, vI 0, vI 0, vI 0]) rfl ?_
  refine eg_eqM mkM_put ?_
  refine eg_al_n dX3_init_41 rfl rfl ?_
  refine eg_iconst dX3_init_42 ?_
  refine eg_put fl_X3_35 dX3_init_43 mkM_at rfl rfl rfl (fs' := [vR k (182), vR k (184), vI 0, vI 0, vI 0, vI 0]) rfl ?_
  refine eg_eqM mkM_put ?_
  refine eg_return dX3_init_46 rfl ?_
  exact ⟨rfl, rfl, mkM_end (by omega) (ff_181)⟩
theorem c_X1_init {k : eg_K} {M : eg_M} (hM : M (199) = some (oO 2 [.null, .null, vI 0])) : eg_P k gX1_init 1 2 (24) [vR k (199)] (200) M (eg_f none (202) (mkN (ffI k) M (199) (202))) := by
  refine eg_P.of (by decide) (Nat.le_of_ble_eq_true rfl) ?_
  show eg_E k gX1_init 1 2 (24) (200) M [vR k 199] [] 0 _
  refine eg_eqM (mkM_st (F := ffI k) hM) ?_
  refine eg_al_n dX1_init_0 rfl rfl ?_
  refine eg_oI oi_X1_3 dX1_init_1 (Nat.le_of_ble_eq_true rfl) (by decide) ?_
  refine eg_al_n dX1_init_4 rfl rfl ?_
  refine eg_bipush dX1_init_5 (by decide) ?_
  refine eg_nwI (N := 6) (bc' := 1) (bs' := 18) ka_int dX1_init_7 rfl (Nat.le_of_ble_eq_true rfl) (by omega) (by omega) ?_
  refine eg_eqM (mkM_new (by omega) (ff_200)) ?_
  show eg_E k gX1_init 1 1 (18) (201) (mkM (ffI k) M (199) (201) (oO 2 [.null, .null, vI 0])) [vR k 199] [vR k (200), vR k (199)] 9 _
  refine eg_putF fF_X1_9 rfl dX1_init_9 mkM_at rfl rfl rfl (fs' := [vR k (200), .null, vI 0]) rfl ?_
  refine eg_eqM mkM_put ?_
  refine eg_al_n dX1_init_12 rfl rfl ?_
  refine eg_bipush dX1_init_13 (by decide) ?_
  refine eg_nwI (N := 18) (bc' := 0) (bs' := 0) ka_int dX1_init_15 rfl (Nat.le_of_ble_eq_true rfl) (by omega) (by omega) ?_
  refine eg_eqM (mkM_new (by omega) (ff_201)) ?_
  show eg_E k gX1_init 1 0 (0) (202) (mkM (ffI k) M (199) (202) (oO 2 [vR k (200), .null, vI 0])) [vR k 199] [vR k (201), vR k (199)] 17 _
  refine eg_putF fF_X1_15 rfl dX1_init_17 mkM_at rfl rfl rfl (fs' := [vR k (200), vR k (201), vI 0]) rfl ?_
  refine eg_eqM mkM_put ?_
  refine eg_al_n dX1_init_20 rfl rfl ?_
  refine eg_iconst dX1_init_21 ?_
  refine eg_put fl_X1_18 dX1_init_22 mkM_at rfl rfl rfl (fs' := [vR k (200), vR k (201), vI 0]) rfl ?_
  refine eg_eqM mkM_put ?_
  refine eg_return dX1_init_25 rfl ?_
  exact ⟨rfl, rfl, mkM_end (by omega) (ff_199)⟩
theorem c_X9_init {k : eg_K} {M : eg_M} (hM : M (202) = some (oO 10 [.null, .null, .null, .null, .null, .null, vI 0, .null, vI 0, vI 0, vI 0, vI 0, .null, .null, .null, .null, .null, .null, vI 0, vI 0, vI 0])) : eg_P k gX9_init 1 13 (3818) [vR k (202)] (203) M (eg_f none (216) (mkN (ffI k) M (202) (216))) := by
  refine eg_P.of (by decide) (Nat.le_of_ble_eq_true rfl) ?_
  show eg_E k gX9_init 1 13 (3818) (203) M [vR k 202] [] 0 _
  refine eg_eqM (mkM_st (F := ffI k) hM) ?_
  refine eg_al_n dX9_init_0 rfl rfl ?_
  refine eg_oI oi_X9_1 dX9_init_1 (Nat.le_of_ble_eq_true rfl) (by decide) ?_
  refine eg_al_n dX9_init_4 rfl rfl ?_
  refine eg_sipush dX9_init_5 (by decide) ?_
  refine eg_nwL (N := 220) (bc' := 12) (bs' := 3598) ka_long dX9_init_8 rfl (Nat.le_of_ble_eq_true rfl) (by omega) (by omega) ?_
  refine eg_eqM (mkM_new (by omega) (ff_203)) ?_
  show eg_E k gX9_init 1 12 (3598) (204) (mkM (ffI k) M (202) (204) (oO 10 [.null, .null, .null, .null, .null, .null, vI 0, .null, vI 0, vI 0, vI 0, vI 0, .null, .null, .null, .null, .null, .null, vI 0, vI 0, vI 0])) [vR k 202] [vR k (203), vR k (202)] 10 _
  refine eg_putF fF_X9_9 rfl dX9_init_10 mkM_at rfl rfl rfl (fs' := [vR k (203), .null, .null, .null, .null, .null, vI 0, .null, vI 0, vI 0, vI 0, vI 0, .null, .null, .null, .null, .null, .null, vI 0, vI 0, vI 0]) rfl ?_
  refine eg_eqM mkM_put ?_
  refine eg_al_n dX9_init_13 rfl rfl ?_
  refine eg_sipush dX9_init_14 (by decide) ?_
  refine eg_nwL (N := 220) (bc' := 11) (bs' := 3378) ka_long dX9_init_17 rfl (Nat.le_of_ble_eq_true rfl) (by omega) (by omega) ?_
  refine eg_eqM (mkM_new (by omega) (ff_204)) ?_
  show eg_E k gX9_init 1 11 (3378) (205) (mkM (ffI k) M (202) (205) (oO 10 [vR k (203), .null, .null, .null, .null, .null, vI 0, .null, vI 0, vI 0, vI 0, vI 0, .null, .null, .null, .null, .null, .null, vI 0, vI 0, vI 0])) [vR k 202] [vR k (204), vR k (202)] 19 _
  refine eg_putF fF_X9_13 rfl dX9_init_19 mkM_at rfl rfl rfl (fs' := [vR k (203), vR k (204), .null, .null, .null, .null, vI 0, .null, vI 0, vI 0, vI 0, vI 0, .null, .null, .null, .null, .null, .null, vI 0, vI 0, vI 0]) rfl ?_
  refine eg_eqM mkM_put ?_
  refine eg_al_n dX9_init_22 rfl rfl ?_
  refine eg_sipush dX9_init_23 (by decide) ?_
  refine eg_nwL (N := 220) (bc' := 10) (bs' := 3158) ka_long dX9_init_26 rfl (Nat.le_of_ble_eq_true rfl) (by omega) (by omega) ?_
  refine eg_eqM (mkM_new (by omega) (ff_205)) ?_
  show eg_E k gX9_init 1 10 (3158) (206) (mkM (ffI k) M (202) (206) (oO 10 [vR k (203), vR k (204), .null, .null, .null, .null, vI 0, .null, vI 0, vI 0, vI 0, vI 0, .null, .null, .null, .null, .null, .null, vI 0, vI 0, vI 0])) [vR k 202] [vR k (205), vR k (202)] 28 _
  refine eg_putF fF_X9_16 rfl dX9_init_28 mkM_at rfl rfl rfl (fs' := [vR k (203), vR k (204), vR k (205), .null, .null, .null, vI 0, .null, vI 0, vI 0, vI 0, vI 0, .null, .null, .null, .null, .null, .null, vI 0, vI 0, vI 0]) rfl ?_
  refine eg_eqM mkM_put ?_
  refine eg_al_n dX9_init_31 rfl rfl ?_
  refine eg_sipush dX9_init_32 (by decide) ?_
  refine eg_nwL (N := 2200) (bc' := 9) (bs' := 958) ka_long dX9_init_35 rfl (Nat.le_of_ble_eq_true rfl) (by omega) (by omega) ?_
  refine eg_eqM (mkM_new (by omega) (ff_206)) ?_
  show eg_E k gX9_init 1 9 (958) (207) (mkM (ffI k) M (202) (207) (oO 10 [vR k (203), vR k (204), vR k (205), .null, .null, .null, vI 0, .null, vI 0, vI 0, vI 0, vI 0, .null, .null, .null, .null, .null, .null, vI 0, vI 0, vI 0])) [vR k 202] [vR k (206), vR k (202)] 37 _
  refine eg_putF fF_X9_19 rfl dX9_init_37 mkM_at rfl rfl rfl (fs' := [vR k (203), vR k (204), vR k (205), vR k (206), .null, .null, vI 0, .null, vI 0, vI 0, vI 0, vI 0, .null, .null, .null, .null, .null, .null, vI 0, vI 0, vI 0]) rfl ?_
  refine eg_eqM mkM_put ?_
  refine eg_al_n dX9_init_40 rfl rfl ?_
  refine eg_sipush dX9_init_41 (by decide) ?_
  refine eg_nwL (N := 440) (bc' := 8) (bs' := 518) ka_long dX9_init_44 rfl (Nat.le_of_ble_eq_true rfl) (by omega) (by omega) ?_
  refine eg_eqM (mkM_new (by omega) (ff_207)) ?_
  show eg_E k gX9_init 1 8 (518) (208) (mkM (ffI k) M (202) (208) (oO 10 [vR k (203), vR k (204), vR k (205), vR k (206), .null, .null, vI 0, .null, vI 0, vI 0, vI 0, vI 0, .null, .null, .null, .null, .null, .null, vI 0, vI 0, vI 0])) [vR k 202] [vR k (207), vR k (202)] 46 _
  refine eg_putF fF_X9_22 rfl dX9_init_46 mkM_at rfl rfl rfl (fs' := [vR k (203), vR k (204), vR k (205), vR k (206), vR k (207), .null, vI 0, .null, vI 0, vI 0, vI 0, vI 0, .null, .null, .null, .null, .null, .null, vI 0, vI 0, vI 0]) rfl ?_
  refine eg_eqM mkM_put ?_
  refine eg_al_n dX9_init_49 rfl rfl ?_
  refine eg_iconst dX9_init_50 ?_
  refine eg_nwZ (N := 2) (bc' := 7) (bs' := 516) ka_boolean dX9_init_51 rfl (Nat.le_of_ble_eq_true rfl) (by omega) (by omega) ?_
  refine eg_eqM (mkM_new (by omega) (ff_208)) ?_
  show eg_E k gX9_init 1 7 (516) (209) (mkM (ffI k) M (202) (209) (oO 10 [vR k (203), vR k (204), vR k (205), vR k (206), vR k (207), .null, vI 0, .null, vI 0, vI 0, vI 0, vI 0, .null, .null, .null, .null, .null, .null, vI 0, vI 0, vI 0])) [vR k 202] [vR k (208), vR k (202)] 53 _
  refine eg_putF fF_X9_25 rfl dX9_init_53 mkM_at rfl rfl rfl (fs' := [vR k (203), vR k (204), vR k (205), vR k (206), vR k (207), vR k (208), vI 0, .null, vI 0, vI 0, vI 0, vI 0, .null, .null, .null, .null, .null, .null, vI 0, vI 0, vI 0]) rfl ?_
  refine eg_eqM mkM_put ?_
  refine eg_al_n dX9_init_56 rfl rfl ?_
  refine eg_sipush dX9_init_57 (by decide) ?_
  refine eg_nwB (N := 400) (bc' := 6) (bs' := 116) ka_byte dX9_init_60 rfl (Nat.le_of_ble_eq_true rfl) (by omega) (by omega) ?_
  refine eg_eqM (mkM_new (by omega) (ff_209)) ?_
  show eg_E k gX9_init 1 6 (116) (210) (mkM (ffI k) M (202) (210) (oO 10 [vR k (203), vR k (204), vR k (205), vR k (206), vR k (207), vR k (208), vI 0, .null, vI 0, vI 0, vI 0, vI 0, .null, .null, .null, .null, .null, .null, vI 0, vI 0, vI 0])) [vR k 202] [vR k (209), vR k (202)] 62 _
  refine eg_putF fF_X9_29 rfl dX9_init_62 mkM_at rfl rfl rfl (fs' := [vR k (203), vR k (204), vR k (205), vR k (206), vR k (207), vR k (208), vI 0, vR k (209), vI 0, vI 0, vI 0, vI 0, .null, .null, .null, .null, .null, .null, vI 0, vI 0, vI 0]) rfl ?_
  refine eg_eqM mkM_put ?_
  refine eg_al_n dX9_init_65 rfl rfl ?_
  refine eg_bipush dX9_init_66 (by decide) ?_
  refine eg_nwI (N := 36) (bc' := 5) (bs' := 80) ka_int dX9_init_68 rfl (Nat.le_of_ble_eq_true rfl) (by omega) (by omega) ?_
  refine eg_eqM (mkM_new (by omega) (ff_210)) ?_
  show eg_E k gX9_init 1 5 (80) (211) (mkM (ffI k) M (202) (211) (oO 10 [vR k (203), vR k (204), vR k (205), vR k (206), vR k (207), vR k (208), vI 0, vR k (209), vI 0, vI 0, vI 0, vI 0, .null, .null, .null, .null, .null, .null, vI 0, vI 0, vI 0])) [vR k 202] [vR k (210), vR k (202)] 70 _
  refine eg_putF fF_X9_33 rfl dX9_init_70 mkM_at rfl rfl rfl (fs' := [vR k (203), vR k (204), vR k (205), vR k (206), vR k (207), vR k (208), vI 0, vR k (209), vI 0, vI 0, vI 0, vI 0, vR k (210), .null, .null, .null, .null, .null, vI 0, vI 0, vI 0]) rfl ?_
  refine eg_eqM mkM_put ?_
  refine eg_al_n dX9_init_73 rfl rfl ?_
  refine eg_bipush dX9_init_74 (by decide) ?_
  refine eg_nwI (N := 16) (bc' := 4) (bs' := 64) ka_int dX9_init_76 rfl (Nat.le_of_ble_eq_true rfl) (by omega) (by omega) ?_
  refine eg_eqM (mkM_new (by omega) (ff_211)) ?_
  show eg_E k gX9_init 1 4 (64) (212) (mkM (ffI k) M (202) (212) (oO 10 [vR k (203), vR k (204), vR k (205), vR k (206), vR k (207), vR k (208), vI 0, vR k (209), vI 0, vI 0, vI 0, vI 0, vR k (210), .null, .null, .null, .null, .null, vI 0, vI 0, vI 0])) [vR k 202] [vR k (211), vR k (202)] 78 _
  refine eg_putF fF_X9_37 rfl dX9_init_78 mkM_at rfl rfl rfl (fs' := [vR k (203), vR k (204), vR k (205), vR k (206), vR k (207), vR k (208), vI 0, vR k (209), vI 0, vI 0, vI 0, vI 0, vR k (210), vR k (211), .null, .null, .null, .null, vI 0, vI 0, vI 0]) rfl ?_
  refine eg_eqM mkM_put ?_
  refine eg_al_n dX9_init_81 rfl rfl ?_
  refine eg_bipush dX9_init_82 (by decide) ?_
  refine eg_nwI (N := 16) (bc' := 3) (bs' := 48) ka_int dX9_init_84 rfl (Nat.le_of_ble_eq_true rfl) (by omega) (by omega) ?_
  refine eg_eqM (mkM_new (by omega) (ff_212)) ?_
  show eg_E k gX9_init 1 3 (48) (213) (mkM (ffI k) M (202) (213) (oO 10 [vR k (203), vR k (204), vR k (205), vR k (206), vR k (207), vR k (208), vI 0, vR k (209), vI 0, vI 0, vI 0, vI 0, vR k (210), vR k (211), .null, .null, .null, .null, vI 0, vI 0, vI 0])) [vR k 202] [vR k (212), vR k (202)] 86 _
  refine eg_putF fF_X9_40 rfl dX9_init_86 mkM_at rfl rfl rfl (fs' := [vR k (203), vR k (204), vR k (205), vR k (206), vR k (207), vR k (208), vI 0, vR k (209), vI 0, vI 0, vI 0, vI 0, vR k (210), vR k (211), vR k (212), .null, .null, .null, vI 0, vI 0, vI 0]) rfl ?_
  refine eg_eqM mkM_put ?_
  refine eg_al_n dX9_init_89 rfl rfl ?_
  refine eg_bipush dX9_init_90 (by decide) ?_
  refine eg_nwI (N := 16) (bc' := 2) (bs' := 32) ka_int dX9_init_92 rfl (Nat.le_of_ble_eq_true rfl) (by omega) (by omega) ?_
  refine eg_eqM (mkM_new (by omega) (ff_213)) ?_
  show eg_E k gX9_init 1 2 (32) (214) (mkM (ffI k) M (202) (214) (oO 10 [vR k (203), vR k (204), vR k (205), vR k (206), vR k (207), vR k (208), vI 0, vR k (209), vI 0, vI 0, vI 0, vI 0, vR k (210), vR k (211), vR k (212), .null, .null, .null, vI 0, vI 0, vI 0])) [vR k 202] [vR k (213), vR k (202)] 94 _
  refine eg_putF fF_X9_43 rfl dX9_init_94 mkM_at rfl rfl rfl (fs' := [vR k (203), vR k (204), vR k (205), vR k (206), vR k (207), vR k (208), vI 0, vR k (209), vI 0, vI 0, vI 0, vI 0, vR k (210), vR k (211), vR k (212), vR k (213), .null, .null, vI 0, vI 0, vI 0]) rfl ?_
  refine eg_eqM mkM_put ?_
  refine eg_al_n dX9_init_97 rfl rfl ?_
  refine eg_bipush dX9_init_98 (by decide) ?_
  refine eg_nwI (N := 16) (bc' := 1) (bs' := 16) ka_int dX9_init_100 rfl (Nat.le_of_ble_eq_true rfl) (by omega) (by omega) ?_
  refine eg_eqM (mkM_new (by omega) (ff_214)) ?_
  show eg_E k gX9_init 1 1 (16) (215) (mkM (ffI k) M (202) (215) (oO 10 [vR k (203), vR k (204), vR k (205), vR k (206), vR k (207), vR k (208), vI 0, vR k (209), vI 0, vI 0, vI 0, vI 0, vR k (210), vR k (211), vR k (212), vR k (213), .null, .null, vI 0, vI 0, vI 0])) [vR k 202] [vR k (214), vR k (202)] 102 _
  refine eg_putF fF_X9_46 rfl dX9_init_102 mkM_at rfl rfl rfl (fs' := [vR k (203), vR k (204), vR k (205), vR k (206), vR k (207), vR k (208), vI 0, vR k (209), vI 0, vI 0, vI 0, vI 0, vR k (210), vR k (211), vR k (212), vR k (213), vR k (214), .null, vI 0, vI 0, vI 0]) rfl ?_
  refine eg_eqM mkM_put ?_
  refine eg_al_n dX9_init_105 rfl rfl ?_
  refine eg_bipush dX9_init_106 (by decide) ?_
  refine eg_nwI (N := 16) (bc' := 0) (bs' := 0) ka_int dX9_init_108 rfl (Nat.le_of_ble_eq_true rfl) (by omega) (by omega) ?_
  refine eg_eqM (mkM_new (by omega) (ff_215)) ?_
  show eg_E k gX9_init 1 0 (0) (216) (mkM (ffI k) M (202) (216) (oO 10 [vR k (203), vR k (204), vR k (205), vR k (206), vR k (207), vR k (208), vI 0, vR k (209), vI 0, vI 0, vI 0, vI 0, vR k (210), vR k (211), vR k (212), vR k (213), vR k (214), .null, vI 0, vI 0, vI 0])) [vR k 202] [vR k (215), vR k (202)] 110 _
  refine eg_putF fF_X9_49 rfl dX9_init_110 mkM_at rfl rfl rfl (fs' := [vR k (203), vR k (204), vR k (205), vR k (206), vR k (207), vR k (208), vI 0, vR k (209), vI 0, vI 0, vI 0, vI 0, vR k (210), vR k (211), vR k (212), vR k (213), vR k (214), vR k (215), vI 0, vI 0, vI 0]) rfl ?_
  refine eg_eqM mkM_put ?_
  refine eg_return dX9_init_113 rfl ?_
  exact ⟨rfl, rfl, mkM_end (by omega) (ff_202)⟩
theorem c_J5_init {k : eg_K} {M : eg_M} (hM : M 197 = some (oO 0 [.null, vI 0, vI 0, vI 0])) : eg_P k gJ5_init_d00df 1 1 16 [vR k 197, vI 16] 198 M (eg_f none 199 (mkN (ffI k) M 197 199)) := by
  refine eg_P.of (by decide) (Nat.le_of_ble_eq_true rfl) ?_
  show eg_E k gJ5_init_d00df 1 1 16 198 M [vR k 197, vI 16] [] 0 _
  refine eg_eqM (mkM_st (F := ffI k) hM) ?_
  refine eg_al_n dJ5_init_d00df_0 rfl rfl ?_
  refine eg_oI oi_J5_3 dJ5_init_d00df_1 (Nat.le_of_ble_eq_true rfl) (by decide) ?_
  refine eg_gcs fw_J5_18 dJ5_init_d00df_4 ?_
  refine eg_if_eq 25 dJ5_init_d00df_7 ⟨by omega, by omega⟩ rfl (fun h7 => absurd h7 (by decide)) (fun h7 => ?_)
  refine eg_al_n dJ5_init_d00df_10 rfl rfl ?_
  refine eg_iload_n dJ5_init_d00df_11 rfl ?_
  refine eg_nwB (N := 16) (bc' := 0) (bs' := 0) ka_byte dJ5_init_d00df_12 rfl (Nat.le_of_ble_eq_true rfl) (by omega) (by omega) ?_
  refine eg_eqM (mkM_new (by omega) ff_198) ?_
  refine eg_put fl_J5_15 dJ5_init_d00df_14 mkM_at rfl rfl rfl (fs' := [vR k 198, vI 0, vI 0, vI 0]) rfl ?_
  refine eg_eqM mkM_put ?_
  refine eg_al_n dJ5_init_d00df_17 rfl rfl ?_
  refine eg_iconst dJ5_init_d00df_18 ?_
  refine eg_put fl_J5_22 dJ5_init_d00df_19 mkM_at rfl rfl rfl (fs' := [vR k 198, vI 0, vI 0, vI 0]) rfl ?_
  refine eg_eqM mkM_put ?_
  refine eg_goto 38 dJ5_init_d00df_22 rfl ?_
  refine eg_return dJ5_init_d00df_38 rfl ?_
  exact ⟨rfl, rfl, mkM_end (by omega) ff_197⟩
theorem c_J4_init {k : eg_K} {M : eg_M} (hM : M 197 = some (oO 0 [.null, vI 0, vI 0, vI 0])) : eg_P k gJ4_init_da8c8 2 1 16 [vR k 197] 198 M (eg_f none 199 (mkN (ffI k) M 197 199)) := by
  refine eg_P.of (by decide) (Nat.le_of_ble_eq_true rfl) ?_
  show eg_E k gJ4_init_da8c8 2 1 16 198 M [vR k 197] [] 0 _
  refine eg_al_n dJ4_init_da8c8_0 rfl rfl ?_
  refine eg_bipush dJ4_init_da8c8_1 (by decide) ?_
  refine eg_cI (As := [vI 16]) (bc' := 0) (bs' := 0) cs_J4_1 dJ4_init_da8c8_3 (c_J5_init hM) rfl (Nat.le_of_ble_eq_true rfl) (by decide) rfl rfl ?_
  rintro _ _ _ ⟨rfl, rfl, rfl⟩
  refine eg_return dJ4_init_da8c8_6 rfl ?_
  exact ⟨rfl, rfl, rfl⟩
theorem c_X7_init {k : eg_K} {M : eg_M} (hM : M (196) = some (oO 8 [.null])) : eg_P k gX7_init 3 2 (20) [vR k (196)] (197) M (eg_f none (199) (mkN (ffI k) M (196) (199))) := by
  refine eg_P.of (by decide) (Nat.le_of_ble_eq_true rfl) ?_
  show eg_E k gX7_init 3 2 (20) (197) M [vR k 196] [] 0 _
  refine eg_eqM (mkM_st (F := ffI k) hM) ?_
  refine eg_al_n dX7_init_0 rfl rfl ?_
  refine eg_oI oi_X7_3 dX7_init_1 (Nat.le_of_ble_eq_true rfl) (by decide) ?_
  refine eg_al_n dX7_init_4 rfl rfl ?_
  refine eg_newN (N := 4) (bc' := 1) (bs' := 16) nw_X7_9 dX7_init_5 rfl (by omega) (by omega) ?_
  refine eg_dup dX7_init_8 rfl ?_
  refine eg_cI (As := []) (bc' := 0) (bs' := 0) cs_X7_11 dX7_init_9 (c_J4_init (va_up_s _ _ _)) rfl (Nat.le_of_ble_eq_true rfl) (by decide) (by omega) (by omega) ?_
  rintro _ _ _ ⟨rfl, rfl, rfl⟩
  refine eg_eqM (mkM_sub (by omega) (by omega)) ?_
  show eg_E k gX7_init 3 0 (0) (199) (mkM (ffI k) M (196) (199) (oO 8 [.null])) [vR k 196] [vR k (197), vR k (196)] 12 _
  refine eg_putF fF_X7_12 rfl dX7_init_12 mkM_at rfl rfl rfl (fs' := [vR k (197)]) rfl ?_
  refine eg_eqM mkM_put ?_
  refine eg_return dX7_init_15 rfl ?_
  exact ⟨rfl, rfl, mkM_end (by omega) (ff_196)⟩
theorem eg_ext {k : eg_K} {g : eg_G} {d bc bs n : Nat} {M : eg_M} {ls st : List Value} {pc : Nat} {Q : eg_Q} {i len : Nat} {f f' : Nat → Option Nat} (hM : M i = some (aP k len f)) (hf : ∀ j, j < len → f j = f' j) (h : eg_E k g d bc bs n (va_up M i (some (aP k len f'))) ls st pc Q) : eg_E k g d bc bs n M ls st pc Q := by
  intro p e R s m args below meth c H locs cells slots sl Z C hW hz hl hL hc hs hR
  refine h p e R s m args below meth c H locs cells slots sl Z C (hW.set rfl (fun _ _ => rfl) ?_) hz hl hL hc hs hR
  have h1 : H[eg_B k + i]? = some (arrV (eg_A k 4) len (fun q => va_rf ((f q).map (fun i => eg_B k + i)))) := hW.2.2 i _ hM
  have h2 : arrV (eg_A k 4) len (fun q => va_rf ((f q).map (fun i => eg_B k + i))) = arrV (eg_A k 4) len (fun q => va_rf ((f' q).map (fun i => eg_B k + i))) := by
    unfold arrV
    congr 2
    funext j
    show va_rf (Option.map (fun i => eg_B k + i) (f j.val)) = va_rf (Option.map (fun i => eg_B k + i) (f' j.val))
    rw [hf j.val j.isLt]
  show H[eg_B k + i]? = some (arrV (eg_A k 4) len (fun q => va_rf ((f' q).map (fun i => eg_B k + i))))
  rw [← h2]; exact h1
def rgI (i : Nat) : Nat → Option Nat := fun j => if j < i then some (36 + 12 * j) else none
theorem rgI_0 : (fun _ => none : Nat → Option Nat) = rgI 0 := by
  funext j; unfold rgI; rw [if_neg (by omega)]
theorem rgI_s {i : Nat} : va_up (rgI i) i (some (36 + 12 * i)) = rgI (i + 1) := by
  funext j; unfold va_up rgI
  by_cases h : j = i
  · subst h; rw [if_pos rfl, if_pos (by omega)]
  · rw [if_neg h]
    by_cases h2 : j < i
    · rw [if_pos h2, if_pos (by omega)]
    · rw [if_neg h2, if_neg (by omega)]
theorem mkM_at2 {F M : eg_M} {b n m : Nat} {o e : va_E} (hb : b < n) : mkM F (mkM F M b n o) n m e b = some o := by
  show (if b = n then _ else _) = _
  rw [if_neg (by omega), if_neg (by omega)]
  exact mkM_at
theorem isB_rg : ∀ i, i < 10 → isB (36 + 12 * i) = true := by decide
theorem c_X0_init {k : eg_K} {M : eg_M} (hM : M 34 = some (oO 1 [.null, vI 0, vI 0])) : eg_P k gX0_init 3 121 2400 [vR k 34] 35 M (eg_f none 156 (mkN (ffI k) M 34 156)) := by
  refine eg_P.of (by decide) (Nat.le_of_ble_eq_true rfl) ?_
  show eg_E k gX0_init 3 121 2400 35 M [vR k 34, vU] [] 0 _
  have L : ∀ (m i : Nat), i + m = 10 → eg_E k gX0_init 3 (12 * m) (239 * m) (36 + 12 * i) (mkM (ffI k) (mkM (ffI k) M 34 35 (oO 1 [vR k 35, vI 0, vI 0])) 35 (36 + 12 * i) (aP k 10 (rgI i))) [vR k 34, vI (i : Int)] [] 25 (eg_f none 156 (mkN (ffI k) M 34 156)) := by
    intro m
    induction m with
    | zero =>
      intro i hi
      have hi : i = 10 := by omega
      subst hi
      refine eg_iload_n dX0_init_25 rfl ?_
      refine eg_bipush dX0_init_26 (by decide) ?_
      refine eg_icmp_ge 50 dX0_init_28 ⟨by omega, by omega⟩ ⟨by omega, by omega⟩ rfl (fun h28 => ?_) (fun h28 => absurd h28 (by omega))
      refine eg_ext (f' := ringf) mkM_at (fun j hj => ?_) ?_
      · show (if j < 10 then some (36 + 12 * j) else none) = some (36 + 12 * j)
        rw [if_pos hj]
      refine eg_eqM mkM_put ?_
      refine eg_eqM (mkM_nest (by omega) (by omega) ff_35) ?_
      refine eg_return dX0_init_50 rfl ?_
      exact ⟨rfl, rfl, mkM_end (by omega) ff_34⟩
    | succ m ih =>
      intro i hi
      have hb := isB_rg i (by omega)
      refine eg_iload_n dX0_init_25 rfl ?_
      refine eg_bipush dX0_init_26 (by decide) ?_
      refine eg_icmp_ge 50 dX0_init_28 ⟨by omega, by omega⟩ ⟨by omega, by omega⟩ rfl (fun h28 => absurd h28 (by omega)) (fun h28 => ?_)
      refine eg_al_n dX0_init_31 rfl rfl ?_
      refine eg_get fl_X0_11 dX0_init_32 (mkM_at2 (by omega)) rfl ?_
      refine eg_iload_n dX0_init_35 rfl ?_
      refine eg_newN (N := 11) (bc' := 12 * m + 11) (bs' := 239 * m + 228) nw_X0_9 dX0_init_36 rfl (by omega) (by omega) ?_
      refine eg_dup dX0_init_39 rfl ?_
      refine eg_cIN (As := []) (bc' := 12 * m) (bs' := 239 * m) cs_X0_24 dX0_init_40 (c_X2_init (b := 36 + 12 * i) hb (va_up_s _ _ _)) rfl (Nat.le_of_ble_eq_true rfl) (by decide) (by omega) (by omega) ?_
      rintro _ _ _ ⟨rfl, rfl, rfl⟩
      refine eg_eqM (mkM_sub (by omega) (by omega)) ?_
      refine eg_aast dX0_init_43 mkM_at (by omega) (by omega) (by omega) ((mkM_in (by omega) (by omega)).trans (ffP (b := 36 + 12 * i) (j := 0) hb (by decide))) ?_
      refine eg_eqM mkM_put ?_
      rw [Int.toNat_natCast, rgI_s]
      refine eg_iinc dX0_init_44 rfl rfl rfl ?_
      refine eg_goto 25 dX0_init_47 rfl ?_
      have h9 := ih (i + 1) (by omega)
      have e1 : 36 + 12 * (i + 1) = 36 + 12 * i + 12 := by omega
      have e2 : (((i + 1 : Nat)) : Int) = (i : Int) + 1 := by omega
      rw [e1, e2] at h9
      exact h9
  refine eg_eqM (mkM_st (F := ffI k) hM) ?_
  refine eg_al_n dX0_init_0 rfl rfl ?_
  refine eg_oI oi_X0_3 dX0_init_1 (Nat.le_of_ble_eq_true rfl) (by decide) ?_
  refine eg_al_n dX0_init_4 rfl rfl ?_
  refine eg_bipush dX0_init_5 (by decide) ?_
  refine eg_nwP (N := 10) (bc' := 120) (bs' := 2390) kc_X0_9 dX0_init_7 rfl (Nat.le_of_ble_eq_true rfl) (by omega) (by omega) ?_
  refine eg_eqM mkM_two ?_
  refine eg_putF fF_X0_11 rfl dX0_init_10 (mkM_at2 (by omega)) rfl rfl rfl (fs' := [vR k 35, vI 0, vI 0]) rfl ?_
  refine eg_eqM (mkM_put2 (by omega)) ?_
  refine eg_al_n dX0_init_13 rfl rfl ?_
  refine eg_iconst dX0_init_14 ?_
  refine eg_put fl_X0_17 dX0_init_15 (mkM_at2 (by omega)) rfl rfl rfl (fs' := [vR k 35, vI 0, vI 0]) rfl ?_
  refine eg_eqM (mkM_put2 (by omega)) ?_
  refine eg_al_n dX0_init_18 rfl rfl ?_
  refine eg_iconst dX0_init_19 ?_
  refine eg_put fl_X0_21 dX0_init_20 (mkM_at2 (by omega)) rfl rfl rfl (fs' := [vR k 35, vI 0, vI 0]) rfl ?_
  refine eg_eqM (mkM_put2 (by omega)) ?_
  refine eg_iconst dX0_init_23 ?_
  refine eg_istore_n dX0_init_24 rfl rfl rfl ?_
  rw [rgI_0]
  exact L 10 0 rfl
theorem shlI_e : ∀ j, j < 2 → va_up (va_up (fun _ => none) 0 (some 157)) 1 (some 169) j = shlf j := by
  intro j hj
  rcases (show j = 0 ∨ j = 1 by omega) with rfl | rfl <;> rfl
theorem c_X8_init {k : eg_K} {M : eg_M} (hM : M (0) = some (oO 9 [.null, .null, .null, .null, .null, vI 0, .null, .null, .null])) : eg_P k gX8_init 4 201 (4253) [vR k (0)] (1) M (eg_f none (202) (mkN (ffI k) M (0) (202))) := by
  refine eg_P.of (by decide) (Nat.le_of_ble_eq_true rfl) ?_
  show eg_E k gX8_init 4 201 (4253) (1) M [vR k 0] [] 0 _
  refine eg_eqM (mkM_st (F := ffI k) hM) ?_
  refine eg_al_n dX8_init_0 rfl rfl ?_
  refine eg_oI oi_X8_3 dX8_init_1 (Nat.le_of_ble_eq_true rfl) (by decide) ?_
  refine eg_al_n dX8_init_4 rfl rfl ?_
  refine eg_newN (N := 11) (bc' := 200) (bs' := 4242) nw_X8_9 dX8_init_5 rfl (by omega) (by omega) ?_
  refine eg_dup dX8_init_8 rfl ?_
  refine eg_cIN (As := []) (bc' := 189) (bs' := 4014) cs_X8_11 dX8_init_9 (c_X2_init (b := 1) (by decide) (va_up_s _ _ _)) rfl (Nat.le_of_ble_eq_true rfl) (by decide) (by omega) (by omega) ?_
  rintro _ _ _ ⟨rfl, rfl, rfl⟩
  refine eg_eqM (mkM_sub (by omega) (by omega)) ?_
  show eg_E k gX8_init 4 189 (4014) (13) (mkM (ffI k) M (0) (13) (oO 9 [.null, .null, .null, .null, .null, vI 0, .null, .null, .null])) [vR k 0] [vR k (1), vR k (0)] 12 _
  refine eg_putF fF_X8_12 rfl dX8_init_12 mkM_at rfl rfl rfl (fs' := [vR k (1), .null, .null, .null, .null, vI 0, .null, .null, .null]) rfl ?_
  refine eg_eqM mkM_put ?_
  refine eg_al_n dX8_init_15 rfl rfl ?_
  refine eg_newN (N := 11) (bc' := 188) (bs' := 4003) nw_X8_9 dX8_init_16 rfl (by omega) (by omega) ?_
  refine eg_dup dX8_init_19 rfl ?_
  refine eg_cIN (As := []) (bc' := 177) (bs' := 3775) cs_X8_11 dX8_init_20 (c_X2_init (b := 13) (by decide) (va_up_s _ _ _)) rfl (Nat.le_of_ble_eq_true rfl) (by decide) (by omega) (by omega) ?_
  rintro _ _ _ ⟨rfl, rfl, rfl⟩
  refine eg_eqM (mkM_sub (by omega) (by omega)) ?_
  show eg_E k gX8_init 4 177 (3775) (25) (mkM (ffI k) M (0) (25) (oO 9 [vR k (1), .null, .null, .null, .null, vI 0, .null, .null, .null])) [vR k 0] [vR k (13), vR k (0)] 23 _
  refine eg_putF fF_X8_16 rfl dX8_init_23 mkM_at rfl rfl rfl (fs' := [vR k (1), vR k (13), .null, .null, .null, vI 0, .null, .null, .null]) rfl ?_
  refine eg_eqM mkM_put ?_
  refine eg_al_n dX8_init_26 rfl rfl ?_
  refine eg_newN (N := 9) (bc' := 176) (bs' := 3766) nw_X8_19 dX8_init_27 rfl (by omega) (by omega) ?_
  refine eg_dup dX8_init_30 rfl ?_
  refine eg_cIN (As := []) (bc' := 168) (bs' := 3578) cs_X8_21 dX8_init_31 (c_X4_init (va_up_s _ _ _)) rfl (Nat.le_of_ble_eq_true rfl) (by decide) (by omega) (by omega) ?_
  rintro _ _ _ ⟨rfl, rfl, rfl⟩
  refine eg_eqM (mkM_sub (by omega) (by omega)) ?_
  show eg_E k gX8_init 4 168 (3578) (34) (mkM (ffI k) M (0) (34) (oO 9 [vR k (1), vR k (13), .null, .null, .null, vI 0, .null, .null, .null])) [vR k 0] [vR k (25), vR k (0)] 34 _
  refine eg_putF fF_X8_22 rfl dX8_init_34 mkM_at rfl rfl rfl (fs' := [vR k (1), vR k (13), vR k (25), .null, .null, vI 0, .null, .null, .null]) rfl ?_
  refine eg_eqM mkM_put ?_
  refine eg_al_n dX8_init_37 rfl rfl ?_
  refine eg_newN (N := 3) (bc' := 167) (bs' := 3575) nw_X8_26 dX8_init_38 rfl (by omega) (by omega) ?_
  refine eg_dup dX8_init_41 rfl ?_
  refine eg_cI (As := []) (bc' := 46) (bs' := 1175) cs_X8_28 dX8_init_42 (c_X0_init (va_up_s _ _ _)) rfl (Nat.le_of_ble_eq_true rfl) (by decide) (by omega) (by omega) ?_
  rintro _ _ _ ⟨rfl, rfl, rfl⟩
  refine eg_eqM (mkM_sub (by omega) (by omega)) ?_
  show eg_E k gX8_init 4 46 (1175) (156) (mkM (ffI k) M (0) (156) (oO 9 [vR k (1), vR k (13), vR k (25), .null, .null, vI 0, .null, .null, .null])) [vR k 0] [vR k (34), vR k (0)] 45 _
  refine eg_putF fF_X8_29 rfl dX8_init_45 mkM_at rfl rfl rfl (fs' := [vR k (1), vR k (13), vR k (25), vR k (34), .null, vI 0, .null, .null, .null]) rfl ?_
  refine eg_eqM mkM_put ?_
  refine eg_al_n dX8_init_48 rfl rfl ?_
  refine eg_iconst dX8_init_49 ?_
  refine eg_nwP (N := 2) (bc' := 45) (bs' := 1173) kc_X8_9 dX8_init_50 rfl (Nat.le_of_ble_eq_true rfl) (by omega) (by omega) ?_
  refine eg_eqM mkM_two ?_
  refine eg_dup dX8_init_53 rfl ?_
  refine eg_iconst dX8_init_54 ?_
  refine eg_newN (N := 11) (bc' := 44) (bs' := 1162) nw_X8_9 dX8_init_55 rfl (by omega) (by omega) ?_
  refine eg_dup dX8_init_58 rfl ?_
  refine eg_cIN (As := []) (bc' := 33) (bs' := 934) cs_X8_11 dX8_init_59 (c_X2_init (b := 157) (by decide) (va_up_s _ _ _)) rfl (Nat.le_of_ble_eq_true rfl) (by decide) (by omega) (by omega) ?_
  rintro _ _ _ ⟨rfl, rfl, rfl⟩
  refine eg_eqM (mkM_sub (by omega) (by omega)) ?_
  refine eg_aast dX8_init_62 mkM_at (by omega) (by omega) (by omega) ((mkM_in (by omega) (by omega)).trans (ffP (b := 157) (j := 0) (by decide) (by decide))) ?_
  refine eg_eqM mkM_put ?_
  refine eg_dup dX8_init_63 rfl ?_
  refine eg_iconst dX8_init_64 ?_
  refine eg_newN (N := 11) (bc' := 32) (bs' := 923) nw_X8_9 dX8_init_65 rfl (by omega) (by omega) ?_
  refine eg_dup dX8_init_68 rfl ?_
  refine eg_cIN (As := []) (bc' := 21) (bs' := 695) cs_X8_11 dX8_init_69 (c_X2_init (b := 169) (by decide) (va_up_s _ _ _)) rfl (Nat.le_of_ble_eq_true rfl) (by decide) (by omega) (by omega) ?_
  rintro _ _ _ ⟨rfl, rfl, rfl⟩
  refine eg_eqM (mkM_sub (by omega) (by omega)) ?_
  refine eg_aast dX8_init_72 mkM_at (by omega) (by omega) (by omega) ((mkM_in (by omega) (by omega)).trans (ffP (b := 169) (j := 0) (by decide) (by decide))) ?_
  refine eg_eqM mkM_put ?_
  refine eg_ext (f' := shlf) mkM_at shlI_e ?_
  refine eg_eqM mkM_put ?_
  refine eg_eqM (mkM_nest (by omega) (by omega) ff_156) ?_
  show eg_E k gX8_init 4 21 (695) 181 (mkM (ffI k) M (0) (181) (oO 9 [vR k (1), vR k (13), vR k (25), vR k (34), .null, vI 0, .null, .null, .null])) [vR k 0] [vR k (156), vR k (0)] 73 _
  refine eg_putF fF_X8_33 rfl dX8_init_73 mkM_at rfl rfl rfl (fs' := [vR k (1), vR k (13), vR k (25), vR k (34), vR k (156), vI 0, .null, .null, .null]) rfl ?_
  refine eg_eqM mkM_put ?_
  refine eg_al_n dX8_init_76 rfl rfl ?_
  refine eg_iconst dX8_init_77 ?_
  refine eg_put fl_X8_37 dX8_init_78 mkM_at rfl rfl rfl (fs' := [vR k (1), vR k (13), vR k (25), vR k (34), vR k (156), vI 0, .null, .null, .null]) rfl ?_
  refine eg_eqM mkM_put ?_
  refine eg_al_n dX8_init_81 rfl rfl ?_
  refine eg_newN (N := 6) (bc' := 20) (bs' := 689) nw_X8_41 dX8_init_82 rfl (by omega) (by omega) ?_
  refine eg_dup dX8_init_85 rfl ?_
  refine eg_cIN (As := []) (bc' := 6) (bs' := 48) cs_X8_43 dX8_init_86 (c_X3_init (va_up_s _ _ _)) rfl (Nat.le_of_ble_eq_true rfl) (by decide) (by omega) (by omega) ?_
  rintro _ _ _ ⟨rfl, rfl, rfl⟩
  refine eg_eqM (mkM_sub (by omega) (by omega)) ?_
  show eg_E k gX8_init 4 6 (48) (196) (mkM (ffI k) M (0) (196) (oO 9 [vR k (1), vR k (13), vR k (25), vR k (34), vR k (156), vI 0, .null, .null, .null])) [vR k 0] [vR k (181), vR k (0)] 89 _
  refine eg_putF fF_X8_44 rfl dX8_init_89 mkM_at rfl rfl rfl (fs' := [vR k (1), vR k (13), vR k (25), vR k (34), vR k (156), vI 0, vR k (181), .null, .null]) rfl ?_
  refine eg_eqM mkM_put ?_
  refine eg_al_n dX8_init_92 rfl rfl ?_
  refine eg_newN (N := 1) (bc' := 5) (bs' := 47) nw_X8_48 dX8_init_93 rfl (by omega) (by omega) ?_
  refine eg_dup dX8_init_96 rfl ?_
  refine eg_cIN (As := []) (bc' := 3) (bs' := 27) cs_X8_50 dX8_init_97 (c_X7_init (va_up_s _ _ _)) rfl (Nat.le_of_ble_eq_true rfl) (by decide) (by omega) (by omega) ?_
  rintro _ _ _ ⟨rfl, rfl, rfl⟩
  refine eg_eqM (mkM_sub (by omega) (by omega)) ?_
  show eg_E k gX8_init 4 3 (27) (199) (mkM (ffI k) M (0) (199) (oO 9 [vR k (1), vR k (13), vR k (25), vR k (34), vR k (156), vI 0, vR k (181), .null, .null])) [vR k 0] [vR k (196), vR k (0)] 100 _
  refine eg_putF fF_X8_51 rfl dX8_init_100 mkM_at rfl rfl rfl (fs' := [vR k (1), vR k (13), vR k (25), vR k (34), vR k (156), vI 0, vR k (181), vR k (196), .null]) rfl ?_
  refine eg_eqM mkM_put ?_
  refine eg_al_n dX8_init_103 rfl rfl ?_
  refine eg_newN (N := 3) (bc' := 2) (bs' := 24) nw_X8_55 dX8_init_104 rfl (by omega) (by omega) ?_
  refine eg_dup dX8_init_107 rfl ?_
  refine eg_cIN (As := []) (bc' := 0) (bs' := 0) cs_X8_57 dX8_init_108 (c_X1_init (va_up_s _ _ _)) rfl (Nat.le_of_ble_eq_true rfl) (by decide) (by omega) (by omega) ?_
  rintro _ _ _ ⟨rfl, rfl, rfl⟩
  refine eg_eqM (mkM_sub (by omega) (by omega)) ?_
  show eg_E k gX8_init 4 0 (0) (202) (mkM (ffI k) M (0) (202) (oO 9 [vR k (1), vR k (13), vR k (25), vR k (34), vR k (156), vI 0, vR k (181), vR k (196), .null])) [vR k 0] [vR k (199), vR k (0)] 111 _
  refine eg_putF fF_X8_58 rfl dX8_init_111 mkM_at rfl rfl rfl (fs' := [vR k (1), vR k (13), vR k (25), vR k (34), vR k (156), vI 0, vR k (181), vR k (196), vR k (199)]) rfl ?_
  refine eg_eqM mkM_put ?_
  refine eg_return dX8_init_114 rfl ?_
  exact ⟨rfl, rfl, mkM_end (by omega) (ff_0)⟩
