theorem eg_ldcwS {k : eg_K} {g : eg_G} {d bc bs n : Nat} {M : eg_M} {ls st : List Value} {pc : Nat} {Q : eg_Q} {i idx : Nat} {tx : String} (hi : eg_lit[i]? = some (g.1.cls, idx, tx)) (hd : decode g.2.1 pc = .ok (.ldc_w idx, 3)) (h : eg_E k g d bc bs n (M) ls (vS k i :: st) (pc + 3) Q) : eg_E k g d bc bs n (M) ls (st) (pc) Q := by
  intro p e R s m args below meth c H locs cells slots sl Z C hW hz hl hL hc hs hR
  have h35 : i < 35 := (List.getElem?_eq_some_iff.mp hi).1
  have hZ := (C.2.2.2.2.2.2.1.2.2.1 i h35).2.2.2.2 _ hi
  have kk := h p e R s m args below meth c H locs cells slots sl Z C hW hz hl hL hc hs hR
  intro T hT X
  obtain ⟨t, a1, b1⟩ := kk T hT X
  exact ⟨t, X.ldcStringW C.1 C.2.2.2.2.1 hZ.1 hZ.2 (g := F0 m pc sl st) rfl (by rw [C.2.1]; exact hd) t a1, b1⟩
/-- THE LETTER: its text -/
def ndF : Nat → Int → List Int
  | 0, x => [48 + x % 10]
  | m + 1, x => (if 9 < x then ndF m (x / 10) else []) ++ [48 + x % 10]
def nmT (x : Int) : List Int := 32 :: ndF 3 x
def rpT (f : Int → List Int) : Nat → List Int
  | 0 => []
  | m + 1 => rpT f m ++ f (m : Int)
theorem rp_s {f : Int → List Int} {j : Int} (h : 0 ≤ j) : rpT f (j + 1).toNat = rpT f j.toNat ++ f j := by
  rw [show (j + 1).toNat = j.toNat + 1 by omega]
  show rpT f j.toNat ++ f (j.toNat : Int) = _
  rw [show (j.toNat : Int) = j by omega]
theorem rp_len {f : Int → List Int} {c : Nat} (h : ∀ i, (f i).length ≤ c) : ∀ m : Nat, (rpT f m).length ≤ c * m
  | 0 => Nat.le_refl _
  | m + 1 => by
    have a := rp_len h m
    have b := h (m : Int)
    show (rpT f m ++ f (m : Int)).length ≤ c * (m + 1)
    rw [List.length_append, Nat.mul_add]
    omega
theorem nd_len : ∀ (m : Nat) (x : Int), (ndF m x).length ≤ m + 1
  | 0, x => Nat.le_refl _
  | m + 1, x => by
    have a := nd_len m (x / 10)
    show ((if 9 < x then ndF m (x / 10) else []) ++ [48 + x % 10]).length ≤ m + 1 + 1
    rw [List.length_append]
    split
    · show _ + 1 ≤ _; omega
    · show 0 + 1 ≤ _; omega
theorem nm_len (x : Int) : (nmT x).length ≤ 5 := by have := nd_len 3 x; show (ndF 3 x).length + 1 ≤ 5; omega
def sgT (v : eg_v) (i : Int) : List Int := 59 :: wSeg ++ nmT i ++ nmT (gS v i 0) ++ nmT (gS v i 1)
def ptT (v : eg_v) (i : Int) : List Int := 59 :: (if gP v i 1 = 1 then wIn else wOut) ++ nmT (gP v i 0) ++ nmT (gP v i 2)
def shT (v : eg_v) (i : Int) : List Int := 59 :: wShp ++ rpT (fun c => nmT (gH v i c)) 4
def noW (v : eg_v) (i : Int) : List Int := if gN v i 2 = -1 then wPrk else if gN v i 1 = -1 then wLon else wNom
def noP (v : eg_v) (i c : Int) : List Int := if gN v i c = -1 ∧ c ≠ 3 then [] else nmT (gN v i c)
def noT (v : eg_v) (i : Int) : List Int := 59 :: noW v i ++ rpT (noP v i) 4
def LT0 (v : eg_v) : List Int := wHub ++ nmT (v 0)
def LT1 (v : eg_v) : List Int := LT0 v ++ rpT (sgT v) (v 0 - 1).toNat
def LT2 (v : eg_v) : List Int := LT1 v ++ rpT (ptT v) (v 1).toNat
def LT3 (v : eg_v) : List Int := LT2 v ++ rpT (shT v) (v 2).toNat
def LT4 (v : eg_v) : List Int := LT3 v ++ rpT (noT v) (v 3).toNat
def TXT (v : eg_v) : List Int := LT4 v ++ 59 :: wPrc ++ nmT (v 5) ++ nmT (v 6)
theorem sg_len (v : eg_v) (i : Int) : (sgT v i).length ≤ 23 := by
  have a := nm_len i; have b := nm_len (gS v i 0); have c := nm_len (gS v i 1)
  have w : (59 :: wSeg).length = 8 := rfl
  unfold sgT
  rw [List.length_append, List.length_append, List.length_append, w]
  omega
theorem pt_len (v : eg_v) (i : Int) : (ptT v i).length ≤ 14 := by
  have b := nm_len (gP v i 0); have c := nm_len (gP v i 2)
  have w : (59 :: (if gP v i 1 = 1 then wIn else wOut)).length ≤ 4 := by split <;> decide
  unfold ptT
  rw [List.length_append, List.length_append]
  omega
theorem sh_len (v : eg_v) (i : Int) : (shT v i).length ≤ 28 := by
  have a := rp_len (f := fun c => nmT (gH v i c)) (c := 5) (fun c => nm_len _) 4
  have w : (59 :: wShp).length = 8 := rfl
  unfold shT
  rw [List.length_append, w]
  omega
theorem no_len (v : eg_v) (i : Int) : (noT v i).length ≤ 25 := by
  have a := rp_len (f := noP v i) (c := 5) (fun c => by unfold noP; split; exact Nat.zero_le _; exact nm_len _) 4
  have w : (59 :: noW v i).length ≤ 5 := by unfold noW; split; decide; split <;> decide
  unfold noT
  rw [List.length_append]
  omega
theorem T0_len (v : eg_v) : (LT0 v).length ≤ 9 := by
  have a := nm_len (v 0)
  have w : wHub.length = 4 := rfl
  unfold LT0
  rw [List.length_append, w]
  omega
theorem T1_len {B : Int} {v : eg_v} (hv : VV B v) : (LT1 v).length ≤ 170 := by
  have q := hv.r.2
  have h0 : v 0 ≤ 8 := by have := hv.1; omega
  have a := T0_len v
  have b := rp_len (sg_len v) (v 0 - 1).toNat
  unfold LT1
  rw [List.length_append]
  omega
theorem T2_len {B : Int} {v : eg_v} (hv : VV B v) : (LT2 v).length ≤ 310 := by
  have q := hv.r.2
  have a := T1_len hv
  have b := rp_len (pt_len v) (v 1).toNat
  unfold LT2
  rw [List.length_append]
  omega
theorem T3_len {B : Int} {v : eg_v} (hv : VV B v) : (LT3 v).length ≤ 478 := by
  have q := hv.r.2
  have a := T2_len hv
  have b := rp_len (sh_len v) (v 2).toNat
  unfold LT3
  rw [List.length_append]
  omega
theorem T4_len {B : Int} {v : eg_v} (hv : VV B v) : (LT4 v).length ≤ 878 := by
  have q := hv.r.2
  have a := T3_len hv
  have b := rp_len (no_len v) (v 3).toNat
  unfold LT4
  rw [List.length_append]
  omega
theorem T5_len {B : Int} {v : eg_v} (hv : VV B v) : (TXT v).length ≤ 894 := by
  have a := T4_len hv
  have b := nm_len (v 5)
  have c := nm_len (v 6)
  have w : (59 :: wPrc).length = 6 := rfl
  unfold TXT
  rw [List.length_append, List.length_append, List.length_append, w]
  omega
def lT (v : eg_v) : List Int := if 0 < v 0 then TXT v else []
def A_letter (s : eg_S) (a : Int) : Int := if a < -1 then -1 else if a = -1 then ((lT s.1).length : Int) else if a < ((lT s.1).length : Int) then (lT s.1).getD a.toNat 0 else -2
theorem tx8 {i : Nat} (h : i < 35) : (eg_tx i).length ≤ 8 := by
  have : ∀ i, i < 35 → (eg_tx i).length ≤ 8 := by decide
  exact this i h
theorem gD_l {T U : List Int} {j : Nat} (h : j < T.length) : (T ++ U).getD j 0 = T.getD j 0 := by
  rw [List.getD_eq_getElem?_getD, List.getD_eq_getElem?_getD, List.getElem?_append_left h]
theorem gD_r {T : List Int} {c : Int} : (T ++ [c]).getD T.length 0 = c := by
  rw [List.getD_eq_getElem?_getD, List.getElem?_append_right (Nat.le_refl _), Nat.sub_self]; rfl
theorem tk_s : ∀ (l : List Int) (j : Nat), j < l.length → l.take (j + 1) = l.take j ++ [l.getD j 0]
  | [], j, h => absurd h (Nat.not_lt_zero j)
  | a :: l, 0, h => rfl
  | a :: l, j + 1, h => by
    have ih := tk_s l j (Nat.lt_of_succ_lt_succ h)
    show a :: l.take (j + 1) = a :: (l.take j ++ [l.getD j 0])
    rw [ih]
/-- what the reference has written -/
def WR (z : eg_Z) (T : List Int) (w : Int) : Prop := z 202 18 = (T.length : Int) ∧ z 202 19 = w ∧ ∀ j : Nat, w = (j : Int) → j < T.length → z 202 20 = T.getD j 0
def FW (z z' : eg_Z) : Prop := (∀ c, c ≠ 202 → z' c = z c) ∧ ∀ j, j < 18 → z' 202 j = z 202 j
theorem FW.rf {z : eg_Z} : FW z z := ⟨fun _ _ => rfl, fun _ _ => rfl⟩
theorem FW.tr {a b c : eg_Z} (h : FW a b) (g : FW b c) : FW a c := ⟨fun q hq => (g.1 q hq).trans (h.1 q hq), fun q hq => (g.2 q hq).trans (h.2 q hq)⟩
theorem FW.nw {z y : eg_Z} {v : eg_v} (h : FW z y) (hN : nw z v) : nw y v := nw_c (h.1 203 (by decide)) hN
theorem FW.m {z y : eg_Z} (h : FW z y) : Fm z y := ⟨fun c hc => h.1 c (by omega), h.2 6 (by decide), h.2 8 (by decide), h.1 206 (by decide), h.1 207 (by decide), h.1 208 (by decide), h.1 209 (by decide)⟩
theorem WR.e {z : eg_Z} {T U : List Int} {w : Int} (h : WR z T w) (e : T = U) : WR z U w := e ▸ h
theorem c_writes {k : eg_K} {z : eg_Z} {X : eg_M} {n : Nat} {T : List Int} {w : Int} (hW : WR z T w) (rw_ : iR w) {x : Int} (hl9 : T.length ≤ 3000) : eg_P k gX9_writes 0 0 0 [vR k 202, vI x] n (enc k z X) (eg_p k none n X (fun z' => FW z z' ∧ WR z' (T ++ [x]) w)) := by
  refine eg_P.of (by decide) (Nat.le_of_ble_eq_true rfl) ?_
  show eg_E k gX9_writes 0 0 0 n (enc k z X) [vR k 202, vI x] [] 0 _
  have r1 := rw_.1; have r2 := rw_.2
  refine eg_al_n dX9_writes_0 rfl rfl ?_
  refine eg_get fl_X9_372 dX9_writes_1 (by first | exact er202 | exact er203 | exact er204 | exact er205 | exact er206 | exact er207 | exact er208 | exact er209 | exact er210 | exact er211 | exact er212 | exact er213 | exact er214 | exact er215) rfl ?_
  refine eg_eqI hW.1 ?_
  refine eg_al_n dX9_writes_4 rfl rfl ?_
  refine eg_get fl_X9_375 dX9_writes_5 (by first | exact er202 | exact er203 | exact er204 | exact er205 | exact er206 | exact er207 | exact er208 | exact er209 | exact er210 | exact er211 | exact er212 | exact er213 | exact er214 | exact er215) rfl ?_
  refine eg_eqI hW.2.1 ?_
  refine eg_icmp_ne 16 dX9_writes_8 ⟨by omega, by omega⟩ ⟨by omega, by omega⟩ rfl (fun h8 => ?_) (fun h8 => ?_)
  · refine eg_al_n dX9_writes_16 rfl rfl ?_
    refine eg_dup dX9_writes_17 rfl ?_
    refine eg_get fl_X9_372 dX9_writes_18 (by first | exact er202 | exact er203 | exact er204 | exact er205 | exact er206 | exact er207 | exact er208 | exact er209 | exact er210 | exact er211 | exact er212 | exact er213 | exact er214 | exact er215) rfl ?_
    refine eg_iconst dX9_writes_21 ?_
    refine eg_iadd dX9_writes_22 ?_
    refine eg_put fl_X9_372 dX9_writes_23 (by first | exact er202 | exact er203 | exact er204 | exact er205 | exact er206 | exact er207 | exact er208 | exact er209 | exact er210 | exact er211 | exact er212 | exact er213 | exact er214 | exact er215) rfl rfl rfl rfl ?_
    refine eg_eqM es202_18 ?_
    refine eg_return dX9_writes_26 rfl ?_
    refine ⟨rfl, rfl, _, rfl, ⟨fun c hc => va_up_n _ _ hc, fun j hj => by rw [va_up_s, va_up_n _ _ (by omega)]⟩, by rw [va_up_s, va_up_s, hW.1, List.length_append]; rfl, by rw [va_up_s, va_up_n _ _ (by decide)]; exact hW.2.1, fun j hj hl => ?_⟩
    rw [List.length_append] at hl
    have hl : j < T.length + 1 := hl
    rw [va_up_s, va_up_n _ _ (by decide), gD_l (show j < T.length by omega)]
    exact hW.2.2 j hj (by omega)
  · refine eg_al_n dX9_writes_11 rfl rfl ?_
    refine eg_iload_n dX9_writes_12 rfl ?_
    refine eg_put fl_X9_378 dX9_writes_13 (by first | exact er202 | exact er203 | exact er204 | exact er205 | exact er206 | exact er207 | exact er208 | exact er209 | exact er210 | exact er211 | exact er212 | exact er213 | exact er214 | exact er215) rfl rfl rfl rfl ?_
    refine eg_eqM es202_20 ?_
    refine eg_al_n dX9_writes_16 rfl rfl ?_
    refine eg_dup dX9_writes_17 rfl ?_
    refine eg_get fl_X9_372 dX9_writes_18 (by first | exact er202 | exact er203 | exact er204 | exact er205 | exact er206 | exact er207 | exact er208 | exact er209 | exact er210 | exact er211 | exact er212 | exact er213 | exact er214 | exact er215) rfl ?_
    refine eg_iconst dX9_writes_21 ?_
    refine eg_iadd dX9_writes_22 ?_
    refine eg_put fl_X9_372 dX9_writes_23 (by first | exact er202 | exact er203 | exact er204 | exact er205 | exact er206 | exact er207 | exact er208 | exact er209 | exact er210 | exact er211 | exact er212 | exact er213 | exact er214 | exact er215) rfl rfl rfl rfl ?_
    refine eg_eqM es202_18 ?_
    refine eg_return dX9_writes_26 rfl ?_
    refine ⟨rfl, rfl, _, rfl, ⟨fun c hc => by rw [va_up_n _ _ hc, va_up_n _ _ hc], fun j hj => by rw [va_up_s, va_up_n _ _ (by omega), va_up_s, va_up_n _ _ (by omega)]⟩, by rw [va_up_s, va_up_s, va_up_s, va_up_n _ _ (by decide), hW.1, List.length_append]; rfl, by rw [va_up_s, va_up_n _ _ (by decide), va_up_s, va_up_n _ _ (by decide)]; exact hW.2.1, fun j hj hl => ?_⟩
    have ej : j = T.length := by omega
    subst ej
    rw [va_up_s, va_up_n _ _ (by decide), va_up_s, va_up_s, gD_r]
theorem c_writesWord {k : eg_K} {z : eg_Z} {X : eg_M} {n : Nat} {T : List Int} {w : Int} (hW : WR z T w) (rw_ : iR w) {i : Nat} (hi : i < 35) (hl9 : T.length ≤ 2000) : eg_P k gX9_writesWord 6 0 0 [vR k 202, vS k i] n (enc k z X) (eg_p k none n X (fun z' => FW z z' ∧ WR z' (T ++ eg_tx i) w)) := by
  refine eg_P.of (by decide) (Nat.le_of_ble_eq_true rfl) ?_
  show eg_E k gX9_writesWord 6 0 0 n (enc k z X) [vR k 202, vS k i, vU] [] 0 _
  have t8 := tx8 hi
  have L : ∀ (mm : Nat) (j : Int) (y : eg_Z), (0 ≤ j) → (j ≤ ((eg_tx i).length : Int)) → (FW z y) → (WR y (T ++ (eg_tx i).take j.toNat) w) → ((eg_tx i).length : Int) - j < (mm : Int) → eg_E k gX9_writesWord 6 0 0 n (enc k y X) [vR k 202, vS k i, vI j] [] 2 (eg_p k none n X (fun z' => FW z z' ∧ WR z' (T ++ eg_tx i) w)) := by
    intro mm
    induction mm with
    | zero => intro j y h0 h1 hf hw hmm; exfalso; omega
    | succ mm ih =>
      intro j y h0 h1 hf hw hmm
      have lb : (T ++ (eg_tx i).take j.toNat).length ≤ 3000 := by rw [List.length_append, List.length_take]; omega
      refine eg_iload_n dX9_writesWord_2 rfl ?_
      refine eg_al_n dX9_writesWord_3 rfl rfl ?_
      refine eg_VSf0 hi cs_X9_85 rfl dX9_writesWord_4 (c_length hi) (Nat.le_of_ble_eq_true rfl) (by decide) ?_
      refine eg_icmp_ge 25 dX9_writesWord_7 ⟨by omega, by omega⟩ ⟨by omega, by omega⟩ rfl (fun h7 => ?_) (fun h7 => ?_)
      · refine eg_return dX9_writesWord_25 rfl ?_
        have ej : j.toNat = (eg_tx i).length := by omega
        exact ⟨rfl, rfl, y, rfl, hf, hw.e (by rw [ej, List.take_length])⟩
      · refine eg_al_n dX9_writesWord_10 rfl rfl ?_
        refine eg_al_n dX9_writesWord_11 rfl rfl ?_
        refine eg_iload_n dX9_writesWord_12 rfl ?_
        refine eg_VSf1 hi cs_X9_90 rfl dX9_writesWord_13 (c_charAt hi h0 h7) (Nat.le_of_ble_eq_true rfl) (by decide) ?_
        refine eg_Vpv1 cs_X9_381 dX9_writesWord_16 (c_writes (x := (eg_tx i).getD j.toNat 0) hw rw_ lb) (by first | exact er202 | exact er203 | exact er204 | exact er205 | exact er206 | exact er207 | exact er208 | exact er209 | exact er210 | exact er211 | exact er212 | exact er213 | exact er214 | exact er215) rfl (Nat.le_of_ble_eq_true rfl) (by decide) ?_
        rintro y1 ⟨f1, w1⟩
        refine eg_iinc dX9_writesWord_19 rfl rfl rfl ?_
        refine eg_goto 2 dX9_writesWord_22 rfl ?_
        exact ih (j + 1) y1 (by omega) (by omega) (hf.tr f1) (w1.e (by rw [show (j + 1).toNat = j.toNat + 1 by omega, tk_s _ _ (by omega), List.append_assoc])) (by omega)
  refine eg_iconst dX9_writesWord_0 ?_
  refine eg_istore_n dX9_writesWord_1 rfl rfl rfl ?_
  exact L 10 0 z (by omega) (by omega) FW.rf (hW.e (by rw [show (0 : Int).toNat = 0 from rfl, List.take_zero, List.append_nil])) (by omega)
theorem c_wd0 {k : eg_K} {z : eg_Z} {X : eg_M} {n : Nat} {T : List Int} {w : Int} (hW : WR z T w) (rw_ : iR w) {x : Int} (hx0 : 0 ≤ x) (hx1 : x ≤ 9) (hl9 : T.length ≤ 2500) : eg_P k gX9_writesDigits 1 0 0 [vR k 202, vI x] n (enc k z X) (eg_p k none n X (fun z' => FW z z' ∧ WR z' (T ++ ndF 0 x) w)) := by
  refine eg_P.of (by decide) (Nat.le_of_ble_eq_true rfl) ?_
  show eg_E k gX9_writesDigits 1 0 0 n (enc k z X) [vR k 202, vI x] [] 0 _
  refine eg_iload_n dX9_writesDigits_0 rfl ?_
  refine eg_bipush dX9_writesDigits_1 (by decide) ?_
  refine eg_icmp_le 14 dX9_writesDigits_3 ⟨by omega, by omega⟩ ⟨by omega, by omega⟩ rfl (fun h3 => ?_) (fun h3 => absurd h3 (by omega))
  refine eg_al_n dX9_writesDigits_14 rfl rfl ?_
  refine eg_bipush dX9_writesDigits_15 (by decide) ?_
  refine eg_iload_n dX9_writesDigits_17 rfl ?_
  refine eg_bipush dX9_writesDigits_18 (by decide) ?_
  refine eg_irem dX9_writesDigits_20 ⟨by omega, by omega⟩ ⟨by omega, by omega⟩ (by omega) (by omega) ?_
  refine eg_iadd dX9_writesDigits_21 ?_
  refine eg_Vpv1 cs_X9_381 dX9_writesDigits_22 (c_writes hW rw_ (by omega)) (by first | exact er202 | exact er203 | exact er204 | exact er205 | exact er206 | exact er207 | exact er208 | exact er209 | exact er210 | exact er211 | exact er212 | exact er213 | exact er214 | exact er215) rfl (Nat.le_of_ble_eq_true rfl) (by decide) ?_
  rintro y1 ⟨f1, w1⟩
  refine eg_return dX9_writesDigits_25 rfl ?_
  exact ⟨rfl, rfl, y1, rfl, f1, w1⟩
theorem c_wd1 {k : eg_K} {z : eg_Z} {X : eg_M} {n : Nat} {T : List Int} {w : Int} (hW : WR z T w) (rw_ : iR w) {x : Int} (hx0 : 0 ≤ x) (hx1 : x ≤ 99) (hl9 : T.length ≤ 2500) : eg_P k gX9_writesDigits 2 0 0 [vR k 202, vI x] n (enc k z X) (eg_p k none n X (fun z' => FW z z' ∧ WR z' (T ++ ndF 1 x) w)) := by
  refine eg_P.of (by decide) (Nat.le_of_ble_eq_true rfl) ?_
  show eg_E k gX9_writesDigits 2 0 0 n (enc k z X) [vR k 202, vI x] [] 0 _
  have J : ∀ (y : eg_Z) (U : List Int), FW z y → WR y U w → U.length ≤ 3000 → U ++ [48 + x % 10] = T ++ ndF 1 x → eg_E k gX9_writesDigits 2 0 0 n (enc k y X) [vR k 202, vI x] [] 14 (eg_p k none n X (fun z' => FW z z' ∧ WR z' (T ++ ndF 1 x) w)) := by
    intro y U hf hw hl eU
    refine eg_al_n dX9_writesDigits_14 rfl rfl ?_
    refine eg_bipush dX9_writesDigits_15 (by decide) ?_
    refine eg_iload_n dX9_writesDigits_17 rfl ?_
    refine eg_bipush dX9_writesDigits_18 (by decide) ?_
    refine eg_irem dX9_writesDigits_20 ⟨by omega, by omega⟩ ⟨by omega, by omega⟩ (by omega) (by omega) ?_
    refine eg_iadd dX9_writesDigits_21 ?_
    refine eg_Vpv1 cs_X9_381 dX9_writesDigits_22 (c_writes hw rw_ hl) (by first | exact er202 | exact er203 | exact er204 | exact er205 | exact er206 | exact er207 | exact er208 | exact er209 | exact er210 | exact er211 | exact er212 | exact er213 | exact er214 | exact er215) rfl (Nat.le_of_ble_eq_true rfl) (by decide) ?_
    rintro y1 ⟨f1, w1⟩
    refine eg_return dX9_writesDigits_25 rfl ?_
    exact ⟨rfl, rfl, y1, rfl, hf.tr f1, w1.e eU⟩
  refine eg_iload_n dX9_writesDigits_0 rfl ?_
  refine eg_bipush dX9_writesDigits_1 (by decide) ?_
  refine eg_icmp_le 14 dX9_writesDigits_3 ⟨by omega, by omega⟩ ⟨by omega, by omega⟩ rfl (fun h3 => ?_) (fun h3 => ?_)
  · refine J z T FW.rf hW (by omega) ?_
    show T ++ [48 + x % 10] = T ++ ((if 9 < x then ndF 0 (x / 10) else []) ++ [48 + x % 10])
    rw [if_neg (by omega), List.nil_append]
  · refine eg_al_n dX9_writesDigits_6 rfl rfl ?_
    refine eg_iload_n dX9_writesDigits_7 rfl ?_
    refine eg_bipush dX9_writesDigits_8 (by decide) ?_
    refine eg_idiv dX9_writesDigits_10 ⟨by omega, by omega⟩ ⟨by omega, by omega⟩ (by omega) (by omega) ?_
    refine eg_Vpv1 cs_X9_384 dX9_writesDigits_11 (c_wd0 hW rw_ (x := x / 10) (by omega) (by omega) (by omega)) (by first | exact er202 | exact er203 | exact er204 | exact er205 | exact er206 | exact er207 | exact er208 | exact er209 | exact er210 | exact er211 | exact er212 | exact er213 | exact er214 | exact er215) rfl (Nat.le_of_ble_eq_true rfl) (by decide) ?_
    rintro y0 ⟨f0, w0⟩
    have l0 := nd_len 0 (x / 10)
    refine J y0 _ f0 w0 (by rw [List.length_append]; omega) ?_
    show T ++ ndF 0 (x / 10) ++ [48 + x % 10] = T ++ ((if 9 < x then ndF 0 (x / 10) else []) ++ [48 + x % 10])
    rw [if_pos (by omega), List.append_assoc]
theorem c_wd2 {k : eg_K} {z : eg_Z} {X : eg_M} {n : Nat} {T : List Int} {w : Int} (hW : WR z T w) (rw_ : iR w) {x : Int} (hx0 : 0 ≤ x) (hx1 : x ≤ 999) (hl9 : T.length ≤ 2500) : eg_P k gX9_writesDigits 3 0 0 [vR k 202, vI x] n (enc k z X) (eg_p k none n X (fun z' => FW z z' ∧ WR z' (T ++ ndF 2 x) w)) := by
  refine eg_P.of (by decide) (Nat.le_of_ble_eq_true rfl) ?_
  show eg_E k gX9_writesDigits 3 0 0 n (enc k z X) [vR k 202, vI x] [] 0 _
  have J : ∀ (y : eg_Z) (U : List Int), FW z y → WR y U w → U.length ≤ 3000 → U ++ [48 + x % 10] = T ++ ndF 2 x → eg_E k gX9_writesDigits 3 0 0 n (enc k y X) [vR k 202, vI x] [] 14 (eg_p k none n X (fun z' => FW z z' ∧ WR z' (T ++ ndF 2 x) w)) := by
    intro y U hf hw hl eU
    refine eg_al_n dX9_writesDigits_14 rfl rfl ?_
    refine eg_bipush dX9_writesDigits_15 (by decide) ?_
    refine eg_iload_n dX9_writesDigits_17 rfl ?_
    refine eg_bipush dX9_writesDigits_18 (by decide) ?_
    refine eg_irem dX9_writesDigits_20 ⟨by omega, by omega⟩ ⟨by omega, by omega⟩ (by omega) (by omega) ?_
    refine eg_iadd dX9_writesDigits_21 ?_
    refine eg_Vpv1 cs_X9_381 dX9_writesDigits_22 (c_writes hw rw_ hl) (by first | exact er202 | exact er203 | exact er204 | exact er205 | exact er206 | exact er207 | exact er208 | exact er209 | exact er210 | exact er211 | exact er212 | exact er213 | exact er214 | exact er215) rfl (Nat.le_of_ble_eq_true rfl) (by decide) ?_
    rintro y1 ⟨f1, w1⟩
    refine eg_return dX9_writesDigits_25 rfl ?_
    exact ⟨rfl, rfl, y1, rfl, hf.tr f1, w1.e eU⟩
  refine eg_iload_n dX9_writesDigits_0 rfl ?_
  refine eg_bipush dX9_writesDigits_1 (by decide) ?_
  refine eg_icmp_le 14 dX9_writesDigits_3 ⟨by omega, by omega⟩ ⟨by omega, by omega⟩ rfl (fun h3 => ?_) (fun h3 => ?_)
  · refine J z T FW.rf hW (by omega) ?_
    show T ++ [48 + x % 10] = T ++ ((if 9 < x then ndF 1 (x / 10) else []) ++ [48 + x % 10])
    rw [if_neg (by omega), List.nil_append]
  · refine eg_al_n dX9_writesDigits_6 rfl rfl ?_
    refine eg_iload_n dX9_writesDigits_7 rfl ?_
    refine eg_bipush dX9_writesDigits_8 (by decide) ?_
    refine eg_idiv dX9_writesDigits_10 ⟨by omega, by omega⟩ ⟨by omega, by omega⟩ (by omega) (by omega) ?_
    refine eg_Vpv1 cs_X9_384 dX9_writesDigits_11 (c_wd1 hW rw_ (x := x / 10) (by omega) (by omega) (by omega)) (by first | exact er202 | exact er203 | exact er204 | exact er205 | exact er206 | exact er207 | exact er208 | exact er209 | exact er210 | exact er211 | exact er212 | exact er213 | exact er214 | exact er215) rfl (Nat.le_of_ble_eq_true rfl) (by decide) ?_
    rintro y0 ⟨f0, w0⟩
    have l0 := nd_len 1 (x / 10)
    refine J y0 _ f0 w0 (by rw [List.length_append]; omega) ?_
    show T ++ ndF 1 (x / 10) ++ [48 + x % 10] = T ++ ((if 9 < x then ndF 1 (x / 10) else []) ++ [48 + x % 10])
    rw [if_pos (by omega), List.append_assoc]
theorem c_wd3 {k : eg_K} {z : eg_Z} {X : eg_M} {n : Nat} {T : List Int} {w : Int} (hW : WR z T w) (rw_ : iR w) {x : Int} (hx0 : 0 ≤ x) (hx1 : x ≤ 9999) (hl9 : T.length ≤ 2500) : eg_P k gX9_writesDigits 4 0 0 [vR k 202, vI x] n (enc k z X) (eg_p k none n X (fun z' => FW z z' ∧ WR z' (T ++ ndF 3 x) w)) := by
  refine eg_P.of (by decide) (Nat.le_of_ble_eq_true rfl) ?_
  show eg_E k gX9_writesDigits 4 0 0 n (enc k z X) [vR k 202, vI x] [] 0 _
  have J : ∀ (y : eg_Z) (U : List Int), FW z y → WR y U w → U.length ≤ 3000 → U ++ [48 + x % 10] = T ++ ndF 3 x → eg_E k gX9_writesDigits 4 0 0 n (enc k y X) [vR k 202, vI x] [] 14 (eg_p k none n X (fun z' => FW z z' ∧ WR z' (T ++ ndF 3 x) w)) := by
    intro y U hf hw hl eU
    refine eg_al_n dX9_writesDigits_14 rfl rfl ?_
    refine eg_bipush dX9_writesDigits_15 (by decide) ?_
    refine eg_iload_n dX9_writesDigits_17 rfl ?_
    refine eg_bipush dX9_writesDigits_18 (by decide) ?_
    refine eg_irem dX9_writesDigits_20 ⟨by omega, by omega⟩ ⟨by omega, by omega⟩ (by omega) (by omega) ?_
    refine eg_iadd dX9_writesDigits_21 ?_
    refine eg_Vpv1 cs_X9_381 dX9_writesDigits_22 (c_writes hw rw_ hl) (by first | exact er202 | exact er203 | exact er204 | exact er205 | exact er206 | exact er207 | exact er208 | exact er209 | exact er210 | exact er211 | exact er212 | exact er213 | exact er214 | exact er215) rfl (Nat.le_of_ble_eq_true rfl) (by decide) ?_
    rintro y1 ⟨f1, w1⟩
    refine eg_return dX9_writesDigits_25 rfl ?_
    exact ⟨rfl, rfl, y1, rfl, hf.tr f1, w1.e eU⟩
  refine eg_iload_n dX9_writesDigits_0 rfl ?_
  refine eg_bipush dX9_writesDigits_1 (by decide) ?_
  refine eg_icmp_le 14 dX9_writesDigits_3 ⟨by omega, by omega⟩ ⟨by omega, by omega⟩ rfl (fun h3 => ?_) (fun h3 => ?_)
  · refine J z T FW.rf hW (by omega) ?_
    show T ++ [48 + x % 10] = T ++ ((if 9 < x then ndF 2 (x / 10) else []) ++ [48 + x % 10])
    rw [if_neg (by omega), List.nil_append]
  · refine eg_al_n dX9_writesDigits_6 rfl rfl ?_
    refine eg_iload_n dX9_writesDigits_7 rfl ?_
    refine eg_bipush dX9_writesDigits_8 (by decide) ?_
    refine eg_idiv dX9_writesDigits_10 ⟨by omega, by omega⟩ ⟨by omega, by omega⟩ (by omega) (by omega) ?_
    refine eg_Vpv1 cs_X9_384 dX9_writesDigits_11 (c_wd2 hW rw_ (x := x / 10) (by omega) (by omega) (by omega)) (by first | exact er202 | exact er203 | exact er204 | exact er205 | exact er206 | exact er207 | exact er208 | exact er209 | exact er210 | exact er211 | exact er212 | exact er213 | exact er214 | exact er215) rfl (Nat.le_of_ble_eq_true rfl) (by decide) ?_
    rintro y0 ⟨f0, w0⟩
    have l0 := nd_len 2 (x / 10)
    refine J y0 _ f0 w0 (by rw [List.length_append]; omega) ?_
    show T ++ ndF 2 (x / 10) ++ [48 + x % 10] = T ++ ((if 9 < x then ndF 2 (x / 10) else []) ++ [48 + x % 10])
    rw [if_pos (by omega), List.append_assoc]
theorem c_writesNumber {k : eg_K} {z : eg_Z} {X : eg_M} {n : Nat} {T : List Int} {w : Int} (hW : WR z T w) (rw_ : iR w) {x : Int} (hx : 0 ≤ x ∧ x ≤ 9999) (hl9 : T.length ≤ 2000) : eg_P k gX9_writesNumber 5 0 0 [vR k 202, vI x] n (enc k z X) (eg_p k none n X (fun z' => FW z z' ∧ WR z' (T ++ nmT x) w)) := by
  refine eg_P.of (by decide) (Nat.le_of_ble_eq_true rfl) ?_
  show eg_E k gX9_writesNumber 5 0 0 n (enc k z X) [vR k 202, vI x] [] 0 _
  refine eg_al_n dX9_writesNumber_0 rfl rfl ?_
  refine eg_bipush dX9_writesNumber_1 (by decide) ?_
  refine eg_Vpv1 cs_X9_381 dX9_writesNumber_3 (c_writes hW rw_ (by omega)) (by first | exact er202 | exact er203 | exact er204 | exact er205 | exact er206 | exact er207 | exact er208 | exact er209 | exact er210 | exact er211 | exact er212 | exact er213 | exact er214 | exact er215) rfl (Nat.le_of_ble_eq_true rfl) (by decide) ?_
  rintro y1 ⟨f1, w1⟩
  refine eg_al_n dX9_writesNumber_6 rfl rfl ?_
  refine eg_iload_n dX9_writesNumber_7 rfl ?_
  refine eg_Vpv1 cs_X9_384 dX9_writesNumber_8 (c_wd3 w1 rw_ (x := x) hx.1 hx.2 (by rw [List.length_append]; show T.length + 1 ≤ 2500; omega)) (by first | exact er202 | exact er203 | exact er204 | exact er205 | exact er206 | exact er207 | exact er208 | exact er209 | exact er210 | exact er211 | exact er212 | exact er213 | exact er214 | exact er215) rfl (Nat.le_of_ble_eq_true rfl) (by decide) ?_
  rintro y2 ⟨f2, w2⟩
  refine eg_return dX9_writesNumber_11 rfl ?_
  exact ⟨rfl, rfl, y2, rfl, f1.tr f2, w2.e (by rw [List.append_assoc]; rfl)⟩
