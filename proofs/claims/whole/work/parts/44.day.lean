theorem sm_add {f g : Int → Int} : ∀ n : Nat, sm (fun q => f q + g q) n = sm f n + sm g n
  | 0 => rfl
  | n + 1 => by
    show sm (fun q => f q + g q) n + (f n + g n) = sm f n + f n + (sm g n + g n)
    rw [sm_add n]; omega
theorem sm_neg {f : Int → Int} : ∀ n : Nat, sm (fun q => -f q) n = -sm f n
  | 0 => rfl
  | n + 1 => by
    show sm (fun q => -f q) n + -f n = -(sm f n + f n)
    rw [sm_neg n]; omega
theorem tg_add {v : eg_v} {c : Int} {p p' : Int → Int} : tg v c (fun q => p q + p' q) = tg v c p + tg v c p' := by
  unfold tg
  rw [← sm_add]
  refine sm_c (fun i _ _ => ?_)
  show (if gb v i c = true then p i + p' i else 0) = (if gb v i c = true then p i else 0) + (if gb v i c = true then p' i else 0)
  split <;> omega
theorem LL_e {v : eg_v} : ∀ (j : Nat) (c : Int), LL v j c = l0 v c - tg v c (SS v j)
  | 0, c => by
    have : tg v c (SS v 0) = 0 := z_tg (fun _ _ _ => rfl)
    rw [this]; show l0 v c = _; omega
  | j + 1, c => by
    show LL v j c - tg v c (pz v (LL v j) (pC v j) 46) = l0 v c - tg v c (fun q => SS v j q + pz v (LL v j) (pC v j) 46 q)
    rw [tg_add, LL_e j c]; omega
def hdS (v : eg_v) (p : Int → Int) (s q : Int) : Int := if gN v q 0 = s then hdF v q (p q) else 0
theorem dayIt_5 {v : eg_v} {B : Int} (hv : VV B v) {p : Int → Int} (hp : okp v p) {s : Int} (h0 : 0 ≤ s) (h1 : s < v 2) : ∀ m : Nat, (m : Int) ≤ v 3 → gH (dayIt v p m) s 5 = gH v s 5 - sm (hdS v p s) m
  | 0, _ => by show gH v s 5 = gH v s 5 - 0; omega
  | m + 1, hm => by
    have r := hv.r.2
    have a := dayIt_p hv hp m (by omega)
    have e : ∀ c : Int, 0 ≤ c → gN (dayIt v p m) m c = gN v m c := fun c hc => gN_d a.2 (by omega) hc
    have o := (hv.N (q := m) (by omega) (by omega)).1
    have ih := dayIt_5 hv hp h0 h1 m (by omega)
    have h : gH (dayV (dayIt v p m) m (p m)) s 5 = if gN v m 0 = s then gH (dayIt v p m) s 5 - hdF v m (p m) else gH (dayIt v p m) s 5 := by
      unfold dayV
      rw [gH_o (by omega) h0 (by omega) (by omega) (by omega), gH_o (by omega) h0 (by omega) (by omega) (by omega), gH_o (by omega) h0 (by omega) (by omega) (by omega), e 0 (by omega)]
      rw [gH_i o.1 (by omega) (by omega) h0 (by omega) (by omega)]
      by_cases hs : gN v m 0 = s
      · rw [if_pos ⟨hs.symm, rfl⟩, if_pos hs, hs]
        unfold hdF
        rw [e 1 (by omega), e 2 (by omega)]
      · rw [if_neg (by omega), if_neg hs, gH_i o.1 (by omega) (by omega) h0 (by omega) (by omega), if_neg (by omega)]
    show gH (dayV (dayIt v p m) m (p m)) s 5 = gH v s 5 - (sm (hdS v p s) m + hdS v p s m)
    rw [h, ih]
    unfold hdS
    split <;> omega
theorem dayIt_c {v : eg_v} {p p' : Int → Int} (h : agr v p p') : ∀ m : Nat, (m : Int) ≤ v 3 → dayIt v p m = dayIt v p' m
  | 0, _ => rfl
  | m + 1, hm => by
    show dayV (dayIt v p m) m (p m) = dayV (dayIt v p' m) m (p' m)
    rw [dayIt_c h m (by omega), h m (by omega) (by omega)]
theorem dayA_c {v : eg_v} {p p' : Int → Int} (h3 : 0 ≤ v 3) (h : agr v p p') : dayA v p = dayA v p' := by
  unfold dayA
  rw [dayIt_c h _ (by omega)]
theorem chF_c {v : eg_v} {p p' : Int → Int} (h : agr v p p') : ∀ m : Nat, (m : Int) ≤ v 3 → chF v p m = chF v p' m
  | 0, _ => rfl
  | m + 1, hm => by
    show (chF v p m || _) = (chF v p' m || _)
    rw [chF_c h m (by omega), h m (by omega) (by omega)]
theorem gH_d {v v' : eg_v} {x : Int} {s c : Int} (h : v' = va_up v 4 x) (h0 : 0 ≤ s) (h1 : s < 6) (h2 : 0 ≤ c) (h3 : c < 7) : gH v' s c = gH v s c := by subst h; exact gH_o (by omega) h0 h1 h2 h3
theorem dayA_i {v : eg_v} {B : Int} (hv : VV B v) {p : Int → Int} (hp : okp v p) {i : Nat} (h : (i < 7 ∨ (10 ≤ i ∧ i < 66) ∨ 108 ≤ i) ∧ i ≠ 4) : dayA v p i = v i := by
  have r := hv.r.2
  unfold dayA
  rw [va_up_n _ _ h.2]
  exact (dayIt_p hv hp (v 3).toNat (by omega)).2 i h.1
theorem dayA_4 {v : eg_v} {p : Int → Int} : dayA v p 4 = v 4 + 1 := by unfold dayA; rw [va_up_s]
/-- limits, ranks .. are as they were -/
theorem dayIt_h {v : eg_v} {B : Int} (hv : VV B v) {p : Int → Int} (hp : okp v p) {s c : Int} (h0 : 0 ≤ s) (h1 : s < v 2) (hc : 0 ≤ c ∧ c < 7 ∧ c ≠ 4 ∧ c ≠ 5) : ∀ m : Nat, (m : Int) ≤ v 3 → gH (dayIt v p m) s c = gH v s c
  | 0, _ => rfl
  | m + 1, hm => by
    have r := hv.r.2
    have a := dayIt_p hv hp m (by omega)
    have e : gN (dayIt v p m) m 0 = gN v m 0 := gN_d a.2 (by omega) (by omega)
    have o := (hv.N (q := m) (by omega) (by omega)).1
    show gH (dayV (dayIt v p m) m (p m)) s c = _
    unfold dayV
    rw [gH_o (by omega) h0 (by omega) (by omega) (by omega), gH_o (by omega) h0 (by omega) (by omega) (by omega), gH_o (by omega) h0 (by omega) (by omega) (by omega), e, gH_i o.1 (by omega) (by omega) h0 (by omega) (by omega), if_neg (by omega), gH_i o.1 (by omega) (by omega) h0 (by omega) (by omega), if_neg (by omega)]
    exact dayIt_h hv hp h0 h1 hc m (by omega)
theorem dayA_h {v : eg_v} {B : Int} (hv : VV B v) {p : Int → Int} (hp : okp v p) {s c : Int} (h0 : 0 ≤ s) (h1 : s < v 2) (hc : 0 ≤ c ∧ c < 7 ∧ c ≠ 4 ∧ c ≠ 5) : gH (dayA v p) s c = gH v s c := by
  have r := hv.r.2
  rw [gH_d (v' := dayA v p) rfl h0 (by omega) hc.1 hc.2.1]
  exact dayIt_h hv hp h0 h1 hc _ (by omega)
theorem dayA_5 {v : eg_v} {B : Int} (hv : VV B v) {p : Int → Int} (hp : okp v p) {s : Int} (h0 : 0 ≤ s) (h1 : s < v 2) : gH (dayA v p) s 5 = gH v s 5 - sm (hdS v p s) (v 3).toNat := by
  have r := hv.r.2
  rw [gH_d (v' := dayA v p) rfl h0 (by omega) (by omega) (by omega)]
  exact dayIt_5 hv hp h0 h1 _ (by omega)
theorem hdS_t {v : eg_v} {B : Int} (hv : VV B v) {p : Int → Int} {s : Int} (h0 : 0 ≤ s) : sm (hdS v p s) (v 3).toNat = tg v (35 + 2 * s) p - tg v (34 + 2 * s) p := by
  have e : tg v (35 + 2 * s) p - tg v (34 + 2 * s) p = sm (fun q => tgF v (35 + 2 * s) p q + -tgF v (34 + 2 * s) p q) (v 3).toNat := by
    rw [sm_add (f := tgF v (35 + 2 * s) p) (g := fun q => -tgF v (34 + 2 * s) p q), sm_neg]
    show sm _ _ - sm _ _ = _
    omega
  rw [e]
  refine sm_c (fun i g0 g1 => ?_)
  have o := hv.N g0 (show i < v 3 by omega)
  unfold okN isIn isOut at o
  have b1 : gb v i (35 + 2 * s) = true ↔ (gN v i 1 = -1 ∧ gN v i 0 = s) := by
    rw [gb_iff]
    constructor
    · intro h
      rcases h with h | h | h | h | h | h <;> omega
    · intro h
      exact Or.inr (Or.inr (Or.inr (Or.inr (Or.inr ⟨by omega, by omega, h.1, by omega⟩))))
  have b2 : gb v i (34 + 2 * s) = true ↔ (gN v i 2 = -1 ∧ gN v i 0 = s) := by
    rw [gb_iff]
    constructor
    · intro h
      rcases h with h | h | h | h | h | h <;> omega
    · intro h
      exact Or.inr (Or.inr (Or.inr (Or.inr (Or.inl ⟨by omega, by omega, h.1, by omega⟩))))
  unfold hdS hdF tgF
  have hb := o.2.2.2.1
  by_cases hs : gN v i 0 = s
  · rw [if_pos hs]
    by_cases hf : gN v i 1 = -1
    · rw [if_pos hf, if_pos (b1.mpr ⟨hf, hs⟩), if_neg (fun h => by have := (b2.mp h).1; omega)]; omega
    · rw [if_neg hf, if_neg (fun h => hf (b1.mp h).1)]
      by_cases ht : gN v i 2 = -1
      · rw [if_pos ht, if_pos (b2.mpr ⟨ht, hs⟩)]; omega
      · rw [if_neg ht, if_neg (fun h => ht (b2.mp h).1)]; omega
  · rw [if_neg hs, if_neg (fun h => hs (b1.mp h).2), if_neg (fun h => hs (b2.mp h).2)]; omega
theorem okpS {v : eg_v} {B : Int} (hv : VV B v) (hk : PK v) : okp v (SS v 10) := fun q h0 h1 => ⟨(SS10 hv hk h0 h1).1, (SS10 hv hk h0 h1).2.2⟩
theorem PK_day {v : eg_v} {B : Int} (hv : VV B v) (hk : PK v) : PK (dayA v (SS v 10)) := fun s h0 h1 => by
  have r := hv.r.2
  have hp := okpS hv hk
  rw [dayA_i hv hp (by omega)] at h1
  rw [dayA_h hv hp h0 h1 (by omega), dayA_5 hv hp h0 h1, hdS_t hv h0]
  have a := (LL_b hv hk 10 (35 + 2 * s).toNat (by omega)).1
  have b := (LL_b hv hk 10 (34 + 2 * s).toNat (by omega)).1
  rw [LL_e, show (((35 + 2 * s).toNat : Nat) : Int) = 35 + 2 * s by omega] at a
  rw [LL_e, show (((34 + 2 * s).toNat : Nat) : Int) = 34 + 2 * s by omega] at b
  have ta := (tg_b (v := v) (c := 35 + 2 * s) hp).1
  have tb := (tg_b (v := v) (c := 34 + 2 * s) hp).1
  have ea : l0 v (35 + 2 * s) = gH v s 3 + gH v s 5 := by
    unfold l0
    rw [if_neg (by omega), if_neg (by omega), if_neg (by omega), if_neg (by omega), if_pos (by omega), if_neg (by omega), show (35 + 2 * s - 34) / 2 = s by omega]
  have eb : l0 v (34 + 2 * s) = gH v s 3 - gH v s 5 := by
    unfold l0
    rw [if_neg (by omega), if_neg (by omega), if_neg (by omega), if_neg (by omega), if_pos (by omega), if_pos (by omega), show (34 + 2 * s - 34) / 2 = s by omega]
  omega
theorem VV_w {v : eg_v} {B B' : Int} (hB : B ≤ B') (h : VV B v) : VV B' v := by
  obtain ⟨a0, a1, a2, a3, a4, a5, a6, a7, a8, a9, a10⟩ := h
  refine ⟨a0, a1, a2, a3, a4, a5, a6, a7, a8, fun s h0 h1 => ?_, a10⟩
  have o := a9 s h0 h1
  unfold okH at o ⊢
  omega
theorem VV_dayA {v : eg_v} {B : Int} (hv : VV B v) {p : Int → Int} (hp : okp v p) (h4 : v 4 ≤ 9998) : VV (B + 640000) (dayA v p) := by
  have r := hv.r.2
  exact k_D (by omega) (VV_w (by omega) (dayIt_p hv hp (v 3).toNat (by omega)).1) (Int.le_refl _)
theorem fitN_t {v : eg_v} : ∀ {m : Nat}, fitN v m = true → ∀ s : Int, 0 ≤ s → s < m → -999999 ≤ gH v s 4 ∧ gH v s 4 ≤ 999999
  | 0, _, s, h0, h1 => by omega
  | m + 1, h, s, h0, h1 => by
    have h : (fitN v m && decide (-999999 ≤ gH v m 4 ∧ gH v m 4 ≤ 999999)) = true := h
    rw [Bool.and_eq_true] at h
    by_cases e : s = m
    · subst e; exact of_decide_eq_true h.2
    · exact fitN_t h.1 s h0 (by omega)
/-- the day is logged -/
def logV (u : eg_v) : eg_v := fun i => if i = 11 then (if u 11 < 8 then u 11 + 1 else u 11) else if 172 ≤ i ∧ i < 178 then gH u ((i : Int) - 172) 4 else if 178 ≤ i ∧ i < 220 then u (i - 6) else u i
theorem logV_i {u : eg_v} {i : Nat} (h : i ≠ 11 ∧ i < 172) : logV u i = u i := by unfold logV; rw [if_neg h.1, if_neg (by omega), if_neg (by omega)]
theorem hP_e {z : eg_Z} {b : Nat} {v v' : eg_v} {B : Int} (hv : VV B v) (e : ∀ i, i ≠ 11 → i < 172 → v' i = v i) (h : hP z b v) : hP z b v' := by
  have r := hv.r.2
  have es : segs v' = segs v := by unfold segs; rw [e 0 (by omega) (by omega)]
  obtain ⟨⟨z0, z1, z2, z3⟩, ⟨c1, c3, c5, c7⟩, a1, a2, a3, a4, a5, t0, t1, t2, t3⟩ := h
  unfold hP
  rw [e 0 (by omega) (by omega), e 1 (by omega) (by omega), e 2 (by omega) (by omega), e 3 (by omega) (by omega), e 4 (by omega) (by omega), e 5 (by omega) (by omega), e 6 (by omega) (by omega), e 7 (by omega) (by omega), e 8 (by omega) (by omega), e 9 (by omega) (by omega), e 10 (by omega) (by omega), es]
  refine ⟨⟨z0, z1, z2, z3⟩, ⟨c1, c3, c5, c7⟩, fun i c g0 g1 g2 g3 => ?_, fun i c g0 g1 g2 g3 => ?_, fun i c g0 g1 g2 g3 => ?_, fun i g0 g1 => ?_, fun i c g0 g1 g2 g3 => ?_, t0, t1, t2, t3⟩
  · rw [a1 i c g0 g1 g2 g3]; exact (e _ (by omega) (by omega)).symm
  · rw [a2 i c g0 g1 g2 g3]; exact (e _ (by omega) (by omega)).symm
  · rw [a3 i c g0 g1 g2 g3]; exact (e _ (by omega) (by omega)).symm
  · rw [a4 i g0 g1]; exact (e _ (by omega) (by omega)).symm
  · rw [a5 i c g0 g1 g2 g3]; exact (e _ (by omega) (by omega)).symm
theorem VV_e {v v' : eg_v} {B : Int} (hv : VV B v) (e : ∀ i, i ≠ 11 → i < 172 → v' i = v i) : VV B v' := by
  have r := hv.r.2
  obtain ⟨a0, a1, a2, a3, a4, a5, a6, a7, a8, a9, a10⟩ := hv
  have w : ∀ i, i < 66 → i ≠ 3 → (fun j => if j = 11 then v 11 else v' j) i = v i := fun i h _ => by
    show (if i = 11 then v 11 else v' i) = v i
    split
    · rename_i hh; rw [hh]
    · exact e i (by assumption) (by omega)
  unfold VV
  rw [e 0 (by omega) (by omega), e 1 (by omega) (by omega), e 2 (by omega) (by omega), e 3 (by omega) (by omega), e 4 (by omega) (by omega), e 5 (by omega) (by omega), e 6 (by omega) (by omega)]
  refine ⟨a0, a1, a2, a3, a4, a5, a6, fun i g0 g1 => ?_, fun i g0 g1 => ?_, fun i g0 g1 => ?_, fun i g0 g1 => ?_⟩
  · have o := a7 i g0 g1
    unfold okS gS at o ⊢
    rw [e _ (by omega) (by omega), e _ (by omega) (by omega)]; exact o
  · have o := a8 i g0 g1
    unfold okP gP at o ⊢
    rw [e 0 (by omega) (by omega), e _ (by omega) (by omega), e _ (by omega) (by omega), e _ (by omega) (by omega), e _ (by omega) (by omega)]; exact o
  · have o := a9 i g0 g1
    unfold okH gH at o ⊢
    rw [e _ (by omega) (by omega), e _ (by omega) (by omega), e _ (by omega) (by omega), e _ (by omega) (by omega), e _ (by omega) (by omega), e _ (by omega) (by omega)]; exact o
  · have o := a10 i g0 g1
    have g : ∀ c : Int, 0 ≤ c → c < 4 → gN v' i c = gN v i c := fun c h0 h1 => e _ (by omega) (by omega)
    have gp : ∀ p : Int, 0 ≤ p → p < v 1 → gP v' p 1 = gP v p 1 := fun p h0 h1 => e _ (by omega) (by omega)
    unfold okN isIn isOut at o ⊢
    rw [g 0 (by omega) (by omega), g 1 (by omega) (by omega), g 2 (by omega) (by omega), g 3 (by omega) (by omega), e 1 (by omega) (by omega), e 2 (by omega) (by omega)]
    exact ⟨o.1, o.2.1.imp id (fun h => ⟨h.1, h.2.1, by rw [gp _ h.1 h.2.1]; exact h.2.2⟩), o.2.2.1.imp id (fun h => ⟨h.1, h.2.1, by rw [gp _ h.1 h.2.1]; exact h.2.2⟩), o.2.2.2⟩
theorem okV_day {v : eg_v} (h : okV v) (h4 : v 4 < 999) (hf : fitN (dayA v (SS v 10)) (v 2).toNat = true) : okV (logV (dayA v (SS v 10))) := by
  have r := h.1.r.2
  have hp := okpS h.1 h.2.1
  have a := VV_dayA h.1 hp (by omega)
  have k := PK_day h.1 h.2.1
  have e2 : dayA v (SS v 10) 2 = v 2 := dayA_i h.1 hp (by omega)
  have b : VV 999999 (dayA v (SS v 10)) := by
    obtain ⟨a0, a1, a2, a3, a4, a5, a6, a7, a8, a9, a10⟩ := a
    refine ⟨a0, a1, a2, a3, a4, a5, a6, a7, a8, fun s h0 h1 => ?_, a10⟩
    have o := a9 s h0 h1
    have f := fitN_t hf s h0 (by omega)
    have g := k s h0 h1
    unfold okH at o ⊢
    omega
  refine ⟨VV_e b (fun i h1 h2 => logV_i ⟨h1, h2⟩), fun s h0 h1 => ?_, by rw [logV_i (by omega), dayA_4]; omega⟩
  rw [logV_i (by omega)] at h1
  have g := k s h0 h1
  unfold gH at g ⊢
  rw [logV_i (by omega), logV_i (by omega)]
  exact g
/-- the schedule looks at these numbers alone -/
def sE (v v' : eg_v) : Prop := v' 0 = v 0 ∧ v' 1 = v 1 ∧ v' 2 = v 2 ∧ v' 3 = v 3 ∧ (∀ q c : Int, 0 ≤ q → q < v 3 → 0 ≤ c → c < 4 → gN v' q c = gN v q c) ∧ (∀ p c : Int, 0 ≤ p → p < v 1 → 0 ≤ c → c < 4 → gP v' p c = gP v p c) ∧ (∀ i c : Int, 0 ≤ i → i < 7 → 0 ≤ c → c < 2 → gS v' i c = gS v i c) ∧ (∀ s c : Int, 0 ≤ s → s < v 2 → (c = 0 ∨ c = 1 ∨ c = 3 ∨ c = 5) → gH v' s c = gH v s c)
theorem gb_c {v v' : eg_v} {B : Int} (hv : VV B v) (h : sE v v') {q c : Int} (h0 : 0 ≤ q) (h1 : q < v 3) : gb v' q c = gb v q c := by
  obtain ⟨e0, e1, e2, e3, eN, eP, eS, eH⟩ := h
  unfold gb
  rw [eN q 0 h0 h1 (by omega) (by omega), eN q 1 h0 h1 (by omega) (by omega), eN q 2 h0 h1 (by omega) (by omega)]
  by_cases hf : gN v q 1 = -1
  · simp [hf]
  · by_cases ht : gN v q 2 = -1
    · simp [ht]
    · have u := hv.hub h0 h1 hf ht
      rw [eP _ 0 u.1.1 u.1.2 (by omega) (by omega), eP _ 0 u.2.1.1 u.2.1.2 (by omega) (by omega)]
theorem tg_v {v v' : eg_v} {B : Int} (hv : VV B v) (h : sE v v') {c : Int} {p : Int → Int} : tg v' c p = tg v c p := by
  unfold tg
  rw [h.2.2.2.1]
  refine sm_c (fun i g0 g1 => ?_)
  unfold tgF
  rw [gb_c hv h g0 (by omega)]
theorem qt_v {v v' : eg_v} {B : Int} (hv : VV B v) (h : sE v v') {c l : Int} {p : Int → Int} {q : Int} (h0 : 0 ≤ q) (h1 : q < v 3) : qt v' c l p q = qt v c l p q := by
  unfold qt
  rw [gb_c hv h h0 h1, tg_v hv h]
theorem ov_v {v v' : eg_v} {B : Int} (hv : VV B v) (h : sE v v') {c l : Int} {p : Int → Int} : ∀ m : Nat, (m : Int) ≤ v 3 → ov v' c l p m = ov v c l p m
  | 0, _ => by
    show l - sm (tgF v' c (qt v' c l p)) (v' 3).toNat = l - sm (tgF v c (qt v c l p)) (v 3).toNat
    rw [h.2.2.2.1, sm_c (g := tgF v c (qt v c l p)) (fun i g0 g1 => by unfold tgF; rw [gb_c hv h g0 (by omega), qt_v hv h g0 (by omega)])]
  | m + 1, hm => by
    show (if 0 < ov v' c l p m ∧ qt v' c l p m < p m then ov v' c l p m - 1 else ov v' c l p m) = (if 0 < ov v c l p m ∧ qt v c l p m < p m then ov v c l p m - 1 else ov v c l p m)
    rw [ov_v hv h m (by omega), qt_v hv h (by omega) (by omega)]
theorem sqP_v {v v' : eg_v} {B : Int} (hv : VV B v) (h : sE v v') {c l : Int} {p : Int → Int} : agr v (sqP v' c l p) (sqP v c l p) := fun q h0 h1 => by
  unfold sqP
  rw [tg_v hv h, qt_v hv h h0 h1, ov_v hv h q.toNat (by omega)]
theorem l0_v {v v' : eg_v} {B : Int} (hv : VV B v) (h : sE v v') {c : Int} (h0 : 0 ≤ c) (h1 : c < 46) : l0 v' c = l0 v c := by
  have r := hv.r.2
  obtain ⟨e0, e1, e2, e3, eN, eP, eS, eH⟩ := h
  have es : segs v' = segs v := by unfold segs; rw [e0]
  unfold l0
  rw [e1, e2, es]
  by_cases a : c < 10
  · rw [if_pos a, if_pos a]
    by_cases b : c < v 1
    · rw [eP c 1 h0 b (by omega) (by omega), eP c 2 h0 b (by omega) (by omega)]
    · rw [if_neg (fun hh => b hh.1), if_neg (fun hh => b hh.1)]
  · rw [if_neg a, if_neg a]
    · by_cases b : c < 17
      · rw [if_pos b, if_pos b, eS _ 0 (by omega) (by omega) (by omega) (by omega)]
      · rw [if_neg b, if_neg b]
        by_cases d : c < 24
        · rw [if_pos d, if_pos d, eS _ 0 (by omega) (by omega) (by omega) (by omega)]
        · rw [if_neg d, if_neg d]
          by_cases f : c < 34
          · rw [if_pos f, if_pos f]
            by_cases g : c - 24 < v 1
            · rw [eP _ 1 (by omega) g (by omega) (by omega), eP _ 2 (by omega) g (by omega) (by omega)]
            · rw [if_neg (fun hh => g hh.1), if_neg (fun hh => g hh.1)]
          · rw [if_neg f, if_neg f]
            by_cases g : (c - 34) / 2 < v 2
            · rw [eH _ 3 (by omega) g (by omega), eH _ 5 (by omega) g (by omega)]
            · rw [if_neg g, if_neg g]
