theorem eg_ia210 {k : eg_K} {g : eg_G} {d bc bs n : Nat} {X : eg_M} {ls st : List Value} {pc : Nat} {Q : eg_Q} {y : eg_Z} {p x : Int} (hd : decode g.2.1 pc = .ok (.iastore, 1)) (h0 : 0 ≤ p) (h1 : p < 36) (h : ∀ y' : eg_Z, (∀ d, d ≠ 210 → y' d = y d) → y' 210 = va_up (y 210) p.toNat x → eg_E k g d bc bs n (enc k y' X) ls st (pc + 1) Q) : eg_E k g d bc bs n (enc k y X) ls (vI x :: vI p :: vR k 210 :: st) pc Q := by
  refine eg_iast hd er210 h0 h1 (by decide) ?_
  refine eg_eqM es210 ?_
  exact h _ (fun c hc => va_up_n _ _ hc) (va_up_s _ _ _)
theorem eg_ia211 {k : eg_K} {g : eg_G} {d bc bs n : Nat} {X : eg_M} {ls st : List Value} {pc : Nat} {Q : eg_Q} {y : eg_Z} {p x : Int} (hd : decode g.2.1 pc = .ok (.iastore, 1)) (h0 : 0 ≤ p) (h1 : p < 16) (h : ∀ y' : eg_Z, (∀ d, d ≠ 211 → y' d = y d) → y' 211 = va_up (y 211) p.toNat x → eg_E k g d bc bs n (enc k y' X) ls st (pc + 1) Q) : eg_E k g d bc bs n (enc k y X) ls (vI x :: vI p :: vR k 211 :: st) pc Q := by
  refine eg_iast hd er211 h0 h1 (by decide) ?_
  refine eg_eqM es211 ?_
  exact h _ (fun c hc => va_up_n _ _ hc) (va_up_s _ _ _)
theorem eg_ia212 {k : eg_K} {g : eg_G} {d bc bs n : Nat} {X : eg_M} {ls st : List Value} {pc : Nat} {Q : eg_Q} {y : eg_Z} {p x : Int} (hd : decode g.2.1 pc = .ok (.iastore, 1)) (h0 : 0 ≤ p) (h1 : p < 16) (h : ∀ y' : eg_Z, (∀ d, d ≠ 212 → y' d = y d) → y' 212 = va_up (y 212) p.toNat x → eg_E k g d bc bs n (enc k y' X) ls st (pc + 1) Q) : eg_E k g d bc bs n (enc k y X) ls (vI x :: vI p :: vR k 212 :: st) pc Q := by
  refine eg_iast hd er212 h0 h1 (by decide) ?_
  refine eg_eqM es212 ?_
  exact h _ (fun c hc => va_up_n _ _ hc) (va_up_s _ _ _)
theorem eg_ia213 {k : eg_K} {g : eg_G} {d bc bs n : Nat} {X : eg_M} {ls st : List Value} {pc : Nat} {Q : eg_Q} {y : eg_Z} {p x : Int} (hd : decode g.2.1 pc = .ok (.iastore, 1)) (h0 : 0 ≤ p) (h1 : p < 16) (h : ∀ y' : eg_Z, (∀ d, d ≠ 213 → y' d = y d) → y' 213 = va_up (y 213) p.toNat x → eg_E k g d bc bs n (enc k y' X) ls st (pc + 1) Q) : eg_E k g d bc bs n (enc k y X) ls (vI x :: vI p :: vR k 213 :: st) pc Q := by
  refine eg_iast hd er213 h0 h1 (by decide) ?_
  refine eg_eqM es213 ?_
  exact h _ (fun c hc => va_up_n _ _ hc) (va_up_s _ _ _)
theorem eg_ia214 {k : eg_K} {g : eg_G} {d bc bs n : Nat} {X : eg_M} {ls st : List Value} {pc : Nat} {Q : eg_Q} {y : eg_Z} {p x : Int} (hd : decode g.2.1 pc = .ok (.iastore, 1)) (h0 : 0 ≤ p) (h1 : p < 16) (h : ∀ y' : eg_Z, (∀ d, d ≠ 214 → y' d = y d) → y' 214 = va_up (y 214) p.toNat x → eg_E k g d bc bs n (enc k y' X) ls st (pc + 1) Q) : eg_E k g d bc bs n (enc k y X) ls (vI x :: vI p :: vR k 214 :: st) pc Q := by
  refine eg_iast hd er214 h0 h1 (by decide) ?_
  refine eg_eqM es214 ?_
  exact h _ (fun c hc => va_up_n _ _ hc) (va_up_s _ _ _)
theorem eg_ia215 {k : eg_K} {g : eg_G} {d bc bs n : Nat} {X : eg_M} {ls st : List Value} {pc : Nat} {Q : eg_Q} {y : eg_Z} {p x : Int} (hd : decode g.2.1 pc = .ok (.iastore, 1)) (h0 : 0 ≤ p) (h1 : p < 16) (h : ∀ y' : eg_Z, (∀ d, d ≠ 215 → y' d = y d) → y' 215 = va_up (y 215) p.toNat x → eg_E k g d bc bs n (enc k y' X) ls st (pc + 1) Q) : eg_E k g d bc bs n (enc k y X) ls (vI x :: vI p :: vR k 215 :: st) pc Q := by
  refine eg_iast hd er215 h0 h1 (by decide) ?_
  refine eg_eqM es215 ?_
  exact h _ (fun c hc => va_up_n _ _ hc) (va_up_s _ _ _)
theorem va_up_e {α : Type} {f g : Nat → α} {i j : Nat} {x : α} (h : g = va_up f i x) (e : j = i) : g j = x := by subst e; rw [h, va_up_s]
theorem va_up_k {α : Type} {f g : Nat → α} {i j : Nat} {x : α} (h : g = va_up f i x) (e : j ≠ i) : g j = f j := by rw [h, va_up_n _ _ e]
/-- behind m stops of a class -/
def PZ (v : eg_v) (l p ct : Int → Int) (m : Nat) (y : eg_Z) : Prop := ∀ q : Int, 0 ≤ q → q < v 3 → y 211 q.toNat = pz v l p m q ∧ y 214 q.toNat = cz v l p ct m q
theorem PZ.no {v : eg_v} {l p ct : Int → Int} {m m' : Nat} {y : eg_Z} (hl : ∀ c : Nat, c < 46 → 0 ≤ l c ∧ l c ≤ 19998) (h : PZ v l p ct m y) (h1 : m ≤ m') (h2 : m' ≤ 46) (hn : ∀ c : Nat, m ≤ c → c < m' → ∀ q : Int, 0 ≤ q → q < v 3 → gb v q c = false) : PZ v l p ct m' y := fun q a b => by
  have e := pzN (v := v) (l := l) (p := p) (ct := ct) (m := m) (fun c hc => (hl c hc).1) (m' - m) (by omega) (fun c x y => hn c x (by omega)) q
  rw [show m + (m' - m) = m' by omega] at e
  rw [e.1, e.2]
  exact h q a b
theorem PZ.c {v : eg_v} {l p ct : Int → Int} {m : Nat} {y y' : eg_Z} (h : PZ v l p ct m y) (e1 : y' 211 = y 211) (e2 : y' 214 = y 214) : PZ v l p ct m y' := fun q a b => by rw [e1, e2]; exact h q a b
theorem cutJ {k : eg_K} {z : eg_Z} {X : eg_M} {n : Nat} {v : eg_v} (hN : nw z v) {B : Int} (hv : VV B v) {l p0 ct0 : Int → Int} (hk : okp v p0) (hl : ∀ c : Nat, c < 46 → 0 ≤ l c ∧ l c ≤ 19998) (hcb : ∀ q : Int, 0 ≤ q → q < v 3 → -2 ≤ ct0 q ∧ ct0 q ≤ 600) {m : Int} {c : Nat} (hm : isM v m) (hC : stM v m = (c : Int)) (hc : c < 46) (hlz : z 210 m.toNat = l (c : Int)) (hZ : PZ v l p0 ct0 c z) : eg_P k gX9_cutsAt 2 0 0 [vR k 202, vI m] n (enc k z X) (eg_p k none n X (fun z' => (∀ d, d ≠ 211 → d ≠ 214 → z' d = z d) ∧ PZ v l p0 ct0 (c + 1) z')) :=
  c_cutsAt hN hv hm hC (pz_b hk (fun c hc => (hl c hc).1) c (by omega)).1 (fun q a b => (hZ q a b).1) (fun q a b => (hZ q a b).2) hlz (hl c hc) (cz_b hcb c (by omega))
theorem c_goesOverPoints {k : eg_K} {z : eg_Z} {X : eg_M} {n : Nat} {v : eg_v} (hN : nw z v) {B : Int} (hv : VV B v) {l p0 ct0 : Int → Int} (hk : okp v p0) (hl : ∀ c : Nat, c < 46 → 0 ≤ l c ∧ l c ≤ 19998) (hcb : ∀ q : Int, 0 ≤ q → q < v 3 → -2 ≤ ct0 q ∧ ct0 q ≤ 600) (hlz : ∀ m : Int, isM v m → z 210 m.toNat = l (stM v m)) {w : Int} {b : Nat} (hw : (w = 1 ∧ b = 0) ∨ (w = 0 ∧ b = 24)) (hZ : PZ v l p0 ct0 b z) : eg_P k gX9_goesOverPoints 3 0 0 [vR k 202, vI w] n (enc k z X) (eg_p k none n X (fun z' => (∀ d, d ≠ 211 → d ≠ 214 → z' d = z d) ∧ PZ v l p0 ct0 (b + 10) z')) := by
  refine eg_P.of (by decide) (Nat.le_of_ble_eq_true rfl) ?_
  show eg_E k gX9_goesOverPoints 3 0 0 n (enc k z X) [vR k 202, vI w, vU] [] 0 _
  have q := hv.r.2
  have L : ∀ (mm : Nat) (i : Nat) (y : eg_Z), (i : Int) ≤ v 1 → (∀ d, d ≠ 211 → d ≠ 214 → y d = z d) → PZ v l p0 ct0 (b + i) y → v 1 - (i : Int) < (mm : Int) → eg_E k gX9_goesOverPoints 3 0 0 n (enc k y X) [vR k 202, vI w, vI (i : Int)] [] 2 (eg_p k none n X (fun z' => (∀ d, d ≠ 211 → d ≠ 214 → z' d = z d) ∧ PZ v l p0 ct0 (b + 10) z')) := by
    intro mm
    induction mm with
    | zero => intro i y h1 hf hz hmm; exfalso; omega
    | succ mm ih =>
      intro i y h1 hf hz hmm
      have hNy : nw y v := nw_c (hf 203 (by decide) (by decide)) hN
      refine eg_iload_n dX9_goesOverPoints_2 rfl ?_
      refine eg_al_n dX9_goesOverPoints_3 rfl rfl ?_
      refine eg_iconst dX9_goesOverPoints_4 ?_
      refine eg_Vf1 cs_X9_179 dX9_goesOverPoints_5 (many_1 hNy) (by first | exact er202 | exact er203 | exact er204 | exact er205 | exact er206 | exact er207 | exact er208 | exact er209 | exact er210 | exact er211 | exact er212 | exact er213 | exact er214 | exact er215) rfl (Nat.le_of_ble_eq_true rfl) (by decide) ?_
      refine eg_icmp_ge 32 dX9_goesOverPoints_8 ⟨by omega, by omega⟩ ⟨by omega, by omega⟩ rfl (fun h8 => ?_) (fun h8 => ?_)
      · refine eg_return dX9_goesOverPoints_32 rfl ?_
        refine ⟨rfl, rfl, y, rfl, hf, hz.no hl (by omega) (by omega) (fun c9 a b9 q9 g0 g1 => gb_no hv g0 g1 ⟨by omega, by omega⟩ ?_)⟩
        rcases hw with ⟨e1, e2⟩ | ⟨e1, e2⟩
        · subst e2; exact Or.inl ⟨by omega, fun hh => by omega⟩
        · subst e2; exact Or.inr (Or.inr (Or.inr (Or.inl ⟨by omega, by omega, fun hh => by omega⟩)))
      · have hi : (i : Int) < v 1 := by omega
        have op := hv.P (p := i) (by omega) hi
        unfold okP at op
        have sE : gP v i 1 = w → stM v i = ((b + i : Nat) : Int) := fun e => by unfold stM stQ; rw [if_pos (by omega), if_pos (by omega)]; rcases hw with ⟨e1, e2⟩ | ⟨e1, e2⟩ <;> (subst e1; subst e2; first | rw [if_pos e] | rw [if_neg (by omega)]) <;> omega
        have hM9 : isM v i := Or.inl ⟨by omega, by omega, hi⟩
        refine eg_al_n dX9_goesOverPoints_11 rfl rfl ?_
        refine eg_iload_n dX9_goesOverPoints_12 rfl ?_
        refine eg_iconst dX9_goesOverPoints_13 ?_
        refine eg_Vf2 cs_X9_189 dX9_goesOverPoints_14 (c_pointOf hNy (by omega) (by omega) (by omega) (by omega)) (by first | exact er202 | exact er203 | exact er204 | exact er205 | exact er206 | exact er207 | exact er208 | exact er209 | exact er210 | exact er211 | exact er212 | exact er213 | exact er214 | exact er215) rfl (Nat.le_of_ble_eq_true rfl) (by decide) ?_
        refine eg_iload_n dX9_goesOverPoints_17 rfl ?_
        refine eg_icmp_ne 26 dX9_goesOverPoints_18 ⟨by omega, by omega⟩ ⟨by omega, by omega⟩ rfl (fun h18 => ?_) (fun h18 => ?_)
        · refine eg_iinc dX9_goesOverPoints_26 rfl rfl rfl ?_
          refine eg_goto 2 dX9_goesOverPoints_29 rfl ?_
          refine ih (i + 1) y (by omega) hf (hz.no hl (by omega) (by omega) (fun c9 a b9 q9 g0 g1 => ?_)) (by omega)
          have ec : c9 = b + i := by omega
          subst ec
          refine gb_no hv g0 g1 ⟨by omega, by omega⟩ ?_
          rcases hw with ⟨e1, e2⟩ | ⟨e1, e2⟩
          · subst e1; subst e2; exact Or.inl ⟨by omega, fun hh => by rw [show ((0 + i : Nat) : Int) = i by omega] at hh; omega⟩
          · subst e1; subst e2; exact Or.inr (Or.inr (Or.inr (Or.inl ⟨by omega, by omega, fun hh => by rw [show ((24 + i : Nat) : Int) - 24 = i by omega] at hh; omega⟩)))
        · refine eg_al_n dX9_goesOverPoints_21 rfl rfl ?_
          refine eg_iload_n dX9_goesOverPoints_22 rfl ?_
          refine eg_Vpv1 cs_X9_267 dX9_goesOverPoints_23 (cutJ hNy hv hk hl hcb (c := b + i) (m := i) hM9 (sE (by omega)) (by omega) (by rw [hf 210 (by decide) (by decide), hlz _ hM9, sE (by omega)]) hz) (by first | exact er202 | exact er203 | exact er204 | exact er205 | exact er206 | exact er207 | exact er208 | exact er209 | exact er210 | exact er211 | exact er212 | exact er213 | exact er214 | exact er215) rfl (Nat.le_of_ble_eq_true rfl) (by decide) ?_
          rintro y1 ⟨f1, z1⟩
          refine eg_iinc dX9_goesOverPoints_26 rfl rfl rfl ?_
          refine eg_goto 2 dX9_goesOverPoints_29 rfl ?_
          exact ih (i + 1) y1 (by omega) (fun d d1 d2 => (f1 d d1 d2).trans (hf d d1 d2)) z1 (by omega)
  refine eg_iconst dX9_goesOverPoints_0 ?_
  refine eg_istore_n dX9_goesOverPoints_1 rfl rfl rfl ?_
  exact L 11 0 z (by omega) (fun _ _ _ => rfl) hZ (by omega)
set_option maxHeartbeats 1600000 in
theorem c_classGoes {k : eg_K} {z : eg_Z} {X : eg_M} {n : Nat} {v : eg_v} (hN : nw z v) {B : Int} (hv : VV B v) {l p0 ct0 : Int → Int} (hk : okp v p0) (hl : ∀ c : Nat, c < 46 → 0 ≤ l c ∧ l c ≤ 19998) (hcb : ∀ q : Int, 0 ≤ q → q < v 3 → -2 ≤ ct0 q ∧ ct0 q ≤ 600) (hlz : ∀ m : Int, isM v m → z 210 m.toNat = l (stM v m)) (hZ : PZ v l p0 ct0 0 z) : eg_P k gX9_classGoes 4 0 0 [vR k 202] n (enc k z X) (eg_p k none n X (fun z' => (∀ d, d ≠ 210 → d ≠ 211 → d ≠ 213 → d ≠ 214 → z' d = z d) ∧ PZ v l p0 ct0 46 z' ∧ (∀ q : Int, 0 ≤ q → q < v 3 → z' 213 q.toNat = z 213 q.toNat + pz v l p0 46 q) ∧ ∀ m : Int, isM v m → z' 210 m.toNat = l (stM v m) - tg v (stM v m) (pz v l p0 46))) := by
  refine eg_P.of (by decide) (Nat.le_of_ble_eq_true rfl) ?_
  show eg_E k gX9_classGoes 4 0 0 n (enc k z X) [vR k 202, vU, vU] [] 0 _
  have q := hv.r.2
  have sg := hv.sgs
  have L6 : ∀ (mm : Nat) (i : Int) (y : eg_Z) (w2 : Value), 0 ≤ i → i ≤ v 3 → (∀ d, d ≠ 210 → d ≠ 211 → d ≠ 213 → d ≠ 214 → y d = z d) → PZ v l p0 ct0 46 y → (∀ q : Int, 0 ≤ q → q < i → y 213 q.toNat = z 213 q.toNat + pz v l p0 46 q) → (∀ q : Int, i ≤ q → q < v 3 → y 213 q.toNat = z 213 q.toNat) → (∀ m : Int, isM v m → y 210 m.toNat = l (stM v m) - sm (tgF v (stM v m) (pz v l p0 46)) i.toNat) → v 3 - i < (mm : Int) → eg_E k gX9_classGoes 4 0 0 n (enc k y X) [vR k 202, vI i, w2] [] 99 (eg_p k none n X (fun z' => (∀ d, d ≠ 210 → d ≠ 211 → d ≠ 213 → d ≠ 214 → z' d = z d) ∧ PZ v l p0 ct0 46 z' ∧ (∀ q : Int, 0 ≤ q → q < v 3 → z' 213 q.toNat = z 213 q.toNat + pz v l p0 46 q) ∧ ∀ m : Int, isM v m → z' 210 m.toNat = l (stM v m) - tg v (stM v m) (pz v l p0 46))) := by
    intro mm
    induction mm with
    | zero => intro i y w2 h0 h1 hf hz ha hb hc hmm; exfalso; omega
    | succ mm ih =>
      intro i y w2 h0 h1 hf hz ha hb hc hmm
      have hNy : nw y v := nw_c (hf 203 (by decide) (by decide) (by decide) (by decide)) hN
      have LI : i < v 3 → ∀ (nn : Nat) (j : Int) (y2 : eg_Z), 0 ≤ j → j ≤ 36 → (∀ d, d ≠ 210 → d ≠ 211 → d ≠ 213 → d ≠ 214 → y2 d = z d) → PZ v l p0 ct0 46 y2 → (∀ q : Int, 0 ≤ q → q < (i + 1) → y2 213 q.toNat = z 213 q.toNat + pz v l p0 46 q) → (∀ q : Int, (i + 1) ≤ q → q < v 3 → y2 213 q.toNat = z 213 q.toNat) → (∀ m : Int, isM v m → y2 210 m.toNat = l (stM v m) - sm (tgF v (stM v m) (pz v l p0 46)) (if m < j then (i + 1).toNat else i.toNat)) → 36 - j < (nn : Int) → eg_E k gX9_classGoes 4 0 0 n (enc k y2 X) [vR k 202, vI i, vI j] [] 125 (eg_p k none n X (fun z' => (∀ d, d ≠ 210 → d ≠ 211 → d ≠ 213 → d ≠ 214 → z' d = z d) ∧ PZ v l p0 ct0 46 z' ∧ (∀ q : Int, 0 ≤ q → q < v 3 → z' 213 q.toNat = z 213 q.toNat + pz v l p0 46 q) ∧ ∀ m : Int, isM v m → z' 210 m.toNat = l (stM v m) - tg v (stM v m) (pz v l p0 46))) := by
        intro hi nn
        induction nn with
        | zero => intro j y2 j0 j1 gf gz ga gb9 gc hnn; exfalso; omega
        | succ nn ihn =>
          intro j y2 j0 j1 gf gz ga gb9 gc hnn
          have hNy2 : nw y2 v := nw_c (gf 203 (by decide) (by decide) (by decide) (by decide)) hN
          refine eg_iload_n dX9_classGoes_125 rfl ?_
          refine eg_bipush dX9_classGoes_126 (by decide) ?_
          refine eg_icmp_ge 165 dX9_classGoes_128 ⟨by omega, by omega⟩ ⟨by omega, by omega⟩ rfl (fun h128 => ?_) (fun h128 => ?_)
          · refine eg_iinc dX9_classGoes_165 rfl rfl rfl ?_
            refine eg_goto 99 dX9_classGoes_168 rfl ?_
            refine ih (i + 1) y2 _ (by omega) (by omega) gf gz ga gb9 (fun m9 hm9 => ?_) (by omega)
            have m36 : m9 < 36 := by unfold isM at hm9; omega
            have := gc m9 hm9
            rw [if_pos (by omega)] at this
            exact this
          · refine eg_al_n dX9_classGoes_131 rfl rfl ?_
            refine eg_get fl_X9_33 dX9_classGoes_132 (by first | exact er202 | exact er203 | exact er204 | exact er205 | exact er206 | exact er207 | exact er208 | exact er209 | exact er210 | exact er211 | exact er212 | exact er213 | exact er214 | exact er215) rfl ?_
            refine eg_iload_n dX9_classGoes_135 rfl ?_
            refine eg_dup2 dX9_classGoes_136 rfl rfl ?_
            refine eg_iald dX9_classGoes_137 (by first | exact er202 | exact er203 | exact er204 | exact er205 | exact er206 | exact er207 | exact er208 | exact er209 | exact er210 | exact er211 | exact er212 | exact er213 | exact er214 | exact er215) (by omega) (by omega) (by decide) ?_
            refine eg_al_n dX9_classGoes_138 rfl rfl ?_
            refine eg_iload_n dX9_classGoes_139 rfl ?_
            refine eg_iload_n dX9_classGoes_140 rfl ?_
            refine eg_Vf2 cs_X9_261 dX9_classGoes_141 (c_goesBy hNy2 hv h0 hi ⟨by omega, by omega⟩) (by first | exact er202 | exact er203 | exact er204 | exact er205 | exact er206 | exact er207 | exact er208 | exact er209 | exact er210 | exact er211 | exact er212 | exact er213 | exact er214 | exact er215) rfl (Nat.le_of_ble_eq_true rfl) (by decide) ?_
            refine eg_bi_eq 156 dX9_classGoes_144 rfl (fun h144 => ?_) (fun h144 => ?_)
            · refine eg_iconst dX9_classGoes_156 ?_
              refine eg_isub dX9_classGoes_157 ?_
              refine eg_ia210 dX9_classGoes_158 (by omega) (by omega) (fun y3 f3 e3 => ?_)
              refine eg_iinc dX9_classGoes_159 rfl rfl rfl ?_
              refine eg_goto 125 dX9_classGoes_162 rfl ?_
              refine ihn (j + 1) y3 (by omega) (by omega) (fun d d1 d2 d3 d4 => by rw [f3 d d1]; exact gf d d1 d2 d3 d4) (gz.c (f3 211 (by decide)) (f3 214 (by decide))) (by rw [f3 213 (by decide)]; exact ga) (by rw [f3 213 (by decide)]; exact gb9) (fun m9 hm9 => ?_) (by omega)
              have m36 : 0 ≤ m9 ∧ m9 < 36 := by unfold isM at hm9; omega
              have gc9 := gc m9 hm9
              by_cases e : m9 = j
              · subst e
                rw [va_up_e e3 rfl, gc9, if_neg (by omega), if_pos (by omega), sm_s _ h0]
                unfold tgF
                rw [← gbM_e hv h0 hi hm9]
                first | (rw [if_pos h144, (gz i h0 hi).1]; omega) | (rw [if_neg h144]; omega)
              · rw [va_up_k e3 (by omega), gc9]
                by_cases e2 : m9 < j
                · rw [if_pos e2, if_pos (by omega)]
                · rw [if_neg e2, if_neg (by omega)]
            · refine eg_al_n dX9_classGoes_147 rfl rfl ?_
              refine eg_get fl_X9_37 dX9_classGoes_148 (by first | exact er202 | exact er203 | exact er204 | exact er205 | exact er206 | exact er207 | exact er208 | exact er209 | exact er210 | exact er211 | exact er212 | exact er213 | exact er214 | exact er215) rfl ?_
              refine eg_iload_n dX9_classGoes_151 rfl ?_
              refine eg_iald dX9_classGoes_152 (by first | exact er202 | exact er203 | exact er204 | exact er205 | exact er206 | exact er207 | exact er208 | exact er209 | exact er210 | exact er211 | exact er212 | exact er213 | exact er214 | exact er215) (by omega) (by omega) (by decide) ?_
              refine eg_goto 157 dX9_classGoes_153 rfl ?_
              refine eg_isub dX9_classGoes_157 ?_
              refine eg_ia210 dX9_classGoes_158 (by omega) (by omega) (fun y3 f3 e3 => ?_)
              refine eg_iinc dX9_classGoes_159 rfl rfl rfl ?_
              refine eg_goto 125 dX9_classGoes_162 rfl ?_
              refine ihn (j + 1) y3 (by omega) (by omega) (fun d d1 d2 d3 d4 => by rw [f3 d d1]; exact gf d d1 d2 d3 d4) (gz.c (f3 211 (by decide)) (f3 214 (by decide))) (by rw [f3 213 (by decide)]; exact ga) (by rw [f3 213 (by decide)]; exact gb9) (fun m9 hm9 => ?_) (by omega)
              have m36 : 0 ≤ m9 ∧ m9 < 36 := by unfold isM at hm9; omega
              have gc9 := gc m9 hm9
              by_cases e : m9 = j
              · subst e
                rw [va_up_e e3 rfl, gc9, if_neg (by omega), if_pos (by omega), sm_s _ h0]
                unfold tgF
                rw [← gbM_e hv h0 hi hm9]
                first | (rw [if_pos h144, (gz i h0 hi).1]; omega) | (rw [if_neg h144]; omega)
              · rw [va_up_k e3 (by omega), gc9]
                by_cases e2 : m9 < j
                · rw [if_pos e2, if_pos (by omega)]
                · rw [if_neg e2, if_neg (by omega)]
      refine eg_iload_n dX9_classGoes_99 rfl ?_
      refine eg_al_n dX9_classGoes_100 rfl rfl ?_
      refine eg_iconst dX9_classGoes_101 ?_
      refine eg_Vf1 cs_X9_179 dX9_classGoes_102 (many_3 hNy) (by first | exact er202 | exact er203 | exact er204 | exact er205 | exact er206 | exact er207 | exact er208 | exact er209 | exact er210 | exact er211 | exact er212 | exact er213 | exact er214 | exact er215) rfl (Nat.le_of_ble_eq_true rfl) (by decide) ?_
      refine eg_icmp_ge 171 dX9_classGoes_105 ⟨by omega, by omega⟩ ⟨by omega, by omega⟩ rfl (fun h105 => ?_) (fun h105 => ?_)
      · refine eg_return dX9_classGoes_171 rfl ?_
        have e : i = v 3 := by omega
        subst e
        exact ⟨rfl, rfl, y, rfl, hf, hz, ha, hc⟩
      · have hi : i < v 3 := by omega
        refine eg_al_n dX9_classGoes_108 rfl rfl ?_
        refine eg_get fl_X9_43 dX9_classGoes_109 (by first | exact er202 | exact er203 | exact er204 | exact er205 | exact er206 | exact er207 | exact er208 | exact er209 | exact er210 | exact er211 | exact er212 | exact er213 | exact er214 | exact er215) rfl ?_
        refine eg_iload_n dX9_classGoes_112 rfl ?_
        refine eg_dup2 dX9_classGoes_113 rfl rfl ?_
        refine eg_iald dX9_classGoes_114 (by first | exact er202 | exact er203 | exact er204 | exact er205 | exact er206 | exact er207 | exact er208 | exact er209 | exact er210 | exact er211 | exact er212 | exact er213 | exact er214 | exact er215) (by omega) (by omega) (by decide) ?_
        refine eg_al_n dX9_classGoes_115 rfl rfl ?_
        refine eg_get fl_X9_37 dX9_classGoes_116 (by first | exact er202 | exact er203 | exact er204 | exact er205 | exact er206 | exact er207 | exact er208 | exact er209 | exact er210 | exact er211 | exact er212 | exact er213 | exact er214 | exact er215) rfl ?_
        refine eg_iload_n dX9_classGoes_119 rfl ?_
        refine eg_iald dX9_classGoes_120 (by first | exact er202 | exact er203 | exact er204 | exact er205 | exact er206 | exact er207 | exact er208 | exact er209 | exact er210 | exact er211 | exact er212 | exact er213 | exact er214 | exact er215) (by omega) (by omega) (by decide) ?_
        refine eg_eqI (hz i h0 hi).1 ?_
        refine eg_iadd dX9_classGoes_121 ?_
        refine eg_ia213 dX9_classGoes_122 (by omega) (by omega) (fun y1 f1 e1 => ?_)
        refine eg_iconst dX9_classGoes_123 ?_
        refine eg_istore_n dX9_classGoes_124 rfl rfl rfl ?_
        refine LI hi 37 0 y1 (by omega) (by omega) (fun d d1 d2 d3 d4 => by rw [f1 d d3]; exact hf d d1 d2 d3 d4) (hz.c (f1 211 (by decide)) (f1 214 (by decide))) (fun q9 a b => ?_) (fun q9 a b => ?_) (fun m9 hm9 => ?_) (by omega)
        · by_cases e : q9 = i
          · subst e; rw [va_up_e e1 rfl, hb q9 (by omega) hi]
          · rw [va_up_k e1 (by omega)]; exact ha q9 a (by omega)
        · rw [va_up_k e1 (by omega)]; exact hb q9 (by omega) b
        · rw [f1 210 (by decide), if_neg (by unfold isM at hm9; omega)]; exact hc m9 hm9
  have L5 : ∀ (mm : Nat) (i : Nat) (y : eg_Z), (i : Int) ≤ v 2 → (∀ d, d ≠ 211 → d ≠ 214 → y d = z d) → PZ v l p0 ct0 (34 + 2 * i) y → v 2 - (i : Int) < (mm : Int) → eg_E k gX9_classGoes 4 0 0 n (enc k y X) [vR k 202, vI (i : Int), vU] [] 66 (eg_p k none n X (fun z' => (∀ d, d ≠ 210 → d ≠ 211 → d ≠ 213 → d ≠ 214 → z' d = z d) ∧ PZ v l p0 ct0 46 z' ∧ (∀ q : Int, 0 ≤ q → q < v 3 → z' 213 q.toNat = z 213 q.toNat + pz v l p0 46 q) ∧ ∀ m : Int, isM v m → z' 210 m.toNat = l (stM v m) - tg v (stM v m) (pz v l p0 46))) := by
    intro mm
    induction mm with
    | zero => intro i y h1 hf hz hmm; exfalso; omega
    | succ mm ih =>
      intro i y h1 hf hz hmm
      have hNy : nw y v := nw_c (hf 203 (by decide) (by decide)) hN
      refine eg_iload_n dX9_classGoes_66 rfl ?_
      refine eg_al_n dX9_classGoes_67 rfl rfl ?_
      refine eg_iconst dX9_classGoes_68 ?_
      refine eg_Vf1 cs_X9_179 dX9_classGoes_69 (many_2 hNy) (by first | exact er202 | exact er203 | exact er204 | exact er205 | exact er206 | exact er207 | exact er208 | exact er209 | exact er210 | exact er211 | exact er212 | exact er213 | exact er214 | exact er215) rfl (Nat.le_of_ble_eq_true rfl) (by decide) ?_
      refine eg_icmp_ge 97 dX9_classGoes_72 ⟨by omega, by omega⟩ ⟨by omega, by omega⟩ rfl (fun h72 => ?_) (fun h72 => ?_)
      · refine eg_iconst dX9_classGoes_97 ?_
        refine eg_istore_n dX9_classGoes_98 rfl rfl rfl ?_
        refine L6 17 0 y _ (by omega) (by omega) (fun d d1 d2 d3 d4 => hf d d2 d4) (hz.no hl (by omega) (by omega) (fun c9 a b9 q9 g0 g1 => gb_no hv g0 g1 ⟨by omega, by omega⟩ (Or.inr (Or.inr (Or.inr (Or.inr ⟨by omega, by omega⟩)))))) (fun q9 a b => by omega) (fun q9 a b => by rw [hf 213 (by decide) (by decide)]) (fun m9 hm9 => ?_) (by omega)
        rw [hf 210 (by decide) (by decide), hlz m9 hm9]
        show l (stM v m9) = l (stM v m9) - 0
        omega
      · have hA : isM v (24 + (i : Int)) := Or.inr (Or.inr (Or.inr (Or.inl ⟨by omega, by omega, by omega⟩)))
        have hB : isM v (30 + (i : Int)) := Or.inr (Or.inr (Or.inr (Or.inr ⟨by omega, by omega, by omega⟩)))
        have sA : stM v (24 + (i : Int)) = ((34 + 2 * i : Nat) : Int) := by unfold stM; rw [if_neg (by omega), if_pos (by omega)]; omega
        have sB : stM v (30 + (i : Int)) = ((34 + 2 * i + 1 : Nat) : Int) := by unfold stM; rw [if_neg (by omega), if_neg (by omega)]; omega
        refine eg_al_n dX9_classGoes_75 rfl rfl ?_
        refine eg_bipush dX9_classGoes_76 (by decide) ?_
        refine eg_iload_n dX9_classGoes_78 rfl ?_
        refine eg_iadd dX9_classGoes_79 ?_
        refine eg_Vpv1 cs_X9_267 dX9_classGoes_80 (cutJ hNy hv hk hl hcb (c := 34 + 2 * i) (m := 24 + (i : Int)) hA sA (by omega) (by rw [hf 210 (by decide) (by decide), hlz _ hA, sA]) hz) (by first | exact er202 | exact er203 | exact er204 | exact er205 | exact er206 | exact er207 | exact er208 | exact er209 | exact er210 | exact er211 | exact er212 | exact er213 | exact er214 | exact er215) rfl (Nat.le_of_ble_eq_true rfl) (by decide) ?_
        rintro y1 ⟨f1, z1⟩
        have hNy1 : nw y1 v := nw_c ((f1 203 (by decide) (by decide)).trans (hf 203 (by decide) (by decide))) hN
        refine eg_al_n dX9_classGoes_83 rfl rfl ?_
        refine eg_bipush dX9_classGoes_84 (by decide) ?_
        refine eg_iload_n dX9_classGoes_86 rfl ?_
        refine eg_iadd dX9_classGoes_87 ?_
        refine eg_Vpv1 cs_X9_267 dX9_classGoes_88 (cutJ hNy1 hv hk hl hcb (c := 34 + 2 * i + 1) (m := 30 + (i : Int)) hB sB (by omega) (by rw [f1 210 (by decide) (by decide), hf 210 (by decide) (by decide), hlz _ hB, sB]) z1) (by first | exact er202 | exact er203 | exact er204 | exact er205 | exact er206 | exact er207 | exact er208 | exact er209 | exact er210 | exact er211 | exact er212 | exact er213 | exact er214 | exact er215) rfl (Nat.le_of_ble_eq_true rfl) (by decide) ?_
        rintro y2 ⟨f2, z2⟩
        refine eg_iinc dX9_classGoes_91 rfl rfl rfl ?_
        refine eg_goto 66 dX9_classGoes_94 rfl ?_
        exact ih (i + 1) y2 (by omega) (fun d d1 d2 => ((f2 d d1 d2).trans (f1 d d1 d2)).trans (hf d d1 d2)) z2 (by omega)
  have LD : ∀ (mm : Nat) (i : Nat) (y : eg_Z), (i : Int) ≤ segs v → (∀ d, d ≠ 211 → d ≠ 214 → y d = z d) → PZ v l p0 ct0 (17 + i) y → segs v - (i : Int) < (mm : Int) → eg_E k gX9_classGoes 4 0 0 n (enc k y X) [vR k 202, vI (i : Int), vU] [] 34 (eg_p k none n X (fun z' => (∀ d, d ≠ 210 → d ≠ 211 → d ≠ 213 → d ≠ 214 → z' d = z d) ∧ PZ v l p0 ct0 46 z' ∧ (∀ q : Int, 0 ≤ q → q < v 3 → z' 213 q.toNat = z 213 q.toNat + pz v l p0 46 q) ∧ ∀ m : Int, isM v m → z' 210 m.toNat = l (stM v m) - tg v (stM v m) (pz v l p0 46))) := by
    intro mm
    induction mm with
    | zero => intro i y h1 hf hz hmm; exfalso; omega
    | succ mm ih =>
      intro i y h1 hf hz hmm
      have hNy : nw y v := nw_c (hf 203 (by decide) (by decide)) hN
      refine eg_iload_n dX9_classGoes_34 rfl ?_
      refine eg_iconst dX9_classGoes_35 ?_
      refine eg_iadd dX9_classGoes_36 ?_
      refine eg_al_n dX9_classGoes_37 rfl rfl ?_
      refine eg_iconst dX9_classGoes_38 ?_
      refine eg_Vf1 cs_X9_179 dX9_classGoes_39 (many_0 hNy) (by first | exact er202 | exact er203 | exact er204 | exact er205 | exact er206 | exact er207 | exact er208 | exact er209 | exact er210 | exact er211 | exact er212 | exact er213 | exact er214 | exact er215) rfl (Nat.le_of_ble_eq_true rfl) (by decide) ?_
      refine eg_icmp_ge 59 dX9_classGoes_42 ⟨by omega, by omega⟩ ⟨by omega, by omega⟩ rfl (fun h42 => ?_) (fun h42 => ?_)
      · refine eg_al_n dX9_classGoes_59 rfl rfl ?_
        refine eg_iconst dX9_classGoes_60 ?_
        refine eg_Vpv1 cs_X9_270 dX9_classGoes_61 (c_goesOverPoints hNy hv hk hl hcb (fun m9 h9 => by rw [hf 210 (by decide) (by decide)]; exact hlz m9 h9) (Or.inr ⟨rfl, rfl⟩) (hz.no hl (m' := 24) (by omega) (by omega) (fun c9 a b9 q9 g0 g1 => gb_no hv g0 g1 ⟨by omega, by omega⟩ (Or.inr (Or.inr (Or.inl ⟨by omega, by omega, by omega⟩)))))) (by first | exact er202 | exact er203 | exact er204 | exact er205 | exact er206 | exact er207 | exact er208 | exact er209 | exact er210 | exact er211 | exact er212 | exact er213 | exact er214 | exact er215) rfl (Nat.le_of_ble_eq_true rfl) (by decide) ?_
        rintro y2 ⟨f2, z2⟩
        refine eg_iconst dX9_classGoes_64 ?_
        refine eg_istore_n dX9_classGoes_65 rfl rfl rfl ?_
        exact L5 7 0 y2 (by omega) (fun d d1 d2 => (f2 d d1 d2).trans (hf d d1 d2)) z2 (by omega)
      · have hA : isM v (17 + (i : Int)) := Or.inr (Or.inr (Or.inl ⟨by omega, by omega, by omega⟩))
        have sA : stM v (17 + (i : Int)) = ((17 + i : Nat) : Int) := by unfold stM stQ; rw [if_pos (by omega), if_neg (by omega)]; omega
        refine eg_al_n dX9_classGoes_45 rfl rfl ?_
        refine eg_bipush dX9_classGoes_46 (by decide) ?_
        refine eg_iload_n dX9_classGoes_48 rfl ?_
        refine eg_iadd dX9_classGoes_49 ?_
        refine eg_Vpv1 cs_X9_267 dX9_classGoes_50 (cutJ hNy hv hk hl hcb (c := 17 + i) (m := 17 + (i : Int)) hA sA (by omega) (by rw [hf 210 (by decide) (by decide), hlz _ hA, sA]) hz) (by first | exact er202 | exact er203 | exact er204 | exact er205 | exact er206 | exact er207 | exact er208 | exact er209 | exact er210 | exact er211 | exact er212 | exact er213 | exact er214 | exact er215) rfl (Nat.le_of_ble_eq_true rfl) (by decide) ?_
        rintro y1 ⟨f1, z1⟩
        refine eg_iinc dX9_classGoes_53 rfl rfl rfl ?_
        refine eg_goto 34 dX9_classGoes_56 rfl ?_
        exact ih (i + 1) y1 (by omega) (fun d d1 d2 => (f1 d d1 d2).trans (hf d d1 d2)) z1 (by omega)
  have LU : ∀ (mm : Nat) (i : Nat) (y : eg_Z), (i : Int) ≤ segs v → (∀ d, d ≠ 211 → d ≠ 214 → y d = z d) → PZ v l p0 ct0 (10 + i) y → segs v - (i : Int) < (mm : Int) → eg_E k gX9_classGoes 4 0 0 n (enc k y X) [vR k 202, vI (i : Int), vU] [] 7 (eg_p k none n X (fun z' => (∀ d, d ≠ 210 → d ≠ 211 → d ≠ 213 → d ≠ 214 → z' d = z d) ∧ PZ v l p0 ct0 46 z' ∧ (∀ q : Int, 0 ≤ q → q < v 3 → z' 213 q.toNat = z 213 q.toNat + pz v l p0 46 q) ∧ ∀ m : Int, isM v m → z' 210 m.toNat = l (stM v m) - tg v (stM v m) (pz v l p0 46))) := by
    intro mm
    induction mm with
    | zero => intro i y h1 hf hz hmm; exfalso; omega
    | succ mm ih =>
      intro i y h1 hf hz hmm
      have hNy : nw y v := nw_c (hf 203 (by decide) (by decide)) hN
      refine eg_iload_n dX9_classGoes_7 rfl ?_
      refine eg_iconst dX9_classGoes_8 ?_
      refine eg_iadd dX9_classGoes_9 ?_
      refine eg_al_n dX9_classGoes_10 rfl rfl ?_
      refine eg_iconst dX9_classGoes_11 ?_
      refine eg_Vf1 cs_X9_179 dX9_classGoes_12 (many_0 hNy) (by first | exact er202 | exact er203 | exact er204 | exact er205 | exact er206 | exact er207 | exact er208 | exact er209 | exact er210 | exact er211 | exact er212 | exact er213 | exact er214 | exact er215) rfl (Nat.le_of_ble_eq_true rfl) (by decide) ?_
      refine eg_icmp_ge 32 dX9_classGoes_15 ⟨by omega, by omega⟩ ⟨by omega, by omega⟩ rfl (fun h15 => ?_) (fun h15 => ?_)
      · refine eg_iconst dX9_classGoes_32 ?_
        refine eg_istore_n dX9_classGoes_33 rfl rfl rfl ?_
        exact LD 8 0 y (by omega) hf (hz.no hl (m' := 17) (by omega) (by omega) (fun c9 a b9 q9 g0 g1 => gb_no hv g0 g1 ⟨by omega, by omega⟩ (Or.inr (Or.inl ⟨by omega, by omega, by omega⟩)))) (by omega)
      · have hA : isM v (10 + (i : Int)) := Or.inr (Or.inl ⟨by omega, by omega, by omega⟩)
        have sA : stM v (10 + (i : Int)) = ((10 + i : Nat) : Int) := by unfold stM stQ; rw [if_pos (by omega), if_neg (by omega)]; omega
        refine eg_al_n dX9_classGoes_18 rfl rfl ?_
        refine eg_bipush dX9_classGoes_19 (by decide) ?_
        refine eg_iload_n dX9_classGoes_21 rfl ?_
        refine eg_iadd dX9_classGoes_22 ?_
        refine eg_Vpv1 cs_X9_267 dX9_classGoes_23 (cutJ hNy hv hk hl hcb (c := 10 + i) (m := 10 + (i : Int)) hA sA (by omega) (by rw [hf 210 (by decide) (by decide), hlz _ hA, sA]) hz) (by first | exact er202 | exact er203 | exact er204 | exact er205 | exact er206 | exact er207 | exact er208 | exact er209 | exact er210 | exact er211 | exact er212 | exact er213 | exact er214 | exact er215) rfl (Nat.le_of_ble_eq_true rfl) (by decide) ?_
        rintro y1 ⟨f1, z1⟩
        refine eg_iinc dX9_classGoes_26 rfl rfl rfl ?_
        refine eg_goto 7 dX9_classGoes_29 rfl ?_
        exact ih (i + 1) y1 (by omega) (fun d d1 d2 => (f1 d d1 d2).trans (hf d d1 d2)) z1 (by omega)
  refine eg_al_n dX9_classGoes_0 rfl rfl ?_
  refine eg_iconst dX9_classGoes_1 ?_
  refine eg_Vpv1 cs_X9_270 dX9_classGoes_2 (c_goesOverPoints hN hv hk hl hcb hlz (Or.inl ⟨rfl, rfl⟩) hZ) (by first | exact er202 | exact er203 | exact er204 | exact er205 | exact er206 | exact er207 | exact er208 | exact er209 | exact er210 | exact er211 | exact er212 | exact er213 | exact er214 | exact er215) rfl (Nat.le_of_ble_eq_true rfl) (by decide) ?_
  rintro y1 ⟨f1, z1⟩
  refine eg_iconst dX9_classGoes_5 ?_
  refine eg_istore_n dX9_classGoes_6 rfl rfl rfl ?_
  exact LU 8 0 y1 (by omega) f1 z1 (by omega)
