theorem eg_P.weak {k : eg_K} {g : eg_G} {d mc ms n : Nat} {as : List Value} {M : eg_M} {Q Q' : eg_Q} (h : eg_P k g d mc ms as n M Q) (hq : ∀ r n' M', Q r n' M' → Q' r n' M') : eg_P k g d mc ms as n M Q' := by
  intro p e ha hc hk s m args below hf happ hP hK
  obtain ⟨t, o, h1, h2, h3, ⟨h4, r, n', M', h5, h6, h7⟩, h8⟩ := h p e ha hc hk s m args below hf happ hP hK
  exact ⟨t, o, h1, h2, h3, ⟨h4, r, n', M', h5, hq _ _ _ h6, h7⟩, h8⟩
theorem md1 {z : eg_Z} {b j : Nat} {f : Nat → Int} (hj : j < 12) : Md z (va_up z (b + j) f) b := fun c hc => va_up_n _ _ (by omega)
theorem md0 {z : eg_Z} {b : Nat} {f : Nat → Int} : Md z (va_up z b f) b := fun c hc => va_up_n _ _ (by omega)
/-- a nomination comes behind the others -/
def addV (v : eg_v) (s f t x : Int) : eg_v := va_up (va_up (va_up (va_up (va_up v (108 + 4 * v 3 + 0).toNat s) (108 + 4 * v 3 + 1).toNat f) (108 + 4 * v 3 + 2).toNat t) (108 + 4 * v 3 + 3).toNat x) 3 (v 3 + 1)
theorem addV_o {v : eg_v} {s f t x : Int} (h3 : 0 ≤ v 3 ∧ v 3 < 16) {i : Nat} (hi : i ≠ 3) (h : i < 108 ∨ 172 ≤ i) : addV v s f t x i = v i := by
  unfold addV
  rw [va_up_n _ _ hi, va_up_n, va_up_n, va_up_n, va_up_n] <;> omega
theorem addV_3 {v : eg_v} {s f t x : Int} : addV v s f t x 3 = v 3 + 1 := by unfold addV; rw [va_up_s]
theorem addV_N {v : eg_v} {s f t x : Int} (h3 : 0 ≤ v 3 ∧ v 3 < 16) {q c : Int} (h0 : 0 ≤ q) (h1 : q < 16) (h2 : 0 ≤ c) (h4 : c < 4) : gN (addV v s f t x) q c = if q = v 3 then (if c = 0 then s else if c = 1 then f else if c = 2 then t else x) else gN v q c := by
  unfold addV
  rw [gN_o (by omega) h0 h1 h2 h4, gN_i h3.1 (by omega) (by omega) h0 h2 h4, gN_i h3.1 (by omega) (by omega) h0 h2 h4, gN_i h3.1 (by omega) (by omega) h0 h2 h4, gN_i h3.1 (by omega) (by omega) h0 h2 h4]
  by_cases hq : q = v 3
  · rw [if_pos hq]
    by_cases e0 : c = 0
    · rw [if_neg (by omega), if_neg (by omega), if_neg (by omega), if_pos ⟨hq, e0⟩, if_pos e0]
    · by_cases e1 : c = 1
      · rw [if_neg (by omega), if_neg (by omega), if_pos ⟨hq, e1⟩, if_neg e0, if_pos e1]
      · by_cases e2 : c = 2
        · rw [if_neg (by omega), if_pos ⟨hq, e2⟩, if_neg e0, if_neg e1, if_pos e2]
        · rw [if_pos ⟨hq, by omega⟩, if_neg e0, if_neg e1, if_neg e2]
  · rw [if_neg hq, if_neg (by omega), if_neg (by omega), if_neg (by omega), if_neg (by omega)]
theorem gS_e {v v' : eg_v} (h : ∀ i, i ≠ 3 → i < 108 ∨ 172 ≤ i → v' i = v i) {r c : Int} (h0 : 0 ≤ r) (h1 : r < 7) (h2 : 0 ≤ c) (h3 : c < 2) : gS v' r c = gS v r c := h _ (by omega) (by omega)
theorem gP_e {v v' : eg_v} (h : ∀ i, i ≠ 3 → i < 108 ∨ 172 ≤ i → v' i = v i) {r c : Int} (h0 : 0 ≤ r) (h1 : r < 10) (h2 : 0 ≤ c) (h3 : c < 4) : gP v' r c = gP v r c := h _ (by omega) (by omega)
theorem gH_e {v v' : eg_v} (h : ∀ i, i ≠ 3 → i < 108 ∨ 172 ≤ i → v' i = v i) {r c : Int} (h0 : 0 ≤ r) (h1 : r < 6) (h2 : 0 ≤ c) (h3 : c < 7) : gH v' r c = gH v r c := h _ (by omega) (by omega)
/-- only the nominations have changed: their table's two cells, their part of the row -/
theorem hP_N {z z' : eg_Z} {b : Nat} {v v' : eg_v} {B : Int} (hv : VV B v) (hp : hP z b v) (he : ∀ i, i ≠ 3 → i < 108 ∨ 172 ≤ i → v' i = v i) (hz : ∀ j, j < 11 → j ≠ 7 → j ≠ 8 → z' (b + j) = z (b + j)) (h7 : z' (b + 7) 3 = v' 3) (h8 : ∀ q c : Int, 0 ≤ q → q < v' 3 → 0 ≤ c → c < 4 → z' (b + 8) (q * 4 + c).toNat = gN v' q c) : hP z' b v' := by
  have q := hv.r
  obtain ⟨⟨a0, a1, a2, a3⟩, ⟨b1, b3, b5, b7⟩, pS, pP, pH, pO, pN, t0, t1, t2, t3⟩ := hp
  have z0 := hz 0 (by decide) (by decide) (by decide)
  rw [Nat.add_zero] at z0
  have ws : segs v' = segs v := by unfold segs; rw [he 0 (by decide) (by omega)]
  unfold hP
  rw [ws, he 0 (by decide) (by omega), he 1 (by decide) (by omega), he 2 (by decide) (by omega), he 4 (by decide) (by omega), he 5 (by decide) (by omega), he 6 (by decide) (by omega), he 7 (by decide) (by omega), he 8 (by decide) (by omega), he 9 (by decide) (by omega), he 10 (by decide) (by omega), z0, hz 1 (by decide) (by decide) (by decide), hz 2 (by decide) (by decide) (by decide), hz 3 (by decide) (by decide) (by decide), hz 4 (by decide) (by decide) (by decide), hz 5 (by decide) (by decide) (by decide), hz 6 (by decide) (by decide) (by decide), hz 9 (by decide) (by decide) (by decide), hz 10 (by decide) (by decide) (by decide)]
  refine ⟨⟨a0, a1, a2, a3⟩, ⟨b1, b3, b5, h7⟩, ?_, ?_, ?_, ?_, h8, ⟨t0, t1, t2, t3⟩⟩
  · intro r c h0 h1 h2 h3
    rw [gS_e he h0 (by omega) h2 h3]
    exact pS r c h0 h1 h2 h3
  · intro r c h0 h1 h2 h3
    rw [gP_e he h0 (by omega) h2 h3]
    exact pP r c h0 h1 h2 h3
  · intro r c h0 h1 h2 h3
    rw [gH_e he h0 (by omega) h2 (by omega)]
    exact pH r c h0 h1 h2 h3
  · intro r h0 h1
    rw [gH_e he h0 (by omega) (by omega) (by omega)]
    exact pO r h0 h1
theorem VV_N {v v' : eg_v} {B : Int} (hv : VV B v) (he : ∀ i, i ≠ 3 → i < 108 ∨ 172 ≤ i → v' i = v i) (h3 : 0 ≤ v' 3 ∧ v' 3 ≤ 16) (h0 : v 0 ≠ 0) (hN : ∀ q : Int, 0 ≤ q → q < v' 3 → okN v' q) : VV B v' := by
  have q := hv.r
  obtain ⟨r0, r1, r2, r3, r4, r5, r6, oS, oP, oH, oN⟩ := hv
  unfold VV
  rw [he 0 (by decide) (by omega), he 1 (by decide) (by omega), he 2 (by decide) (by omega), he 4 (by decide) (by omega), he 5 (by decide) (by omega), he 6 (by decide) (by omega)]
  refine ⟨Or.inr (by omega), r1, r2, h3, r4, r5, r6, ?_, ?_, ?_, hN⟩
  · intro i g0 g1
    have h := oS i g0 g1
    unfold okS at h ⊢
    rw [gS_e he g0 g1 (by omega) (by omega), gS_e he g0 g1 (by omega) (by omega)]
    exact h
  · intro i g0 g1
    have h := oP i g0 g1
    unfold okP at h ⊢
    rw [he 0 (by decide) (by omega), gP_e (c := 0) he g0 (by omega) (by omega) (by omega), gP_e (c := 1) he g0 (by omega) (by omega) (by omega), gP_e (c := 2) he g0 (by omega) (by omega) (by omega), gP_e (c := 3) he g0 (by omega) (by omega) (by omega)]
    exact h
  · intro i g0 g1
    have h := oH i g0 g1
    unfold okH at h ⊢
    rw [gH_e (c := 0) he g0 (by omega) (by omega) (by omega), gH_e (c := 1) he g0 (by omega) (by omega) (by omega), gH_e (c := 2) he g0 (by omega) (by omega) (by omega), gH_e (c := 3) he g0 (by omega) (by omega) (by omega), gH_e (c := 4) he g0 (by omega) (by omega) (by omega), gH_e (c := 5) he g0 (by omega) (by omega) (by omega)]
    exact h
theorem sg_putQ {k : eg_K} {z : eg_Z} {X : eg_M} {n b : Nat} {v : eg_v} {B : Int} (hb : isB b = true) (hp : hP z b v) (hv : VV B v) {r c x : Int} (h0 : 0 ≤ r) (h1 : r < segs v) (h2 : 0 ≤ c) (h3 : c < 2) : eg_P k gX5_put 0 0 0 [vR k (b + 1), vI r, vI c, vI x] n (enc k z X) (eg_p k none n X (fun z' => Md z z' b ∧ z' (b + 11) = z (b + 11) ∧ hP z' b (va_up v (12 + 2 * r + c).toNat x))) := by
  have h := sg_put (k := k) (X := X) (n := n) hb hp hv (r := r) (c := c) (x := x) h0 h1 h2 h3
  exact h.weak (fun a b' c' ⟨e1, e2, e3⟩ => ⟨e1, e2, _, e3, md1 (by decide), va_up_n _ _ (by omega), uS ⟨h0, h1⟩ ⟨h2, h3⟩ hv hp⟩)
theorem sg_raiseQ {k : eg_K} {z : eg_Z} {X : eg_M} {n b : Nat} {v : eg_v} {B : Int} (hb : isB b = true) (hp : hP z b v) (hv : VV B v) {r c x : Int} (h0 : 0 ≤ r) (h1 : r < segs v) (h2 : 0 ≤ c) (h3 : c < 2) : eg_P k gX5_raise 1 0 0 [vR k (b + 1), vI r, vI c, vI x] n (enc k z X) (eg_p k none n X (fun z' => Md z z' b ∧ z' (b + 11) = z (b + 11) ∧ hP z' b (va_up v (12 + 2 * r + c).toNat (gS v r c + x)))) := by
  have h := sg_raise (k := k) (X := X) (n := n) hb hp hv (r := r) (c := c) (x := x) h0 h1 h2 h3
  exact h.weak (fun a b' c' ⟨e1, e2, e3⟩ => ⟨e1, e2, _, e3, md1 (by decide), va_up_n _ _ (by omega), uS ⟨h0, h1⟩ ⟨h2, h3⟩ hv hp⟩)
theorem pt_putQ {k : eg_K} {z : eg_Z} {X : eg_M} {n b : Nat} {v : eg_v} {B : Int} (hb : isB b = true) (hp : hP z b v) (hv : VV B v) {r c x : Int} (h0 : 0 ≤ r) (h1 : r < v 1) (h2 : 0 ≤ c) (h3 : c < 4) : eg_P k gX5_put 0 0 0 [vR k (b + 3), vI r, vI c, vI x] n (enc k z X) (eg_p k none n X (fun z' => Md z z' b ∧ z' (b + 11) = z (b + 11) ∧ hP z' b (va_up v (26 + 4 * r + c).toNat x))) := by
  have h := pt_put (k := k) (X := X) (n := n) hb hp hv (r := r) (c := c) (x := x) h0 h1 h2 h3
  exact h.weak (fun a b' c' ⟨e1, e2, e3⟩ => ⟨e1, e2, _, e3, md1 (by decide), va_up_n _ _ (by omega), uP ⟨h0, h1⟩ ⟨h2, h3⟩ hv hp⟩)
theorem pt_raiseQ {k : eg_K} {z : eg_Z} {X : eg_M} {n b : Nat} {v : eg_v} {B : Int} (hb : isB b = true) (hp : hP z b v) (hv : VV B v) {r c x : Int} (h0 : 0 ≤ r) (h1 : r < v 1) (h2 : 0 ≤ c) (h3 : c < 4) : eg_P k gX5_raise 1 0 0 [vR k (b + 3), vI r, vI c, vI x] n (enc k z X) (eg_p k none n X (fun z' => Md z z' b ∧ z' (b + 11) = z (b + 11) ∧ hP z' b (va_up v (26 + 4 * r + c).toNat (gP v r c + x)))) := by
  have h := pt_raise (k := k) (X := X) (n := n) hb hp hv (r := r) (c := c) (x := x) h0 h1 h2 h3
  exact h.weak (fun a b' c' ⟨e1, e2, e3⟩ => ⟨e1, e2, _, e3, md1 (by decide), va_up_n _ _ (by omega), uP ⟨h0, h1⟩ ⟨h2, h3⟩ hv hp⟩)
theorem sh_putQ {k : eg_K} {z : eg_Z} {X : eg_M} {n b : Nat} {v : eg_v} {B : Int} (hb : isB b = true) (hp : hP z b v) (hv : VV B v) {r c x : Int} (h0 : 0 ≤ r) (h1 : r < v 2) (h2 : 0 ≤ c) (h3 : c < 6) : eg_P k gX5_put 0 0 0 [vR k (b + 5), vI r, vI c, vI x] n (enc k z X) (eg_p k none n X (fun z' => Md z z' b ∧ z' (b + 11) = z (b + 11) ∧ hP z' b (va_up v (66 + 7 * r + c).toNat x))) := by
  have h := sh_put (k := k) (X := X) (n := n) hb hp hv (r := r) (c := c) (x := x) h0 h1 h2 h3
  exact h.weak (fun a b' c' ⟨e1, e2, e3⟩ => ⟨e1, e2, _, e3, md1 (by decide), va_up_n _ _ (by omega), uH ⟨h0, h1⟩ ⟨h2, h3⟩ hv hp⟩)
theorem sh_raiseQ {k : eg_K} {z : eg_Z} {X : eg_M} {n b : Nat} {v : eg_v} {B : Int} (hb : isB b = true) (hp : hP z b v) (hv : VV B v) {r c x : Int} (h0 : 0 ≤ r) (h1 : r < v 2) (h2 : 0 ≤ c) (h3 : c < 6) : eg_P k gX5_raise 1 0 0 [vR k (b + 5), vI r, vI c, vI x] n (enc k z X) (eg_p k none n X (fun z' => Md z z' b ∧ z' (b + 11) = z (b + 11) ∧ hP z' b (va_up v (66 + 7 * r + c).toNat (gH v r c + x)))) := by
  have h := sh_raise (k := k) (X := X) (n := n) hb hp hv (r := r) (c := c) (x := x) h0 h1 h2 h3
  exact h.weak (fun a b' c' ⟨e1, e2, e3⟩ => ⟨e1, e2, _, e3, md1 (by decide), va_up_n _ _ (by omega), uH ⟨h0, h1⟩ ⟨h2, h3⟩ hv hp⟩)
theorem nm_putQ {k : eg_K} {z : eg_Z} {X : eg_M} {n b : Nat} {v : eg_v} {B : Int} (hb : isB b = true) (hp : hP z b v) (hv : VV B v) {r c x : Int} (h0 : 0 ≤ r) (h1 : r < v 3) (h2 : 0 ≤ c) (h3 : c < 4) : eg_P k gX5_put 0 0 0 [vR k (b + 7), vI r, vI c, vI x] n (enc k z X) (eg_p k none n X (fun z' => Md z z' b ∧ z' (b + 11) = z (b + 11) ∧ hP z' b (va_up v (108 + 4 * r + c).toNat x))) := by
  have h := nm_put (k := k) (X := X) (n := n) hb hp hv (r := r) (c := c) (x := x) h0 h1 h2 h3
  exact h.weak (fun a b' c' ⟨e1, e2, e3⟩ => ⟨e1, e2, _, e3, md1 (by decide), va_up_n _ _ (by omega), uN ⟨h0, h1⟩ ⟨h2, h3⟩ hv hp⟩)
theorem nm_raiseQ {k : eg_K} {z : eg_Z} {X : eg_M} {n b : Nat} {v : eg_v} {B : Int} (hb : isB b = true) (hp : hP z b v) (hv : VV B v) {r c x : Int} (h0 : 0 ≤ r) (h1 : r < v 3) (h2 : 0 ≤ c) (h3 : c < 4) : eg_P k gX5_raise 1 0 0 [vR k (b + 7), vI r, vI c, vI x] n (enc k z X) (eg_p k none n X (fun z' => Md z z' b ∧ z' (b + 11) = z (b + 11) ∧ hP z' b (va_up v (108 + 4 * r + c).toNat (gN v r c + x)))) := by
  have h := nm_raise (k := k) (X := X) (n := n) hb hp hv (r := r) (c := c) (x := x) h0 h1 h2 h3
  exact h.weak (fun a b' c' ⟨e1, e2, e3⟩ => ⟨e1, e2, _, e3, md1 (by decide), va_up_n _ _ (by omega), uN ⟨h0, h1⟩ ⟨h2, h3⟩ hv hp⟩)
theorem c_X2_addNomination {k : eg_K} {z : eg_Z} {X : eg_M} {n b : Nat} {v : eg_v} {B : Int} (hb : isB b = true) (hp : hP z b v) (hv : VV B v) {s f t x : Int} (h3 : v 3 < 16) : eg_P k gX2_addNomination 2 0 0 [vR k b, vI s, vI f, vI t, vI x] n (enc k z X) (eg_p k (some (vI (v 3))) n X (fun z' => Md z z' b ∧ z' (b + 11) = z (b + 11) ∧ hP z' b (addV v s f t x))) := by
  refine eg_P.of (by decide) (Nat.le_of_ble_eq_true rfl) ?_
  show eg_E k gX2_addNomination 2 0 0 n (enc k z X) [vR k b, vI s, vI f, vI t, vI x, vU] [] 0 _
  have q := hv.r
  obtain ⟨⟨z0, z1, z2, z3⟩, ⟨c1, c3, c5, c7⟩, -⟩ := id hp
  refine eg_al_n dX2_addNomination_0 rfl rfl ?_
  refine eg_get fl_X2_39 dX2_addNomination_1 (by first | exact ep0 hb | exact ep1 hb | exact ep3 hb | exact ep5 hb | exact ep7 hb | exact ep9 hb | exact ep10 hb | exact ep11 hb | exact ep2 hb | exact ep4 hb | exact ep6 hb | exact ep8 hb) rfl ?_
  refine eg_Vqf0 cs_X2_97 dX2_addNomination_4 (add_7 hb c7 q.2.2.2.1.1 h3) (by first | exact ep0 hb | exact ep1 hb | exact ep3 hb | exact ep5 hb | exact ep7 hb | exact ep9 hb | exact ep10 hb | exact ep11 hb | exact ep2 hb | exact ep4 hb | exact ep6 hb | exact ep8 hb) rfl (Nat.le_of_ble_eq_true rfl) (by decide) ?_
  rintro _ _ _ ⟨rfl, rfl, y0, rfl, f0, g0, u0, -⟩
  refine eg_istore dX2_addNomination_7 rfl rfl rfl ?_
  refine eg_al_n dX2_addNomination_9 rfl rfl ?_
  refine eg_get fl_X2_39 dX2_addNomination_10 (by first | exact ep0 hb | exact ep1 hb | exact ep3 hb | exact ep5 hb | exact ep7 hb | exact ep9 hb | exact ep10 hb | exact ep11 hb | exact ep2 hb | exact ep4 hb | exact ep6 hb | exact ep8 hb) rfl ?_
  refine eg_iload dX2_addNomination_13 rfl ?_
  refine eg_iconst dX2_addNomination_15 ?_
  refine eg_iload_n dX2_addNomination_16 rfl ?_
  refine eg_Vv3 cs_X2_83 dX2_addNomination_17 (c_X5_put (ep7 hb) (ep8 hb) ⟨by omega, by omega⟩ ⟨by omega, by omega⟩ ⟨by omega, by omega⟩ ⟨by omega, by omega⟩ (by decide)) (by first | exact ep0 hb | exact ep1 hb | exact ep3 hb | exact ep5 hb | exact ep7 hb | exact ep9 hb | exact ep10 hb | exact ep11 hb | exact ep2 hb | exact ep4 hb | exact ep6 hb | exact ep8 hb) rfl (Nat.le_of_ble_eq_true rfl) (by decide) ?_
  refine eg_eqM (es8 hb) ?_
  generalize w1 : va_up y0 (b + 8) _ = y1
  have f1 : (∀ c, c ≠ b + 8 → y1 c = y0 c) ∧ y1 (b + 8) = va_up (y0 (b + 8)) (v 3 * 4 + 0).toNat s := ⟨fun c hc9 => by rw [← w1, va_up_n _ _ hc9], by rw [← w1, va_up_s]⟩
  clear w1
  have g1 : y1 (b + 7) 3 = v 3 + 1 := by rw [f1.1 _ (by omega)]; exact g0
  refine eg_al_n dX2_addNomination_20 rfl rfl ?_
  refine eg_get fl_X2_39 dX2_addNomination_21 (by first | exact ep0 hb | exact ep1 hb | exact ep3 hb | exact ep5 hb | exact ep7 hb | exact ep9 hb | exact ep10 hb | exact ep11 hb | exact ep2 hb | exact ep4 hb | exact ep6 hb | exact ep8 hb) rfl ?_
  refine eg_iload dX2_addNomination_24 rfl ?_
  refine eg_iconst dX2_addNomination_26 ?_
  refine eg_iload_n dX2_addNomination_27 rfl ?_
  refine eg_Vv3 cs_X2_83 dX2_addNomination_28 (c_X5_put (ep7 hb) (ep8 hb) ⟨by omega, by omega⟩ ⟨by omega, by omega⟩ ⟨by omega, by omega⟩ ⟨by omega, by omega⟩ (by decide)) (by first | exact ep0 hb | exact ep1 hb | exact ep3 hb | exact ep5 hb | exact ep7 hb | exact ep9 hb | exact ep10 hb | exact ep11 hb | exact ep2 hb | exact ep4 hb | exact ep6 hb | exact ep8 hb) rfl (Nat.le_of_ble_eq_true rfl) (by decide) ?_
  refine eg_eqM (es8 hb) ?_
  generalize w2 : va_up y1 (b + 8) _ = y2
  have f2 : (∀ c, c ≠ b + 8 → y2 c = y1 c) ∧ y2 (b + 8) = va_up (y1 (b + 8)) (v 3 * 4 + 1).toNat f := ⟨fun c hc9 => by rw [← w2, va_up_n _ _ hc9], by rw [← w2, va_up_s]⟩
  clear w2
  have g2 : y2 (b + 7) 3 = v 3 + 1 := by rw [f2.1 _ (by omega)]; exact g1
  refine eg_al_n dX2_addNomination_31 rfl rfl ?_
  refine eg_get fl_X2_39 dX2_addNomination_32 (by first | exact ep0 hb | exact ep1 hb | exact ep3 hb | exact ep5 hb | exact ep7 hb | exact ep9 hb | exact ep10 hb | exact ep11 hb | exact ep2 hb | exact ep4 hb | exact ep6 hb | exact ep8 hb) rfl ?_
  refine eg_iload dX2_addNomination_35 rfl ?_
  refine eg_iconst dX2_addNomination_37 ?_
  refine eg_iload_n dX2_addNomination_38 rfl ?_
  refine eg_Vv3 cs_X2_83 dX2_addNomination_39 (c_X5_put (ep7 hb) (ep8 hb) ⟨by omega, by omega⟩ ⟨by omega, by omega⟩ ⟨by omega, by omega⟩ ⟨by omega, by omega⟩ (by decide)) (by first | exact ep0 hb | exact ep1 hb | exact ep3 hb | exact ep5 hb | exact ep7 hb | exact ep9 hb | exact ep10 hb | exact ep11 hb | exact ep2 hb | exact ep4 hb | exact ep6 hb | exact ep8 hb) rfl (Nat.le_of_ble_eq_true rfl) (by decide) ?_
  refine eg_eqM (es8 hb) ?_
  generalize w3 : va_up y2 (b + 8) _ = y3
  have f3 : (∀ c, c ≠ b + 8 → y3 c = y2 c) ∧ y3 (b + 8) = va_up (y2 (b + 8)) (v 3 * 4 + 2).toNat t := ⟨fun c hc9 => by rw [← w3, va_up_n _ _ hc9], by rw [← w3, va_up_s]⟩
  clear w3
  have g3 : y3 (b + 7) 3 = v 3 + 1 := by rw [f3.1 _ (by omega)]; exact g2
  refine eg_al_n dX2_addNomination_42 rfl rfl ?_
  refine eg_get fl_X2_39 dX2_addNomination_43 (by first | exact ep0 hb | exact ep1 hb | exact ep3 hb | exact ep5 hb | exact ep7 hb | exact ep9 hb | exact ep10 hb | exact ep11 hb | exact ep2 hb | exact ep4 hb | exact ep6 hb | exact ep8 hb) rfl ?_
  refine eg_iload dX2_addNomination_46 rfl ?_
  refine eg_iconst dX2_addNomination_48 ?_
  refine eg_iload dX2_addNomination_49 rfl ?_
  refine eg_Vv3 cs_X2_83 dX2_addNomination_51 (c_X5_put (ep7 hb) (ep8 hb) ⟨by omega, by omega⟩ ⟨by omega, by omega⟩ ⟨by omega, by omega⟩ ⟨by omega, by omega⟩ (by decide)) (by first | exact ep0 hb | exact ep1 hb | exact ep3 hb | exact ep5 hb | exact ep7 hb | exact ep9 hb | exact ep10 hb | exact ep11 hb | exact ep2 hb | exact ep4 hb | exact ep6 hb | exact ep8 hb) rfl (Nat.le_of_ble_eq_true rfl) (by decide) ?_
  refine eg_eqM (es8 hb) ?_
  generalize w4 : va_up y3 (b + 8) _ = y4
  have f4 : (∀ c, c ≠ b + 8 → y4 c = y3 c) ∧ y4 (b + 8) = va_up (y3 (b + 8)) (v 3 * 4 + 3).toNat x := ⟨fun c hc9 => by rw [← w4, va_up_n _ _ hc9], by rw [← w4, va_up_s]⟩
  clear w4
  have g4 : y4 (b + 7) 3 = v 3 + 1 := by rw [f4.1 _ (by omega)]; exact g3
  refine eg_iload dX2_addNomination_54 rfl ?_
  refine eg_ireturn dX2_addNomination_56 rfl rfl ?_
  refine ⟨rfl, rfl, y4, rfl, ?_, ?_, ?_⟩
  · intro c hc
    rw [f4.1 c (by omega), f3.1 c (by omega), f2.1 c (by omega), f1.1 c (by omega), f0 c (by omega) (by omega)]
  · rw [f4.1 _ (by omega), f3.1 _ (by omega), f2.1 _ (by omega), f1.1 _ (by omega), f0 _ (by omega) (by omega)]
  · refine hP_N hv hp (fun i h9 h8 => addV_o ⟨by omega, h3⟩ h9 h8) (fun j _ h7 h8 => ?_) ?_ ?_
    · rw [f4.1 _ (by omega), f3.1 _ (by omega), f2.1 _ (by omega), f1.1 _ (by omega), f0 _ (by omega) (by omega)]
    · rw [addV_3]; exact g4
    · intro q9 c9 h0 h1 h2 h4
      rw [addV_3] at h1
      rw [addV_N ⟨by omega, h3⟩ h0 (by omega) h2 h4, f4.2, f3.2, f2.2, f1.2]
      simp only [va_up]
      by_cases hq : q9 = v 3
      · rw [if_pos hq]
        subst hq
        by_cases e0 : c9 = 0
        · rw [if_neg (by omega), if_neg (by omega), if_neg (by omega), if_pos (by omega), if_pos e0]
        · by_cases e1 : c9 = 1
          · rw [if_neg (by omega), if_neg (by omega), if_pos (by omega), if_neg e0, if_pos e1]
          · by_cases e2 : c9 = 2
            · rw [if_neg (by omega), if_pos (by omega), if_neg e0, if_neg e1, if_pos e2]
            · rw [if_pos (by omega), if_neg e0, if_neg e1, if_neg e2]
      · rw [if_neg hq, if_neg (by omega), if_neg (by omega), if_neg (by omega), if_neg (by omega), u0 _ (by omega)]
        exact hp.2.2.2.2.2.2.1 q9 c9 h0 (by omega) h2 h4
theorem c_X2_putCap {k : eg_K} {z : eg_Z} {X : eg_M} {n b : Nat} {v : eg_v} {B : Int} (hb : isB b = true) (hp : hP z b v) (hv : VV B v) {s r x : Int} (h : (s = 0 ∧ 0 ≤ r ∧ r < v 1) ∨ (s = 1 ∧ 0 ≤ r ∧ r < segs v)) : eg_P k gX2_putCap 1 0 0 [vR k b, vI s, vI r, vI x] n (enc k z X) (eg_p k none n X (fun z' => Md z z' b ∧ z' (b + 11) = z (b + 11) ∧ hP z' b (va_up v (if s = 0 then 26 + 4 * r + 2 else 12 + 2 * r + 0).toNat x))) := by
  refine eg_P.of (by decide) (Nat.le_of_ble_eq_true rfl) ?_
  show eg_E k gX2_putCap 1 0 0 n (enc k z X) [vR k b, vI s, vI r, vI x] [] 0 _
  have q := hv.r
  obtain ⟨⟨z0, z1, z2, z3⟩, ⟨c1, c3, c5, c7⟩, -⟩ := id hp
  refine eg_iload_n dX2_putCap_0 rfl ?_
  refine eg_if_ne 17 dX2_putCap_1 ⟨by omega, by omega⟩ rfl (fun h1 => ?_) (fun h1 => ?_)
  · refine eg_al_n dX2_putCap_17 rfl rfl ?_
    refine eg_get fl_X2_29 dX2_putCap_18 (by first | exact ep0 hb | exact ep1 hb | exact ep3 hb | exact ep5 hb | exact ep7 hb | exact ep9 hb | exact ep10 hb | exact ep11 hb | exact ep2 hb | exact ep4 hb | exact ep6 hb | exact ep8 hb) rfl ?_
    refine eg_iload_n dX2_putCap_21 rfl ?_
    refine eg_iconst dX2_putCap_22 ?_
    refine eg_iload_n dX2_putCap_23 rfl ?_
    refine eg_Vv3 cs_X2_83 dX2_putCap_24 (sg_put hb hp hv (by omega) (by omega) (by omega) (by omega)) (by first | exact ep0 hb | exact ep1 hb | exact ep3 hb | exact ep5 hb | exact ep7 hb | exact ep9 hb | exact ep10 hb | exact ep11 hb | exact ep2 hb | exact ep4 hb | exact ep6 hb | exact ep8 hb) rfl (Nat.le_of_ble_eq_true rfl) (by decide) ?_
    refine eg_return dX2_putCap_27 rfl ?_
    refine ⟨rfl, rfl, _, rfl, md1 (by decide), va_up_n _ _ (by omega), ?_⟩
    first
      | (rw [if_pos (by omega)]; exact uP ⟨by omega, by omega⟩ ⟨by omega, by omega⟩ hv hp)
      | (rw [if_neg (by omega)]; exact uS ⟨by omega, by omega⟩ ⟨by omega, by omega⟩ hv hp)
  · refine eg_al_n dX2_putCap_4 rfl rfl ?_
    refine eg_get fl_X2_33 dX2_putCap_5 (by first | exact ep0 hb | exact ep1 hb | exact ep3 hb | exact ep5 hb | exact ep7 hb | exact ep9 hb | exact ep10 hb | exact ep11 hb | exact ep2 hb | exact ep4 hb | exact ep6 hb | exact ep8 hb) rfl ?_
    refine eg_iload_n dX2_putCap_8 rfl ?_
    refine eg_iconst dX2_putCap_9 ?_
    refine eg_iload_n dX2_putCap_10 rfl ?_
    refine eg_Vv3 cs_X2_83 dX2_putCap_11 (pt_put hb hp hv (by omega) (by omega) (by omega) (by omega)) (by first | exact ep0 hb | exact ep1 hb | exact ep3 hb | exact ep5 hb | exact ep7 hb | exact ep9 hb | exact ep10 hb | exact ep11 hb | exact ep2 hb | exact ep4 hb | exact ep6 hb | exact ep8 hb) rfl (Nat.le_of_ble_eq_true rfl) (by decide) ?_
    refine eg_goto 27 dX2_putCap_14 rfl ?_
    refine eg_return dX2_putCap_27 rfl ?_
    refine ⟨rfl, rfl, _, rfl, md1 (by decide), va_up_n _ _ (by omega), ?_⟩
    first
      | (rw [if_pos (by omega)]; exact uP ⟨by omega, by omega⟩ ⟨by omega, by omega⟩ hv hp)
      | (rw [if_neg (by omega)]; exact uS ⟨by omega, by omega⟩ ⟨by omega, by omega⟩ hv hp)
