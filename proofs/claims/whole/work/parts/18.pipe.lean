theorem VV.r {B : Int} {v : eg_v} (h : VV B v) : ((v 0 = 0 ∧ v 1 = 0 ∧ v 2 = 0 ∧ v 3 = 0) ∨ (2 ≤ v 0 ∧ v 0 ≤ 8)) ∧ (0 ≤ v 1 ∧ v 1 ≤ 10) ∧ (0 ≤ v 2 ∧ v 2 ≤ 6) ∧ (0 ≤ v 3 ∧ v 3 ≤ 16) ∧ (0 ≤ v 4 ∧ v 4 ≤ 9999) ∧ (0 ≤ v 5 ∧ v 5 ≤ 999) ∧ (0 ≤ v 6 ∧ v 6 ≤ 100) ∧ 0 ≤ segs v ∧ segs v ≤ 7 ∧ ((v 0 = 0 ∧ segs v = 0) ∨ (v 0 ≠ 0 ∧ segs v = v 0 - 1)) := ⟨h.1, h.2.1, h.2.2.1, h.2.2.2.1, h.2.2.2.2.1, h.2.2.2.2.2.1, h.2.2.2.2.2.2.1, h.sgs⟩
theorem VV.S {B : Int} {v : eg_v} (h : VV B v) {i : Int} (h0 : 0 ≤ i) (h1 : i < 7) : okS v i := h.2.2.2.2.2.2.2.1 i h0 h1
theorem VV.P {B : Int} {v : eg_v} (h : VV B v) {p : Int} (h0 : 0 ≤ p) (h1 : p < v 1) : okP v p := h.2.2.2.2.2.2.2.2.1 p h0 h1
theorem VV.H {B : Int} {v : eg_v} (h : VV B v) {s : Int} (h0 : 0 ≤ s) (h1 : s < v 2) : okH B v s := h.2.2.2.2.2.2.2.2.2.1 s h0 h1
theorem VV.N {B : Int} {v : eg_v} (h : VV B v) {q : Int} (h0 : 0 ≤ q) (h1 : q < v 3) : okN v q := h.2.2.2.2.2.2.2.2.2.2 q h0 h1
theorem segs_eq (v : eg_v) : segs v = if v 0 = 0 then 0 else v 0 - 1 := rfl
theorem sg_has {k : eg_K} {z : eg_Z} {X : eg_M} {n b : Nat} {v : eg_v} {B : Int} (hb : isB b = true) (hp : hP z b v) (hv : VV B v) {r : Int} (hr : iR r) : eg_P k gX5_has 0 0 0 [vR k (b + 1), vI r] n (enc k z X) (eg_f (some (vI (bi (0 ≤ r ∧ r < segs v)))) n (enc k z X)) := by
  have q := hv.r
  have e := hp.2.1.1
  have h1 := c_X5_has (n := n) (ep1 (k := k) (z := z) (X := X) hb) hr (by rw [e]; exact ⟨by omega, by omega⟩)
  rw [e] at h1
  exact h1
theorem sg_at {k : eg_K} {z : eg_Z} {X : eg_M} {n b : Nat} {v : eg_v} {B : Int} (hb : isB b = true) (hp : hP z b v) (hv : VV B v) {r c : Int} (h0 : 0 ≤ r) (h1 : r < segs v) (h2 : 0 ≤ c) (h3 : c < 2) : eg_P k gX5_at 0 0 0 [vR k (b + 1), vI r, vI c] n (enc k z X) (eg_f (some (vI (gS v r c))) n (enc k z X)) := by
  have q := hv.r
  have e := hp.2.1.1
  have h4 := c_X5_at (n := n) (ep1 (k := k) (z := z) (X := X) hb) (ep2 hb) (r := r) (c := c) ⟨h0, by rw [e]; exact h1⟩ ⟨h2, h3⟩ ⟨by omega, by omega⟩ ⟨by rw [e]; omega, by omega⟩ (by decide)
  rw [hp.2.2.1 r c h0 h1 h2 h3] at h4
  exact h4
theorem sg_put {k : eg_K} {z : eg_Z} {X : eg_M} {n b : Nat} {v : eg_v} {B : Int} (hb : isB b = true) (hp : hP z b v) (hv : VV B v) {r c x : Int} (h0 : 0 ≤ r) (h1 : r < segs v) (h2 : 0 ≤ c) (h3 : c < 2) : eg_P k gX5_put 0 0 0 [vR k (b + 1), vI r, vI c, vI x] n (enc k z X) (eg_f none n (enc k (va_up z (b + 2) (va_up (z (b + 2)) (r * 2 + c).toNat x)) X)) := by
  have q := hv.r
  have e := hp.2.1.1
  have h4 := c_X5_put (n := n) (ep1 (k := k) (z := z) (X := X) hb) (ep2 hb) (r := r) (c := c) (x := x) ⟨h0, by rw [e]; exact h1⟩ ⟨h2, h3⟩ ⟨by omega, by omega⟩ ⟨by rw [e]; omega, by omega⟩ (by decide)
  rw [es2 hb] at h4
  exact h4
theorem sg_raise {k : eg_K} {z : eg_Z} {X : eg_M} {n b : Nat} {v : eg_v} {B : Int} (hb : isB b = true) (hp : hP z b v) (hv : VV B v) {r c x : Int} (h0 : 0 ≤ r) (h1 : r < segs v) (h2 : 0 ≤ c) (h3 : c < 2) : eg_P k gX5_raise 1 0 0 [vR k (b + 1), vI r, vI c, vI x] n (enc k z X) (eg_f none n (enc k (va_up z (b + 2) (va_up (z (b + 2)) (r * 2 + c).toNat (gS v r c + x))) X)) := by
  have q := hv.r
  have e := hp.2.1.1
  have h4 := c_X5_raise (n := n) (ep1 (k := k) (z := z) (X := X) hb) (ep2 hb) (r := r) (c := c) (x := x) ⟨h0, by rw [e]; exact h1⟩ ⟨h2, h3⟩ ⟨by omega, by omega⟩ ⟨by rw [e]; omega, by omega⟩ (by decide)
  rw [es2 hb, hp.2.2.1 r c h0 h1 h2 h3] at h4
  exact h4
theorem pt_has {k : eg_K} {z : eg_Z} {X : eg_M} {n b : Nat} {v : eg_v} {B : Int} (hb : isB b = true) (hp : hP z b v) (hv : VV B v) {r : Int} (hr : iR r) : eg_P k gX5_has 0 0 0 [vR k (b + 3), vI r] n (enc k z X) (eg_f (some (vI (bi (0 ≤ r ∧ r < v 1)))) n (enc k z X)) := by
  have q := hv.r
  have e := hp.2.1.2.1
  have h1 := c_X5_has (n := n) (ep3 (k := k) (z := z) (X := X) hb) hr (by rw [e]; exact ⟨by omega, by omega⟩)
  rw [e] at h1
  exact h1
theorem pt_at {k : eg_K} {z : eg_Z} {X : eg_M} {n b : Nat} {v : eg_v} {B : Int} (hb : isB b = true) (hp : hP z b v) (hv : VV B v) {r c : Int} (h0 : 0 ≤ r) (h1 : r < v 1) (h2 : 0 ≤ c) (h3 : c < 4) : eg_P k gX5_at 0 0 0 [vR k (b + 3), vI r, vI c] n (enc k z X) (eg_f (some (vI (gP v r c))) n (enc k z X)) := by
  have q := hv.r
  have e := hp.2.1.2.1
  have h4 := c_X5_at (n := n) (ep3 (k := k) (z := z) (X := X) hb) (ep4 hb) (r := r) (c := c) ⟨h0, by rw [e]; exact h1⟩ ⟨h2, h3⟩ ⟨by omega, by omega⟩ ⟨by rw [e]; omega, by omega⟩ (by decide)
  rw [hp.2.2.2.1 r c h0 h1 h2 h3] at h4
  exact h4
theorem pt_put {k : eg_K} {z : eg_Z} {X : eg_M} {n b : Nat} {v : eg_v} {B : Int} (hb : isB b = true) (hp : hP z b v) (hv : VV B v) {r c x : Int} (h0 : 0 ≤ r) (h1 : r < v 1) (h2 : 0 ≤ c) (h3 : c < 4) : eg_P k gX5_put 0 0 0 [vR k (b + 3), vI r, vI c, vI x] n (enc k z X) (eg_f none n (enc k (va_up z (b + 4) (va_up (z (b + 4)) (r * 4 + c).toNat x)) X)) := by
  have q := hv.r
  have e := hp.2.1.2.1
  have h4 := c_X5_put (n := n) (ep3 (k := k) (z := z) (X := X) hb) (ep4 hb) (r := r) (c := c) (x := x) ⟨h0, by rw [e]; exact h1⟩ ⟨h2, h3⟩ ⟨by omega, by omega⟩ ⟨by rw [e]; omega, by omega⟩ (by decide)
  rw [es4 hb] at h4
  exact h4
theorem pt_raise {k : eg_K} {z : eg_Z} {X : eg_M} {n b : Nat} {v : eg_v} {B : Int} (hb : isB b = true) (hp : hP z b v) (hv : VV B v) {r c x : Int} (h0 : 0 ≤ r) (h1 : r < v 1) (h2 : 0 ≤ c) (h3 : c < 4) : eg_P k gX5_raise 1 0 0 [vR k (b + 3), vI r, vI c, vI x] n (enc k z X) (eg_f none n (enc k (va_up z (b + 4) (va_up (z (b + 4)) (r * 4 + c).toNat (gP v r c + x))) X)) := by
  have q := hv.r
  have e := hp.2.1.2.1
  have h4 := c_X5_raise (n := n) (ep3 (k := k) (z := z) (X := X) hb) (ep4 hb) (r := r) (c := c) (x := x) ⟨h0, by rw [e]; exact h1⟩ ⟨h2, h3⟩ ⟨by omega, by omega⟩ ⟨by rw [e]; omega, by omega⟩ (by decide)
  rw [es4 hb, hp.2.2.2.1 r c h0 h1 h2 h3] at h4
  exact h4
theorem sh_has {k : eg_K} {z : eg_Z} {X : eg_M} {n b : Nat} {v : eg_v} {B : Int} (hb : isB b = true) (hp : hP z b v) (hv : VV B v) {r : Int} (hr : iR r) : eg_P k gX5_has 0 0 0 [vR k (b + 5), vI r] n (enc k z X) (eg_f (some (vI (bi (0 ≤ r ∧ r < v 2)))) n (enc k z X)) := by
  have q := hv.r
  have e := hp.2.1.2.2.1
  have h1 := c_X5_has (n := n) (ep5 (k := k) (z := z) (X := X) hb) hr (by rw [e]; exact ⟨by omega, by omega⟩)
  rw [e] at h1
  exact h1
theorem sh_at {k : eg_K} {z : eg_Z} {X : eg_M} {n b : Nat} {v : eg_v} {B : Int} (hb : isB b = true) (hp : hP z b v) (hv : VV B v) {r c : Int} (h0 : 0 ≤ r) (h1 : r < v 2) (h2 : 0 ≤ c) (h3 : c < 6) : eg_P k gX5_at 0 0 0 [vR k (b + 5), vI r, vI c] n (enc k z X) (eg_f (some (vI (gH v r c))) n (enc k z X)) := by
  have q := hv.r
  have e := hp.2.1.2.2.1
  have h4 := c_X5_at (n := n) (ep5 (k := k) (z := z) (X := X) hb) (ep6 hb) (r := r) (c := c) ⟨h0, by rw [e]; exact h1⟩ ⟨h2, h3⟩ ⟨by omega, by omega⟩ ⟨by rw [e]; omega, by omega⟩ (by decide)
  rw [hp.2.2.2.2.1 r c h0 h1 h2 h3] at h4
  exact h4
theorem sh_put {k : eg_K} {z : eg_Z} {X : eg_M} {n b : Nat} {v : eg_v} {B : Int} (hb : isB b = true) (hp : hP z b v) (hv : VV B v) {r c x : Int} (h0 : 0 ≤ r) (h1 : r < v 2) (h2 : 0 ≤ c) (h3 : c < 6) : eg_P k gX5_put 0 0 0 [vR k (b + 5), vI r, vI c, vI x] n (enc k z X) (eg_f none n (enc k (va_up z (b + 6) (va_up (z (b + 6)) (r * 6 + c).toNat x)) X)) := by
  have q := hv.r
  have e := hp.2.1.2.2.1
  have h4 := c_X5_put (n := n) (ep5 (k := k) (z := z) (X := X) hb) (ep6 hb) (r := r) (c := c) (x := x) ⟨h0, by rw [e]; exact h1⟩ ⟨h2, h3⟩ ⟨by omega, by omega⟩ ⟨by rw [e]; omega, by omega⟩ (by decide)
  rw [es6 hb] at h4
  exact h4
theorem sh_raise {k : eg_K} {z : eg_Z} {X : eg_M} {n b : Nat} {v : eg_v} {B : Int} (hb : isB b = true) (hp : hP z b v) (hv : VV B v) {r c x : Int} (h0 : 0 ≤ r) (h1 : r < v 2) (h2 : 0 ≤ c) (h3 : c < 6) : eg_P k gX5_raise 1 0 0 [vR k (b + 5), vI r, vI c, vI x] n (enc k z X) (eg_f none n (enc k (va_up z (b + 6) (va_up (z (b + 6)) (r * 6 + c).toNat (gH v r c + x))) X)) := by
  have q := hv.r
  have e := hp.2.1.2.2.1
  have h4 := c_X5_raise (n := n) (ep5 (k := k) (z := z) (X := X) hb) (ep6 hb) (r := r) (c := c) (x := x) ⟨h0, by rw [e]; exact h1⟩ ⟨h2, h3⟩ ⟨by omega, by omega⟩ ⟨by rw [e]; omega, by omega⟩ (by decide)
  rw [es6 hb, hp.2.2.2.2.1 r c h0 h1 h2 h3] at h4
  exact h4
theorem nm_has {k : eg_K} {z : eg_Z} {X : eg_M} {n b : Nat} {v : eg_v} {B : Int} (hb : isB b = true) (hp : hP z b v) (hv : VV B v) {r : Int} (hr : iR r) : eg_P k gX5_has 0 0 0 [vR k (b + 7), vI r] n (enc k z X) (eg_f (some (vI (bi (0 ≤ r ∧ r < v 3)))) n (enc k z X)) := by
  have q := hv.r
  have e := hp.2.1.2.2.2
  have h1 := c_X5_has (n := n) (ep7 (k := k) (z := z) (X := X) hb) hr (by rw [e]; exact ⟨by omega, by omega⟩)
  rw [e] at h1
  exact h1
theorem nm_at {k : eg_K} {z : eg_Z} {X : eg_M} {n b : Nat} {v : eg_v} {B : Int} (hb : isB b = true) (hp : hP z b v) (hv : VV B v) {r c : Int} (h0 : 0 ≤ r) (h1 : r < v 3) (h2 : 0 ≤ c) (h3 : c < 4) : eg_P k gX5_at 0 0 0 [vR k (b + 7), vI r, vI c] n (enc k z X) (eg_f (some (vI (gN v r c))) n (enc k z X)) := by
  have q := hv.r
  have e := hp.2.1.2.2.2
  have h4 := c_X5_at (n := n) (ep7 (k := k) (z := z) (X := X) hb) (ep8 hb) (r := r) (c := c) ⟨h0, by rw [e]; exact h1⟩ ⟨h2, h3⟩ ⟨by omega, by omega⟩ ⟨by rw [e]; omega, by omega⟩ (by decide)
  rw [hp.2.2.2.2.2.2.1 r c h0 h1 h2 h3] at h4
  exact h4
theorem nm_put {k : eg_K} {z : eg_Z} {X : eg_M} {n b : Nat} {v : eg_v} {B : Int} (hb : isB b = true) (hp : hP z b v) (hv : VV B v) {r c x : Int} (h0 : 0 ≤ r) (h1 : r < v 3) (h2 : 0 ≤ c) (h3 : c < 4) : eg_P k gX5_put 0 0 0 [vR k (b + 7), vI r, vI c, vI x] n (enc k z X) (eg_f none n (enc k (va_up z (b + 8) (va_up (z (b + 8)) (r * 4 + c).toNat x)) X)) := by
  have q := hv.r
  have e := hp.2.1.2.2.2
  have h4 := c_X5_put (n := n) (ep7 (k := k) (z := z) (X := X) hb) (ep8 hb) (r := r) (c := c) (x := x) ⟨h0, by rw [e]; exact h1⟩ ⟨h2, h3⟩ ⟨by omega, by omega⟩ ⟨by rw [e]; omega, by omega⟩ (by decide)
  rw [es8 hb] at h4
  exact h4
theorem nm_raise {k : eg_K} {z : eg_Z} {X : eg_M} {n b : Nat} {v : eg_v} {B : Int} (hb : isB b = true) (hp : hP z b v) (hv : VV B v) {r c x : Int} (h0 : 0 ≤ r) (h1 : r < v 3) (h2 : 0 ≤ c) (h3 : c < 4) : eg_P k gX5_raise 1 0 0 [vR k (b + 7), vI r, vI c, vI x] n (enc k z X) (eg_f none n (enc k (va_up z (b + 8) (va_up (z (b + 8)) (r * 4 + c).toNat (gN v r c + x))) X)) := by
  have q := hv.r
  have e := hp.2.1.2.2.2
  have h4 := c_X5_raise (n := n) (ep7 (k := k) (z := z) (X := X) hb) (ep8 hb) (r := r) (c := c) (x := x) ⟨h0, by rw [e]; exact h1⟩ ⟨h2, h3⟩ ⟨by omega, by omega⟩ ⟨by rw [e]; omega, by omega⟩ (by decide)
  rw [es8 hb, hp.2.2.2.2.2.2.1 r c h0 h1 h2 h3] at h4
  exact h4
theorem c_X2_isThere {k : eg_K} {z : eg_Z} {X : eg_M} {n b : Nat} {v : eg_v} {B : Int} (hb : isB b = true) (hp : hP z b v) (hv : VV B v)  : eg_P k gX2_isThere 0 0 0 [vR k b] n (enc k z X) (eg_f (some (vI (bi (0 < v 0)))) n (enc k z X)) := by
  refine eg_P.of (by decide) (Nat.le_of_ble_eq_true rfl) ?_
  show eg_E k gX2_isThere 0 0 0 n (enc k z X) [vR k b] [] 0 _
  have q := hv.r
  obtain ⟨⟨z0, z1, z2, z3⟩, ⟨c1, c3, c5, c7⟩, -⟩ := id hp
  refine eg_al_n dX2_isThere_0 rfl rfl ?_
  refine eg_get fl_X2_9 dX2_isThere_1 (by first | exact ep0 hb | exact ep1 hb | exact ep3 hb | exact ep5 hb | exact ep7 hb | exact ep9 hb | exact ep10 hb | exact ep11 hb) rfl ?_
  rw [z0]
  refine eg_if_le 11 dX2_isThere_4 ⟨by omega, by omega⟩ rfl (fun h4 => ?_) (fun h4 => ?_)
  · refine eg_iconst dX2_isThere_11 ?_
    refine eg_ireturn dX2_isThere_12 rfl rfl ?_
    exact ⟨congrArg (fun q => some (vI q)) (by first | rfl | (unfold bi; split <;> omega) | omega), rfl, rfl⟩
  · refine eg_iconst dX2_isThere_7 ?_
    refine eg_goto 12 dX2_isThere_8 rfl ?_
    refine eg_ireturn dX2_isThere_12 rfl rfl ?_
    exact ⟨congrArg (fun q => some (vI q)) (by first | rfl | (unfold bi; split <;> omega) | omega), rfl, rfl⟩
theorem c_X2_hasHub {k : eg_K} {z : eg_Z} {X : eg_M} {n b : Nat} {v : eg_v} {B : Int} (hb : isB b = true) (hp : hP z b v) (hv : VV B v) {r : Int} (hr : iR r) : eg_P k gX2_hasHub 0 0 0 [vR k b, vI r] n (enc k z X) (eg_f (some (vI (bi (0 ≤ r ∧ r < v 0)))) n (enc k z X)) := by
  refine eg_P.of (by decide) (Nat.le_of_ble_eq_true rfl) ?_
  show eg_E k gX2_hasHub 0 0 0 n (enc k z X) [vR k b, vI r] [] 0 _
  have q := hv.r
  obtain ⟨⟨z0, z1, z2, z3⟩, ⟨c1, c3, c5, c7⟩, -⟩ := id hp
  have hr1 := hr.1; have hr2 := hr.2
  refine eg_iload_n dX2_hasHub_0 rfl ?_
  refine eg_if_lt 16 dX2_hasHub_1 ⟨by omega, by omega⟩ rfl (fun h1 => ?_) (fun h1 => ?_)
  · refine eg_iconst dX2_hasHub_16 ?_
    refine eg_ireturn dX2_hasHub_17 rfl rfl ?_
    exact ⟨congrArg (fun q => some (vI q)) (by first | rfl | (unfold bi; split <;> omega) | omega), rfl, rfl⟩
  · refine eg_iload_n dX2_hasHub_4 rfl ?_
    refine eg_al_n dX2_hasHub_5 rfl rfl ?_
    refine eg_get fl_X2_9 dX2_hasHub_6 (by first | exact ep0 hb | exact ep1 hb | exact ep3 hb | exact ep5 hb | exact ep7 hb | exact ep9 hb | exact ep10 hb | exact ep11 hb) rfl ?_
    rw [z0]
    refine eg_icmp_ge 16 dX2_hasHub_9 ⟨by omega, by omega⟩ ⟨by omega, by omega⟩ rfl (fun h9 => ?_) (fun h9 => ?_)
    · refine eg_iconst dX2_hasHub_16 ?_
      refine eg_ireturn dX2_hasHub_17 rfl rfl ?_
      exact ⟨congrArg (fun q => some (vI q)) (by first | rfl | (unfold bi; split <;> omega) | omega), rfl, rfl⟩
    · refine eg_iconst dX2_hasHub_12 ?_
      refine eg_goto 17 dX2_hasHub_13 rfl ?_
      refine eg_ireturn dX2_hasHub_17 rfl rfl ?_
      exact ⟨congrArg (fun q => some (vI q)) (by first | rfl | (unfold bi; split <;> omega) | omega), rfl, rfl⟩
theorem c_X2_isIn {k : eg_K} {z : eg_Z} {X : eg_M} {n b : Nat} {v : eg_v} {B : Int} (hb : isB b = true) (hp : hP z b v) (hv : VV B v) {r : Int} (hr : iR r) : eg_P k gX2_isIn 1 0 0 [vR k b, vI r] n (enc k z X) (eg_f (some (vI (bi (0 ≤ r ∧ r < v 1 ∧ gP v r 1 = 1)))) n (enc k z X)) := by
  refine eg_P.of (by decide) (Nat.le_of_ble_eq_true rfl) ?_
  show eg_E k gX2_isIn 1 0 0 n (enc k z X) [vR k b, vI r] [] 0 _
  have q := hv.r
  obtain ⟨⟨z0, z1, z2, z3⟩, ⟨c1, c3, c5, c7⟩, -⟩ := id hp
  have hr1 := hr.1; have hr2 := hr.2
  refine eg_al_n dX2_isIn_0 rfl rfl ?_
  refine eg_get fl_X2_33 dX2_isIn_1 (by first | exact ep0 hb | exact ep1 hb | exact ep3 hb | exact ep5 hb | exact ep7 hb | exact ep9 hb | exact ep10 hb | exact ep11 hb) rfl ?_
  refine eg_iload_n dX2_isIn_4 rfl ?_
  refine eg_Vf1 cs_X2_75 dX2_isIn_5 (pt_has hb hp hv hr) (by first | exact ep0 hb | exact ep1 hb | exact ep3 hb | exact ep5 hb | exact ep7 hb | exact ep9 hb | exact ep10 hb | exact ep11 hb) rfl (Nat.le_of_ble_eq_true rfl) (by decide) ?_
  refine eg_bi_eq 28 dX2_isIn_8 rfl (fun h8 => ?_) (fun h8 => ?_)
  · refine eg_iconst dX2_isIn_28 ?_
    refine eg_ireturn dX2_isIn_29 rfl rfl ?_
    exact ⟨congrArg (fun q => some (vI q)) (by first | (unfold bi; split <;> omega) | omega), rfl, rfl⟩
  · have o1 := hv.P (p := r) (by omega) (by omega); unfold okP at o1
    refine eg_al_n dX2_isIn_11 rfl rfl ?_
    refine eg_get fl_X2_33 dX2_isIn_12 (by first | exact ep0 hb | exact ep1 hb | exact ep3 hb | exact ep5 hb | exact ep7 hb | exact ep9 hb | exact ep10 hb | exact ep11 hb) rfl ?_
    refine eg_iload_n dX2_isIn_15 rfl ?_
    refine eg_iconst dX2_isIn_16 ?_
    refine eg_Vf2 cs_X2_79 dX2_isIn_17 (pt_at hb hp hv (by omega) (by omega) (by omega) (by omega)) (by first | exact ep0 hb | exact ep1 hb | exact ep3 hb | exact ep5 hb | exact ep7 hb | exact ep9 hb | exact ep10 hb | exact ep11 hb) rfl (Nat.le_of_ble_eq_true rfl) (by decide) ?_
    refine eg_iconst dX2_isIn_20 ?_
    refine eg_icmp_ne 28 dX2_isIn_21 ⟨by omega, by omega⟩ ⟨by omega, by omega⟩ rfl (fun h21 => ?_) (fun h21 => ?_)
    · refine eg_iconst dX2_isIn_28 ?_
      refine eg_ireturn dX2_isIn_29 rfl rfl ?_
      exact ⟨congrArg (fun q => some (vI q)) (by first | (unfold bi; split <;> omega) | omega), rfl, rfl⟩
    · refine eg_iconst dX2_isIn_24 ?_
      refine eg_goto 29 dX2_isIn_25 rfl ?_
      refine eg_ireturn dX2_isIn_29 rfl rfl ?_
      exact ⟨congrArg (fun q => some (vI q)) (by first | (unfold bi; split <;> omega) | omega), rfl, rfl⟩
theorem c_X2_isOut {k : eg_K} {z : eg_Z} {X : eg_M} {n b : Nat} {v : eg_v} {B : Int} (hb : isB b = true) (hp : hP z b v) (hv : VV B v) {r : Int} (hr : iR r) : eg_P k gX2_isOut 1 0 0 [vR k b, vI r] n (enc k z X) (eg_f (some (vI (bi (0 ≤ r ∧ r < v 1 ∧ gP v r 1 = 0)))) n (enc k z X)) := by
  refine eg_P.of (by decide) (Nat.le_of_ble_eq_true rfl) ?_
  show eg_E k gX2_isOut 1 0 0 n (enc k z X) [vR k b, vI r] [] 0 _
  have q := hv.r
  obtain ⟨⟨z0, z1, z2, z3⟩, ⟨c1, c3, c5, c7⟩, -⟩ := id hp
  have hr1 := hr.1; have hr2 := hr.2
  refine eg_al_n dX2_isOut_0 rfl rfl ?_
  refine eg_get fl_X2_33 dX2_isOut_1 (by first | exact ep0 hb | exact ep1 hb | exact ep3 hb | exact ep5 hb | exact ep7 hb | exact ep9 hb | exact ep10 hb | exact ep11 hb) rfl ?_
  refine eg_iload_n dX2_isOut_4 rfl ?_
  refine eg_Vf1 cs_X2_75 dX2_isOut_5 (pt_has hb hp hv hr) (by first | exact ep0 hb | exact ep1 hb | exact ep3 hb | exact ep5 hb | exact ep7 hb | exact ep9 hb | exact ep10 hb | exact ep11 hb) rfl (Nat.le_of_ble_eq_true rfl) (by decide) ?_
  refine eg_bi_eq 27 dX2_isOut_8 rfl (fun h8 => ?_) (fun h8 => ?_)
  · refine eg_iconst dX2_isOut_27 ?_
    refine eg_ireturn dX2_isOut_28 rfl rfl ?_
    exact ⟨congrArg (fun q => some (vI q)) (by first | (unfold bi; split <;> omega) | omega), rfl, rfl⟩
  · have o1 := hv.P (p := r) (by omega) (by omega); unfold okP at o1
    refine eg_al_n dX2_isOut_11 rfl rfl ?_
    refine eg_get fl_X2_33 dX2_isOut_12 (by first | exact ep0 hb | exact ep1 hb | exact ep3 hb | exact ep5 hb | exact ep7 hb | exact ep9 hb | exact ep10 hb | exact ep11 hb) rfl ?_
    refine eg_iload_n dX2_isOut_15 rfl ?_
    refine eg_iconst dX2_isOut_16 ?_
    refine eg_Vf2 cs_X2_79 dX2_isOut_17 (pt_at hb hp hv (by omega) (by omega) (by omega) (by omega)) (by first | exact ep0 hb | exact ep1 hb | exact ep3 hb | exact ep5 hb | exact ep7 hb | exact ep9 hb | exact ep10 hb | exact ep11 hb) rfl (Nat.le_of_ble_eq_true rfl) (by decide) ?_
    refine eg_if_ne 27 dX2_isOut_20 ⟨by omega, by omega⟩ rfl (fun h20 => ?_) (fun h20 => ?_)
    · refine eg_iconst dX2_isOut_27 ?_
      refine eg_ireturn dX2_isOut_28 rfl rfl ?_
      exact ⟨congrArg (fun q => some (vI q)) (by first | (unfold bi; split <;> omega) | omega), rfl, rfl⟩
    · refine eg_iconst dX2_isOut_23 ?_
      refine eg_goto 28 dX2_isOut_24 rfl ?_
      refine eg_ireturn dX2_isOut_28 rfl rfl ?_
      exact ⟨congrArg (fun q => some (vI q)) (by first | (unfold bi; split <;> omega) | omega), rfl, rfl⟩
theorem c_X2_hubOf {k : eg_K} {z : eg_Z} {X : eg_M} {n b : Nat} {v : eg_v} {B : Int} (hb : isB b = true) (hp : hP z b v) (hv : VV B v) {r : Int} (h0 : 0 ≤ r) (h1 : r < v 1) : eg_P k gX2_hubOf 1 0 0 [vR k b, vI r] n (enc k z X) (eg_f (some (vI (gP v r 0))) n (enc k z X)) := by
  refine eg_P.of (by decide) (Nat.le_of_ble_eq_true rfl) ?_
  show eg_E k gX2_hubOf 1 0 0 n (enc k z X) [vR k b, vI r] [] 0 _
  have q := hv.r
  obtain ⟨⟨z0, z1, z2, z3⟩, ⟨c1, c3, c5, c7⟩, -⟩ := id hp
  refine eg_al_n dX2_hubOf_0 rfl rfl ?_
  refine eg_get fl_X2_33 dX2_hubOf_1 (by first | exact ep0 hb | exact ep1 hb | exact ep3 hb | exact ep5 hb | exact ep7 hb | exact ep9 hb | exact ep10 hb | exact ep11 hb) rfl ?_
  refine eg_iload_n dX2_hubOf_4 rfl ?_
  refine eg_iconst dX2_hubOf_5 ?_
  refine eg_Vf2 cs_X2_79 dX2_hubOf_6 (pt_at hb hp hv h0 h1 (by omega) (by omega)) (by first | exact ep0 hb | exact ep1 hb | exact ep3 hb | exact ep5 hb | exact ep7 hb | exact ep9 hb | exact ep10 hb | exact ep11 hb) rfl (Nat.le_of_ble_eq_true rfl) (by decide) ?_
  refine eg_ireturn dX2_hubOf_9 rfl rfl ?_
  exact ⟨rfl, rfl, rfl⟩
theorem c_X2_hasCap {k : eg_K} {z : eg_Z} {X : eg_M} {n b : Nat} {v : eg_v} {B : Int} (hb : isB b = true) (hp : hP z b v) (hv : VV B v) {s r : Int} (hs : iR s) (hr : iR r) : eg_P k gX2_hasCap 1 0 0 [vR k b, vI s, vI r] n (enc k z X) (eg_f (some (vI (bi ((s = 0 ∧ 0 ≤ r ∧ r < v 1) ∨ (s = 1 ∧ 0 ≤ r ∧ r < segs v))))) n (enc k z X)) := by
  refine eg_P.of (by decide) (Nat.le_of_ble_eq_true rfl) ?_
  show eg_E k gX2_hasCap 1 0 0 n (enc k z X) [vR k b, vI s, vI r] [] 0 _
  have q := hv.r
  obtain ⟨⟨z0, z1, z2, z3⟩, ⟨c1, c3, c5, c7⟩, -⟩ := id hp
  have hr1 := hr.1; have hr2 := hr.2
  have hs1 := hs.1; have hs2 := hs.2
  refine eg_iload_n dX2_hasCap_0 rfl ?_
  refine eg_if_ne 15 dX2_hasCap_1 ⟨by omega, by omega⟩ rfl (fun h1 => ?_) (fun h1 => ?_)
  · refine eg_iload_n dX2_hasCap_15 rfl ?_
    refine eg_iconst dX2_hasCap_16 ?_
    refine eg_icmp_ne 35 dX2_hasCap_17 ⟨by omega, by omega⟩ ⟨by omega, by omega⟩ rfl (fun h17 => ?_) (fun h17 => ?_)
    · refine eg_iconst dX2_hasCap_35 ?_
      refine eg_ireturn dX2_hasCap_36 rfl rfl ?_
      exact ⟨congrArg (fun q => some (vI q)) (by first | (unfold bi; split <;> omega) | omega), rfl, rfl⟩
    · refine eg_al_n dX2_hasCap_20 rfl rfl ?_
      refine eg_get fl_X2_29 dX2_hasCap_21 (by first | exact ep0 hb | exact ep1 hb | exact ep3 hb | exact ep5 hb | exact ep7 hb | exact ep9 hb | exact ep10 hb | exact ep11 hb) rfl ?_
      refine eg_iload_n dX2_hasCap_24 rfl ?_
      refine eg_Vf1 cs_X2_75 dX2_hasCap_25 (sg_has hb hp hv hr) (by first | exact ep0 hb | exact ep1 hb | exact ep3 hb | exact ep5 hb | exact ep7 hb | exact ep9 hb | exact ep10 hb | exact ep11 hb) rfl (Nat.le_of_ble_eq_true rfl) (by decide) ?_
      refine eg_bi_eq 35 dX2_hasCap_28 rfl (fun h28 => ?_) (fun h28 => ?_)
      · refine eg_iconst dX2_hasCap_35 ?_
        refine eg_ireturn dX2_hasCap_36 rfl rfl ?_
        exact ⟨congrArg (fun q => some (vI q)) (by first | (unfold bi; split <;> omega) | omega), rfl, rfl⟩
      · refine eg_iconst dX2_hasCap_31 ?_
        refine eg_goto 36 dX2_hasCap_32 rfl ?_
        refine eg_ireturn dX2_hasCap_36 rfl rfl ?_
        exact ⟨congrArg (fun q => some (vI q)) (by first | (unfold bi; split <;> omega) | omega), rfl, rfl⟩
  · refine eg_al_n dX2_hasCap_4 rfl rfl ?_
    refine eg_get fl_X2_33 dX2_hasCap_5 (by first | exact ep0 hb | exact ep1 hb | exact ep3 hb | exact ep5 hb | exact ep7 hb | exact ep9 hb | exact ep10 hb | exact ep11 hb) rfl ?_
    refine eg_iload_n dX2_hasCap_8 rfl ?_
    refine eg_Vf1 cs_X2_75 dX2_hasCap_9 (pt_has hb hp hv hr) (by first | exact ep0 hb | exact ep1 hb | exact ep3 hb | exact ep5 hb | exact ep7 hb | exact ep9 hb | exact ep10 hb | exact ep11 hb) rfl (Nat.le_of_ble_eq_true rfl) (by decide) ?_
    refine eg_bi_ne 31 dX2_hasCap_12 rfl (fun h12 => ?_) (fun h12 => ?_)
    · refine eg_iconst dX2_hasCap_31 ?_
      refine eg_goto 36 dX2_hasCap_32 rfl ?_
      refine eg_ireturn dX2_hasCap_36 rfl rfl ?_
      exact ⟨congrArg (fun q => some (vI q)) (by first | (unfold bi; split <;> omega) | omega), rfl, rfl⟩
    · refine eg_iload_n dX2_hasCap_15 rfl ?_
      refine eg_iconst dX2_hasCap_16 ?_
      refine eg_icmp_ne 35 dX2_hasCap_17 ⟨by omega, by omega⟩ ⟨by omega, by omega⟩ rfl (fun h17 => ?_) (fun h17 => ?_)
      · refine eg_iconst dX2_hasCap_35 ?_
        refine eg_ireturn dX2_hasCap_36 rfl rfl ?_
        exact ⟨congrArg (fun q => some (vI q)) (by first | (unfold bi; split <;> omega) | omega), rfl, rfl⟩
      · refine eg_al_n dX2_hasCap_20 rfl rfl ?_
        refine eg_get fl_X2_29 dX2_hasCap_21 (by first | exact ep0 hb | exact ep1 hb | exact ep3 hb | exact ep5 hb | exact ep7 hb | exact ep9 hb | exact ep10 hb | exact ep11 hb) rfl ?_
        refine eg_iload_n dX2_hasCap_24 rfl ?_
        refine eg_Vf1 cs_X2_75 dX2_hasCap_25 (sg_has hb hp hv hr) (by first | exact ep0 hb | exact ep1 hb | exact ep3 hb | exact ep5 hb | exact ep7 hb | exact ep9 hb | exact ep10 hb | exact ep11 hb) rfl (Nat.le_of_ble_eq_true rfl) (by decide) ?_
        refine eg_bi_eq 35 dX2_hasCap_28 rfl (fun h28 => ?_) (fun h28 => ?_)
        · refine eg_iconst dX2_hasCap_35 ?_
          refine eg_ireturn dX2_hasCap_36 rfl rfl ?_
          exact ⟨congrArg (fun q => some (vI q)) (by first | (unfold bi; split <;> omega) | omega), rfl, rfl⟩
        · refine eg_iconst dX2_hasCap_31 ?_
          refine eg_goto 36 dX2_hasCap_32 rfl ?_
          refine eg_ireturn dX2_hasCap_36 rfl rfl ?_
          exact ⟨congrArg (fun q => some (vI q)) (by first | (unfold bi; split <;> omega) | omega), rfl, rfl⟩
theorem c_X2_capOf {k : eg_K} {z : eg_Z} {X : eg_M} {n b : Nat} {v : eg_v} {B : Int} (hb : isB b = true) (hp : hP z b v) (hv : VV B v) {s r : Int} (h : (s = 0 ∧ 0 ≤ r ∧ r < v 1) ∨ (s = 1 ∧ 0 ≤ r ∧ r < segs v)) : eg_P k gX2_capOf 1 0 0 [vR k b, vI s, vI r] n (enc k z X) (eg_f (some (vI (if s = 0 then gP v r 2 else gS v r 0))) n (enc k z X)) := by
  refine eg_P.of (by decide) (Nat.le_of_ble_eq_true rfl) ?_
  show eg_E k gX2_capOf 1 0 0 n (enc k z X) [vR k b, vI s, vI r] [] 0 _
  have q := hv.r
  obtain ⟨⟨z0, z1, z2, z3⟩, ⟨c1, c3, c5, c7⟩, -⟩ := id hp
  refine eg_iload_n dX2_capOf_0 rfl ?_
  refine eg_if_ne 16 dX2_capOf_1 ⟨by omega, by omega⟩ rfl (fun h1 => ?_) (fun h1 => ?_)
  · refine eg_al_n dX2_capOf_16 rfl rfl ?_
    refine eg_get fl_X2_29 dX2_capOf_17 (by first | exact ep0 hb | exact ep1 hb | exact ep3 hb | exact ep5 hb | exact ep7 hb | exact ep9 hb | exact ep10 hb | exact ep11 hb) rfl ?_
    refine eg_iload_n dX2_capOf_20 rfl ?_
    refine eg_iconst dX2_capOf_21 ?_
    refine eg_Vf2 cs_X2_79 dX2_capOf_22 (sg_at hb hp hv (by omega) (by omega) (by omega) (by omega)) (by first | exact ep0 hb | exact ep1 hb | exact ep3 hb | exact ep5 hb | exact ep7 hb | exact ep9 hb | exact ep10 hb | exact ep11 hb) rfl (Nat.le_of_ble_eq_true rfl) (by decide) ?_
    refine eg_ireturn dX2_capOf_25 rfl rfl ?_
    exact ⟨congrArg (fun q => some (vI q)) (by first | rw [if_pos (by omega)] | rw [if_neg (by omega)]), rfl, rfl⟩
  · refine eg_al_n dX2_capOf_4 rfl rfl ?_
    refine eg_get fl_X2_33 dX2_capOf_5 (by first | exact ep0 hb | exact ep1 hb | exact ep3 hb | exact ep5 hb | exact ep7 hb | exact ep9 hb | exact ep10 hb | exact ep11 hb) rfl ?_
    refine eg_iload_n dX2_capOf_8 rfl ?_
    refine eg_iconst dX2_capOf_9 ?_
    refine eg_Vf2 cs_X2_79 dX2_capOf_10 (pt_at hb hp hv (by omega) (by omega) (by omega) (by omega)) (by first | exact ep0 hb | exact ep1 hb | exact ep3 hb | exact ep5 hb | exact ep7 hb | exact ep9 hb | exact ep10 hb | exact ep11 hb) rfl (Nat.le_of_ble_eq_true rfl) (by decide) ?_
    refine eg_goto 25 dX2_capOf_13 rfl ?_
    refine eg_ireturn dX2_capOf_25 rfl rfl ?_
    exact ⟨congrArg (fun q => some (vI q)) (by first | rw [if_pos (by omega)] | rw [if_neg (by omega)]), rfl, rfl⟩
theorem c_X2_shipperOf {k : eg_K} {z : eg_Z} {X : eg_M} {n b : Nat} {v : eg_v} {B : Int} (hb : isB b = true) (hp : hP z b v) (hv : VV B v) {r : Int} (h0 : 0 ≤ r) (h1 : r < v 3) : eg_P k gX2_shipperOf 1 0 0 [vR k b, vI r] n (enc k z X) (eg_f (some (vI (gN v r 0))) n (enc k z X)) := by
  refine eg_P.of (by decide) (Nat.le_of_ble_eq_true rfl) ?_
  show eg_E k gX2_shipperOf 1 0 0 n (enc k z X) [vR k b, vI r] [] 0 _
  have q := hv.r
  obtain ⟨⟨z0, z1, z2, z3⟩, ⟨c1, c3, c5, c7⟩, -⟩ := id hp
  refine eg_al_n dX2_shipperOf_0 rfl rfl ?_
  refine eg_get fl_X2_39 dX2_shipperOf_1 (by first | exact ep0 hb | exact ep1 hb | exact ep3 hb | exact ep5 hb | exact ep7 hb | exact ep9 hb | exact ep10 hb | exact ep11 hb) rfl ?_
  refine eg_iload_n dX2_shipperOf_4 rfl ?_
  refine eg_iconst dX2_shipperOf_5 ?_
  refine eg_Vf2 cs_X2_79 dX2_shipperOf_6 (nm_at hb hp hv h0 h1 (by omega) (by omega)) (by first | exact ep0 hb | exact ep1 hb | exact ep3 hb | exact ep5 hb | exact ep7 hb | exact ep9 hb | exact ep10 hb | exact ep11 hb) rfl (Nat.le_of_ble_eq_true rfl) (by decide) ?_
  refine eg_ireturn dX2_shipperOf_9 rfl rfl ?_
  exact ⟨rfl, rfl, rfl⟩
theorem c_X2_goesAlong {k : eg_K} {z : eg_Z} {X : eg_M} {n b : Nat} {v : eg_v} {B : Int} (hb : isB b = true) (hp : hP z b v) (hv : VV B v) {r : Int} (h0 : 0 ≤ r) (h1 : r < v 3) : eg_P k gX2_goesAlong 1 0 0 [vR k b, vI r] n (enc k z X) (eg_f (some (vI (bi (gN v r 1 ≠ -1 ∧ gN v r 2 ≠ -1)))) n (enc k z X)) := by
  refine eg_P.of (by decide) (Nat.le_of_ble_eq_true rfl) ?_
  show eg_E k gX2_goesAlong 1 0 0 n (enc k z X) [vR k b, vI r] [] 0 _
  have q := hv.r
  obtain ⟨⟨z0, z1, z2, z3⟩, ⟨c1, c3, c5, c7⟩, -⟩ := id hp
  have o1 := hv.N (q := r) h0 h1; simp only [okN, isIn, isOut] at o1
  refine eg_al_n dX2_goesAlong_0 rfl rfl ?_
  refine eg_get fl_X2_39 dX2_goesAlong_1 (by first | exact ep0 hb | exact ep1 hb | exact ep3 hb | exact ep5 hb | exact ep7 hb | exact ep9 hb | exact ep10 hb | exact ep11 hb) rfl ?_
  refine eg_iload_n dX2_goesAlong_4 rfl ?_
  refine eg_iconst dX2_goesAlong_5 ?_
  refine eg_Vf2 cs_X2_79 dX2_goesAlong_6 (nm_at hb hp hv h0 h1 (by omega) (by omega)) (by first | exact ep0 hb | exact ep1 hb | exact ep3 hb | exact ep5 hb | exact ep7 hb | exact ep9 hb | exact ep10 hb | exact ep11 hb) rfl (Nat.le_of_ble_eq_true rfl) (by decide) ?_
  refine eg_iconst dX2_goesAlong_9 ?_
  refine eg_icmp_eq 30 dX2_goesAlong_10 ⟨by omega, by omega⟩ ⟨by omega, by omega⟩ rfl (fun h10 => ?_) (fun h10 => ?_)
  · refine eg_iconst dX2_goesAlong_30 ?_
    refine eg_ireturn dX2_goesAlong_31 rfl rfl ?_
    exact ⟨congrArg (fun q => some (vI q)) (by first | (unfold bi; split <;> omega) | omega), rfl, rfl⟩
  · refine eg_al_n dX2_goesAlong_13 rfl rfl ?_
    refine eg_get fl_X2_39 dX2_goesAlong_14 (by first | exact ep0 hb | exact ep1 hb | exact ep3 hb | exact ep5 hb | exact ep7 hb | exact ep9 hb | exact ep10 hb | exact ep11 hb) rfl ?_
    refine eg_iload_n dX2_goesAlong_17 rfl ?_
    refine eg_iconst dX2_goesAlong_18 ?_
    refine eg_Vf2 cs_X2_79 dX2_goesAlong_19 (nm_at hb hp hv h0 h1 (by omega) (by omega)) (by first | exact ep0 hb | exact ep1 hb | exact ep3 hb | exact ep5 hb | exact ep7 hb | exact ep9 hb | exact ep10 hb | exact ep11 hb) rfl (Nat.le_of_ble_eq_true rfl) (by decide) ?_
    refine eg_iconst dX2_goesAlong_22 ?_
    refine eg_icmp_eq 30 dX2_goesAlong_23 ⟨by omega, by omega⟩ ⟨by omega, by omega⟩ rfl (fun h23 => ?_) (fun h23 => ?_)
    · refine eg_iconst dX2_goesAlong_30 ?_
      refine eg_ireturn dX2_goesAlong_31 rfl rfl ?_
      exact ⟨congrArg (fun q => some (vI q)) (by first | (unfold bi; split <;> omega) | omega), rfl, rfl⟩
    · refine eg_iconst dX2_goesAlong_26 ?_
      refine eg_goto 31 dX2_goesAlong_27 rfl ?_
      refine eg_ireturn dX2_goesAlong_31 rfl rfl ?_
      exact ⟨congrArg (fun q => some (vI q)) (by first | (unfold bi; split <;> omega) | omega), rfl, rfl⟩
theorem c_X2_canPark {k : eg_K} {z : eg_Z} {X : eg_M} {n b : Nat} {v : eg_v} {B : Int} (hb : isB b = true) (hp : hP z b v) (hv : VV B v) {r x : Int} (hB : B ≤ 100000000) (h0 : 0 ≤ r) (h1 : r < v 2) (hx : 0 ≤ x ∧ x ≤ 9999) : eg_P k gX2_canPark 1 0 0 [vR k b, vI r, vI x] n (enc k z X) (eg_f (some (vI (bi (gH v r 5 + x ≤ gH v r 3)))) n (enc k z X)) := by
  refine eg_P.of (by decide) (Nat.le_of_ble_eq_true rfl) ?_
  show eg_E k gX2_canPark 1 0 0 n (enc k z X) [vR k b, vI r, vI x] [] 0 _
  have q := hv.r
  obtain ⟨⟨z0, z1, z2, z3⟩, ⟨c1, c3, c5, c7⟩, -⟩ := id hp
  have o1 := hv.H (s := r) h0 h1; unfold okH at o1
  refine eg_al_n dX2_canPark_0 rfl rfl ?_
  refine eg_get fl_X2_36 dX2_canPark_1 (by first | exact ep0 hb | exact ep1 hb | exact ep3 hb | exact ep5 hb | exact ep7 hb | exact ep9 hb | exact ep10 hb | exact ep11 hb) rfl ?_
  refine eg_iload_n dX2_canPark_4 rfl ?_
  refine eg_iconst dX2_canPark_5 ?_
  refine eg_Vf2 cs_X2_79 dX2_canPark_6 (sh_at hb hp hv h0 h1 (by omega) (by omega)) (by first | exact ep0 hb | exact ep1 hb | exact ep3 hb | exact ep5 hb | exact ep7 hb | exact ep9 hb | exact ep10 hb | exact ep11 hb) rfl (Nat.le_of_ble_eq_true rfl) (by decide) ?_
  refine eg_iload_n dX2_canPark_9 rfl ?_
  refine eg_iadd dX2_canPark_10 ?_
  refine eg_al_n dX2_canPark_11 rfl rfl ?_
  refine eg_get fl_X2_36 dX2_canPark_12 (by first | exact ep0 hb | exact ep1 hb | exact ep3 hb | exact ep5 hb | exact ep7 hb | exact ep9 hb | exact ep10 hb | exact ep11 hb) rfl ?_
  refine eg_iload_n dX2_canPark_15 rfl ?_
  refine eg_iconst dX2_canPark_16 ?_
  refine eg_Vf2 cs_X2_79 dX2_canPark_17 (sh_at hb hp hv h0 h1 (by omega) (by omega)) (by first | exact ep0 hb | exact ep1 hb | exact ep3 hb | exact ep5 hb | exact ep7 hb | exact ep9 hb | exact ep10 hb | exact ep11 hb) rfl (Nat.le_of_ble_eq_true rfl) (by decide) ?_
  refine eg_icmp_gt 27 dX2_canPark_20 ⟨by omega, by omega⟩ ⟨by omega, by omega⟩ rfl (fun h20 => ?_) (fun h20 => ?_)
  · refine eg_iconst dX2_canPark_27 ?_
    refine eg_ireturn dX2_canPark_28 rfl rfl ?_
    exact ⟨congrArg (fun q => some (vI q)) (by first | (unfold bi; split <;> omega) | omega), rfl, rfl⟩
  · refine eg_iconst dX2_canPark_23 ?_
    refine eg_goto 28 dX2_canPark_24 rfl ?_
    refine eg_ireturn dX2_canPark_28 rfl rfl ?_
    exact ⟨congrArg (fun q => some (vI q)) (by first | (unfold bi; split <;> omega) | omega), rfl, rfl⟩
theorem mul_b {a b c e : Int} (h0 : 0 ≤ a) (h1 : a ≤ b) (h2 : 0 ≤ c) (h3 : c ≤ e) : 0 ≤ a * c ∧ a * c ≤ b * e := ⟨Int.mul_nonneg h0 h2, Int.mul_le_mul h1 h3 h2 (by omega)⟩
theorem c_X2_swung {k : eg_K} {z : eg_Z} {X : eg_M} {n b : Nat} {v : eg_v} {B : Int} (hb : isB b = true) (hp : hP z b v) (hv : VV B v) {x r : Int} (hx : 0 ≤ x ∧ x ≤ 99999) (h0 : 0 ≤ r) (h1 : r < v 1) : eg_P k gX2_swung 1 0 0 [vR k b, vI x, vI r] n (enc k z X) (eg_f (some (vI (x * (100 + gP v r 3) / 100))) n (enc k z X)) := by
  refine eg_P.of (by decide) (Nat.le_of_ble_eq_true rfl) ?_
  show eg_E k gX2_swung 1 0 0 n (enc k z X) [vR k b, vI x, vI r] [] 0 _
  have q := hv.r
  obtain ⟨⟨z0, z1, z2, z3⟩, ⟨c1, c3, c5, c7⟩, -⟩ := id hp
  have o1 := hv.P (p := r) h0 h1; unfold okP at o1
  refine eg_iload_n dX2_swung_0 rfl ?_
  refine eg_bipush dX2_swung_1 (by decide) ?_
  refine eg_al_n dX2_swung_3 rfl rfl ?_
  refine eg_get fl_X2_33 dX2_swung_4 (by first | exact ep0 hb | exact ep1 hb | exact ep3 hb | exact ep5 hb | exact ep7 hb | exact ep9 hb | exact ep10 hb | exact ep11 hb) rfl ?_
  refine eg_iload_n dX2_swung_7 rfl ?_
  refine eg_iconst dX2_swung_8 ?_
  refine eg_Vf2 cs_X2_79 dX2_swung_9 (pt_at hb hp hv h0 h1 (by omega) (by omega)) (by first | exact ep0 hb | exact ep1 hb | exact ep3 hb | exact ep5 hb | exact ep7 hb | exact ep9 hb | exact ep10 hb | exact ep11 hb) rfl (Nat.le_of_ble_eq_true rfl) (by decide) ?_
  refine eg_iadd dX2_swung_12 ?_
  have m1 := mul_b hx.1 hx.2 (show 0 ≤ 100 + gP v r 3 by omega) (show 100 + gP v r 3 ≤ 199 by omega)
  refine eg_imul dX2_swung_13 ?_
  refine eg_bipush dX2_swung_14 (by decide) ?_
  refine eg_idiv dX2_swung_16 ⟨by omega, by omega⟩ ⟨by omega, by omega⟩ (by omega) (by omega) ?_
  refine eg_ireturn dX2_swung_17 rfl rfl ?_
  exact ⟨rfl, rfl, rfl⟩
theorem c_X2_logged {k : eg_K} {z : eg_Z} {X : eg_M} {n b : Nat} {v : eg_v} {B : Int} (hb : isB b = true) (hp : hP z b v) (hv : VV B v)  : eg_P k gX2_logged 1 0 0 [vR k b] n (enc k z X) (eg_f (some (vI (if 8 < v 4 then 8 else v 4))) n (enc k z X)) := by
  refine eg_P.of (by decide) (Nat.le_of_ble_eq_true rfl) ?_
  show eg_E k gX2_logged 1 0 0 n (enc k z X) [vR k b] [] 0 _
  have q := hv.r
  obtain ⟨⟨z0, z1, z2, z3⟩, ⟨c1, c3, c5, c7⟩, -⟩ := id hp
  refine eg_al_n dX2_logged_0 rfl rfl ?_
  refine eg_get fl_X2_21 dX2_logged_1 (by first | exact ep0 hb | exact ep1 hb | exact ep3 hb | exact ep5 hb | exact ep7 hb | exact ep9 hb | exact ep10 hb | exact ep11 hb) rfl ?_
  rw [z3]
  refine eg_bipush dX2_logged_4 (by decide) ?_
  refine eg_mmin cs_X2_134 dX2_logged_6 ⟨by omega, by omega⟩ ⟨by omega, by omega⟩ (Nat.le_of_ble_eq_true rfl) (by decide) ?_
  refine eg_ireturn dX2_logged_9 rfl rfl ?_
  exact ⟨rfl, rfl, rfl⟩
theorem c_X2_over {k : eg_K} {z : eg_Z} {X : eg_M} {n b : Nat} {v : eg_v} {B : Int} (hb : isB b = true) (hp : hP z b v) (hv : VV B v) {r : Int} (hB : B ≤ 100000000) (h0 : 0 ≤ r) (h1 : r < v 2) : eg_P k gX2_over 1 0 0 [vR k b, vI r] n (enc k z X) (eg_f (some (vI (if gH v r 2 < gH v r 4 then gH v r 4 - gH v r 2 else if gH v r 4 < -gH v r 2 then gH v r 4 + gH v r 2 else 0))) n (enc k z X)) := by
  refine eg_P.of (by decide) (Nat.le_of_ble_eq_true rfl) ?_
  show eg_E k gX2_over 1 0 0 n (enc k z X) [vR k b, vI r, vU, vU] [] 0 _
  have q := hv.r
  obtain ⟨⟨z0, z1, z2, z3⟩, ⟨c1, c3, c5, c7⟩, -⟩ := id hp
  have o1 := hv.H (s := r) h0 h1; unfold okH at o1
  refine eg_al_n dX2_over_0 rfl rfl ?_
  refine eg_get fl_X2_36 dX2_over_1 (by first | exact ep0 hb | exact ep1 hb | exact ep3 hb | exact ep5 hb | exact ep7 hb | exact ep9 hb | exact ep10 hb | exact ep11 hb) rfl ?_
  refine eg_iload_n dX2_over_4 rfl ?_
  refine eg_iconst dX2_over_5 ?_
  refine eg_Vf2 cs_X2_79 dX2_over_6 (sh_at hb hp hv h0 h1 (by omega) (by omega)) (by first | exact ep0 hb | exact ep1 hb | exact ep3 hb | exact ep5 hb | exact ep7 hb | exact ep9 hb | exact ep10 hb | exact ep11 hb) rfl (Nat.le_of_ble_eq_true rfl) (by decide) ?_
  refine eg_istore_n dX2_over_9 rfl rfl rfl ?_
  refine eg_al_n dX2_over_10 rfl rfl ?_
  refine eg_get fl_X2_36 dX2_over_11 (by first | exact ep0 hb | exact ep1 hb | exact ep3 hb | exact ep5 hb | exact ep7 hb | exact ep9 hb | exact ep10 hb | exact ep11 hb) rfl ?_
  refine eg_iload_n dX2_over_14 rfl ?_
  refine eg_iconst dX2_over_15 ?_
  refine eg_Vf2 cs_X2_79 dX2_over_16 (sh_at hb hp hv h0 h1 (by omega) (by omega)) (by first | exact ep0 hb | exact ep1 hb | exact ep3 hb | exact ep5 hb | exact ep7 hb | exact ep9 hb | exact ep10 hb | exact ep11 hb) rfl (Nat.le_of_ble_eq_true rfl) (by decide) ?_
  refine eg_istore_n dX2_over_19 rfl rfl rfl ?_
  refine eg_iload_n dX2_over_20 rfl ?_
  refine eg_iload_n dX2_over_21 rfl ?_
  refine eg_icmp_le 29 dX2_over_22 ⟨by omega, by omega⟩ ⟨by omega, by omega⟩ rfl (fun h22 => ?_) (fun h22 => ?_)
  · refine eg_iload_n dX2_over_29 rfl ?_
    refine eg_iload_n dX2_over_30 rfl ?_
    refine eg_ineg dX2_over_31 ?_
    refine eg_icmp_ge 41 dX2_over_32 ⟨by omega, by omega⟩ ⟨by omega, by omega⟩ rfl (fun h32 => ?_) (fun h32 => ?_)
    · refine eg_iconst dX2_over_41 ?_
      refine eg_ireturn dX2_over_42 rfl rfl ?_
      exact ⟨congrArg (fun q => some (vI q)) (by split <;> (try split) <;> omega), rfl, rfl⟩
    · refine eg_iload_n dX2_over_35 rfl ?_
      refine eg_iload_n dX2_over_36 rfl ?_
      refine eg_iadd dX2_over_37 ?_
      refine eg_goto 42 dX2_over_38 rfl ?_
      refine eg_ireturn dX2_over_42 rfl rfl ?_
      exact ⟨congrArg (fun q => some (vI q)) (by split <;> (try split) <;> omega), rfl, rfl⟩
  · refine eg_iload_n dX2_over_25 rfl ?_
    refine eg_iload_n dX2_over_26 rfl ?_
    refine eg_isub dX2_over_27 ?_
    refine eg_ireturn dX2_over_28 rfl rfl ?_
    exact ⟨congrArg (fun q => some (vI q)) (by split <;> (try split) <;> omega), rfl, rfl⟩
