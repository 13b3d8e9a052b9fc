theorem i2l_e {x : Int} (h : iR x) : (Int32.ofInt x).toInt64 = Int64.ofInt x := by
  rw [← Int64.toInt_inj, Int32.toInt_toInt64, i_to h, l_to ⟨by have := h.1; omega, by have := h.2; omega⟩]
theorem l2i_e (x : Int) : (Int64.ofInt x).toInt32 = Int32.ofInt x := Int64.toInt32_ofInt
theorem i2b_e (x : Int) : (Int32.ofInt x).toInt8.toInt32 = Int32.ofInt (x.bmod 256) := by
  have h1 : (Int32.ofInt x).toInt8 = Int8.ofInt x := Int32.toInt8_ofInt
  rw [h1, ← Int32.toInt_inj, Int8.toInt_toInt32, Int8.toInt_ofInt]
  have h2 : -128 ≤ x.bmod 256 := Int.le_bmod (by decide)
  have h3 : x.bmod 256 < 128 := Int.bmod_lt (by decide)
  exact (i_to (x := x.bmod 256) ⟨by omega, by omega⟩).symm
theorem idiv_e {x y : Int} (hx : iR x) (hy : iR y) (h0 : 0 ≤ x) (h1 : 0 < y) : Int32.ofInt x / Int32.ofInt y = Int32.ofInt (x / y) := by
  have h2 : 0 ≤ x / y := Int.ediv_nonneg h0 (by omega)
  have h3 : x / y ≤ x := Int.ediv_le_self y h0
  have h4 := hx.2
  rw [← Int32.toInt_inj, Int32.toInt_div, i_to hx, i_to hy, i_to ⟨by omega, by omega⟩, Int.tdiv_eq_ediv_of_nonneg h0]
  exact Int.bmod_eq_of_le (by omega) (by omega)
theorem ldiv_e {x y : Int} (hx : lR x) (hy : lR y) (h0 : 0 ≤ x) (h1 : 0 < y) : Int64.ofInt x / Int64.ofInt y = Int64.ofInt (x / y) := by
  have h2 : 0 ≤ x / y := Int.ediv_nonneg h0 (by omega)
  have h3 : x / y ≤ x := Int.ediv_le_self y h0
  have h4 := hx.2
  rw [← Int64.toInt_inj, Int64.toInt_div, l_to hx, l_to hy, l_to ⟨by omega, by omega⟩, Int.tdiv_eq_ediv_of_nonneg h0]
  exact Int.bmod_eq_of_le (by omega) (by omega)
theorem i_ne0 {y : Int} (hy : iR y) (h1 : 0 < y) : ¬ Int32.ofInt y = 0 := fun h => by
  have := (i_eq hy iR0).mp h
  omega
theorem l_ne0 {y : Int} (hy : lR y) (h1 : 0 < y) : ¬ Int64.ofInt y = 0 := fun h => by
  have := (l_eq hy ⟨by decide, by decide⟩ (y := 0)).mp h
  omega
def cmpI (x y : Int) : Int := if y < x then 1 else if x = y then 0 else -1
theorem lcmp_e {x y : Int} (hx : lR x) (hy : lR y) : lg_cmp (Int64.ofInt x) (Int64.ofInt y) = Int32.ofInt (cmpI x y) := by
  unfold lg_cmp cmpI
  by_cases h : y < x
  · rw [if_pos ((l_lt hy hx).mpr h), if_pos h]; rfl
  · rw [if_neg (fun z => h ((l_lt hy hx).mp z)), if_neg h]
    by_cases h2 : x = y
    · rw [if_pos ((l_eq hx hy).mpr h2), if_pos h2]; rfl
    · rw [if_neg (fun z => h2 ((l_eq hx hy).mp z)), if_neg h2]; rfl
theorem cmpI_R (x y : Int) : iR (cmpI x y) := by unfold cmpI; split <;> (try split) <;> exact ⟨by decide, by decide⟩
theorem eg_i2l {k : eg_K} {g : eg_G} {d bc bs n : Nat} {M : eg_M} {ls st : List Value} {pc : Nat} {Q : eg_Q} {x : Int} (hd : decode g.2.1 pc = .ok (.i2l, 1)) (hx : iR x) (h : eg_E k g d bc bs n (M) ls (vL x :: st) (pc + 1) Q) : eg_E k g d bc bs n (M) ls (vI x :: st) (pc) Q := by
  intro p e R s m args below meth c H locs cells slots sl Z C hW hz hl hL hc hs hR
  exact lv_i2l C.1 C.2.1 hd (i2l_e hx) (h p e R s m args below meth c H locs cells slots sl Z C hW hz hl hL hc hs hR)
theorem eg_l2i {k : eg_K} {g : eg_G} {d bc bs n : Nat} {M : eg_M} {ls st : List Value} {pc : Nat} {Q : eg_Q} {x : Int} (hd : decode g.2.1 pc = .ok (.l2i, 1)) (h : eg_E k g d bc bs n (M) ls (vI x :: st) (pc + 1) Q) : eg_E k g d bc bs n (M) ls (vL x :: st) (pc) Q := by
  intro p e R s m args below meth c H locs cells slots sl Z C hW hz hl hL hc hs hR
  exact lv_l2i C.1 C.2.1 hd (l2i_e x) (h p e R s m args below meth c H locs cells slots sl Z C hW hz hl hL hc hs hR)
theorem eg_i2b {k : eg_K} {g : eg_G} {d bc bs n : Nat} {M : eg_M} {ls st : List Value} {pc : Nat} {Q : eg_Q} {x : Int} (hd : decode g.2.1 pc = .ok (.i2b, 1)) (h : eg_E k g d bc bs n (M) ls (vI (x.bmod 256) :: st) (pc + 1) Q) : eg_E k g d bc bs n (M) ls (vI x :: st) (pc) Q := by
  intro p e R s m args below meth c H locs cells slots sl Z C hW hz hl hL hc hs hR
  exact lv_i2b C.1 C.2.1 hd (i2b_e x) (h p e R s m args below meth c H locs cells slots sl Z C hW hz hl hL hc hs hR)
theorem eg_idiv {k : eg_K} {g : eg_G} {d bc bs n : Nat} {M : eg_M} {ls st : List Value} {pc : Nat} {Q : eg_Q} {x y : Int} (hd : decode g.2.1 pc = .ok (.idiv, 1)) (hx : iR x) (hy : iR y) (h0 : 0 ≤ x) (hp : 0 < y) (h : eg_E k g d bc bs n (M) ls (vI (x / y) :: st) (pc + 1) Q) : eg_E k g d bc bs n (M) ls (vI y :: vI x :: st) (pc) Q := by
  intro p e R s m args below meth c H locs cells slots sl Z C hW hz hl hL hc hs hR
  have h1 := h p e R s m args below meth c H locs cells slots sl Z C hW hz hl hL hc hs hR
  unfold vI at h1
  rw [← idiv_e hx hy h0 hp] at h1
  exact lv_idiv C.1 C.2.1 hd (i_ne0 hy hp) h1
theorem eg_ldiv {k : eg_K} {g : eg_G} {d bc bs n : Nat} {M : eg_M} {ls st : List Value} {pc : Nat} {Q : eg_Q} {x y : Int} (hd : decode g.2.1 pc = .ok (.ldiv, 1)) (hx : lR x) (hy : lR y) (h0 : 0 ≤ x) (hp : 0 < y) (h : eg_E k g d bc bs n (M) ls (vL (x / y) :: st) (pc + 1) Q) : eg_E k g d bc bs n (M) ls (vL y :: vL x :: st) (pc) Q := by
  intro p e R s m args below meth c H locs cells slots sl Z C hW hz hl hL hc hs hR
  have h1 := h p e R s m args below meth c H locs cells slots sl Z C hW hz hl hL hc hs hR
  unfold vL at h1
  rw [← ldiv_e hx hy h0 hp] at h1
  exact lv_ldiv C.1 C.2.1 hd (l_ne0 hy hp) h1
theorem eg_irem {k : eg_K} {g : eg_G} {d bc bs n : Nat} {M : eg_M} {ls st : List Value} {pc : Nat} {Q : eg_Q} {x y : Int} (hd : decode g.2.1 pc = .ok (.irem, 1)) (hx : iR x) (hy : iR y) (h0 : 0 ≤ x) (hp : 0 < y) (h : eg_E k g d bc bs n (M) ls (vI (x % y) :: st) (pc + 1) Q) : eg_E k g d bc bs n (M) ls (vI y :: vI x :: st) (pc) Q := by
  intro p e R s m args below meth c H locs cells slots sl Z C hW hz hl hL hc hs hR
  have h1 := h p e R s m args below meth c H locs cells slots sl Z C hW hz hl hL hc hs hR
  unfold vI at h1
  rw [show x % y = x - x / y * y by rw [Int.mul_comm]; exact Int.emod_def x y, Int32.ofInt_sub, Int32.ofInt_mul, ← idiv_e hx hy h0 hp] at h1
  exact lv_irem C.1 C.2.1 hd (i_ne0 hy hp) h1
theorem eg_lc_eq {k : eg_K} {g : eg_G} {d bc bs n : Nat} {M : eg_M} {ls st : List Value} {pc : Nat} {Q : eg_Q} {x y : Int} {off : Int} (tgt : Nat) (hd0 : decode g.2.1 pc = .ok (.lcmp, 1)) (hd : decode g.2.1 (pc + 1) = .ok (.ifCond .eq off, 3)) (hx : lR x) (hy : lR y) (ht : (pc : Int) + 1 + off = (tgt : Int)) (h1 : x = y → eg_E k g d bc bs n (M) ls (st) (tgt) Q) (h2 : ¬ x = y → eg_E k g d bc bs n (M) ls (st) (pc + 4) Q) : eg_E k g d bc bs n (M) ls (vL y :: vL x :: st) (pc) Q := by
  have key : eg_E k g d bc bs n M ls (vI (cmpI x y) :: st) (pc + 1) Q := by
    refine eg_if_eq tgt hd (cmpI_R x y) (by omega) (fun q => h1 ?_) (fun q => h2 ?_)
    · unfold cmpI at q; split at q <;> (try split at q) <;> omega
    · unfold cmpI at q; split at q <;> (try split at q) <;> omega
  intro p e R s m args below meth c H locs cells slots sl Z C hW hz hl hL hc hs hR
  refine W.lcmp C.1 C.2.1 hd0 ?_
  rw [lcmp_e hx hy]
  exact key p e R s m args below meth c H locs cells slots sl Z C hW hz hl hL hc hs hR
theorem eg_lc_ne {k : eg_K} {g : eg_G} {d bc bs n : Nat} {M : eg_M} {ls st : List Value} {pc : Nat} {Q : eg_Q} {x y : Int} {off : Int} (tgt : Nat) (hd0 : decode g.2.1 pc = .ok (.lcmp, 1)) (hd : decode g.2.1 (pc + 1) = .ok (.ifCond .ne off, 3)) (hx : lR x) (hy : lR y) (ht : (pc : Int) + 1 + off = (tgt : Int)) (h1 : ¬ x = y → eg_E k g d bc bs n (M) ls (st) (tgt) Q) (h2 : x = y → eg_E k g d bc bs n (M) ls (st) (pc + 4) Q) : eg_E k g d bc bs n (M) ls (vL y :: vL x :: st) (pc) Q := by
  have key : eg_E k g d bc bs n M ls (vI (cmpI x y) :: st) (pc + 1) Q := by
    refine eg_if_ne tgt hd (cmpI_R x y) (by omega) (fun q => h1 ?_) (fun q => h2 ?_)
    · unfold cmpI at q; split at q <;> (try split at q) <;> omega
    · unfold cmpI at q; split at q <;> (try split at q) <;> omega
  intro p e R s m args below meth c H locs cells slots sl Z C hW hz hl hL hc hs hR
  refine W.lcmp C.1 C.2.1 hd0 ?_
  rw [lcmp_e hx hy]
  exact key p e R s m args below meth c H locs cells slots sl Z C hW hz hl hL hc hs hR
theorem eg_lc_lt {k : eg_K} {g : eg_G} {d bc bs n : Nat} {M : eg_M} {ls st : List Value} {pc : Nat} {Q : eg_Q} {x y : Int} {off : Int} (tgt : Nat) (hd0 : decode g.2.1 pc = .ok (.lcmp, 1)) (hd : decode g.2.1 (pc + 1) = .ok (.ifCond .lt off, 3)) (hx : lR x) (hy : lR y) (ht : (pc : Int) + 1 + off = (tgt : Int)) (h1 : x < y → eg_E k g d bc bs n (M) ls (st) (tgt) Q) (h2 : y ≤ x → eg_E k g d bc bs n (M) ls (st) (pc + 4) Q) : eg_E k g d bc bs n (M) ls (vL y :: vL x :: st) (pc) Q := by
  have key : eg_E k g d bc bs n M ls (vI (cmpI x y) :: st) (pc + 1) Q := by
    refine eg_if_lt tgt hd (cmpI_R x y) (by omega) (fun q => h1 ?_) (fun q => h2 ?_)
    · unfold cmpI at q; split at q <;> (try split at q) <;> omega
    · unfold cmpI at q; split at q <;> (try split at q) <;> omega
  intro p e R s m args below meth c H locs cells slots sl Z C hW hz hl hL hc hs hR
  refine W.lcmp C.1 C.2.1 hd0 ?_
  rw [lcmp_e hx hy]
  exact key p e R s m args below meth c H locs cells slots sl Z C hW hz hl hL hc hs hR
theorem eg_lc_ge {k : eg_K} {g : eg_G} {d bc bs n : Nat} {M : eg_M} {ls st : List Value} {pc : Nat} {Q : eg_Q} {x y : Int} {off : Int} (tgt : Nat) (hd0 : decode g.2.1 pc = .ok (.lcmp, 1)) (hd : decode g.2.1 (pc + 1) = .ok (.ifCond .ge off, 3)) (hx : lR x) (hy : lR y) (ht : (pc : Int) + 1 + off = (tgt : Int)) (h1 : y ≤ x → eg_E k g d bc bs n (M) ls (st) (tgt) Q) (h2 : x < y → eg_E k g d bc bs n (M) ls (st) (pc + 4) Q) : eg_E k g d bc bs n (M) ls (vL y :: vL x :: st) (pc) Q := by
  have key : eg_E k g d bc bs n M ls (vI (cmpI x y) :: st) (pc + 1) Q := by
    refine eg_if_ge tgt hd (cmpI_R x y) (by omega) (fun q => h1 ?_) (fun q => h2 ?_)
    · unfold cmpI at q; split at q <;> (try split at q) <;> omega
    · unfold cmpI at q; split at q <;> (try split at q) <;> omega
  intro p e R s m args below meth c H locs cells slots sl Z C hW hz hl hL hc hs hR
  refine W.lcmp C.1 C.2.1 hd0 ?_
  rw [lcmp_e hx hy]
  exact key p e R s m args below meth c H locs cells slots sl Z C hW hz hl hL hc hs hR
theorem eg_lc_gt {k : eg_K} {g : eg_G} {d bc bs n : Nat} {M : eg_M} {ls st : List Value} {pc : Nat} {Q : eg_Q} {x y : Int} {off : Int} (tgt : Nat) (hd0 : decode g.2.1 pc = .ok (.lcmp, 1)) (hd : decode g.2.1 (pc + 1) = .ok (.ifCond .gt off, 3)) (hx : lR x) (hy : lR y) (ht : (pc : Int) + 1 + off = (tgt : Int)) (h1 : y < x → eg_E k g d bc bs n (M) ls (st) (tgt) Q) (h2 : x ≤ y → eg_E k g d bc bs n (M) ls (st) (pc + 4) Q) : eg_E k g d bc bs n (M) ls (vL y :: vL x :: st) (pc) Q := by
  have key : eg_E k g d bc bs n M ls (vI (cmpI x y) :: st) (pc + 1) Q := by
    refine eg_if_gt tgt hd (cmpI_R x y) (by omega) (fun q => h1 ?_) (fun q => h2 ?_)
    · unfold cmpI at q; split at q <;> (try split at q) <;> omega
    · unfold cmpI at q; split at q <;> (try split at q) <;> omega
  intro p e R s m args below meth c H locs cells slots sl Z C hW hz hl hL hc hs hR
  refine W.lcmp C.1 C.2.1 hd0 ?_
  rw [lcmp_e hx hy]
  exact key p e R s m args below meth c H locs cells slots sl Z C hW hz hl hL hc hs hR
theorem eg_lc_le {k : eg_K} {g : eg_G} {d bc bs n : Nat} {M : eg_M} {ls st : List Value} {pc : Nat} {Q : eg_Q} {x y : Int} {off : Int} (tgt : Nat) (hd0 : decode g.2.1 pc = .ok (.lcmp, 1)) (hd : decode g.2.1 (pc + 1) = .ok (.ifCond .le off, 3)) (hx : lR x) (hy : lR y) (ht : (pc : Int) + 1 + off = (tgt : Int)) (h1 : x ≤ y → eg_E k g d bc bs n (M) ls (st) (tgt) Q) (h2 : y < x → eg_E k g d bc bs n (M) ls (st) (pc + 4) Q) : eg_E k g d bc bs n (M) ls (vL y :: vL x :: st) (pc) Q := by
  have key : eg_E k g d bc bs n M ls (vI (cmpI x y) :: st) (pc + 1) Q := by
    refine eg_if_le tgt hd (cmpI_R x y) (by omega) (fun q => h1 ?_) (fun q => h2 ?_)
    · unfold cmpI at q; split at q <;> (try split at q) <;> omega
    · unfold cmpI at q; split at q <;> (try split at q) <;> omega
  intro p e R s m args below meth c H locs cells slots sl Z C hW hz hl hL hc hs hR
  refine W.lcmp C.1 C.2.1 hd0 ?_
  rw [lcmp_e hx hy]
  exact key p e R s m args below meth c H locs cells slots sl Z C hW hz hl hL hc hs hR
theorem eg_tbI {k : eg_K} {g : eg_G} {d bc bs n : Nat} {M : eg_M} {ls st : List Value} {pc : Nat} {Q : eg_Q} {x dflt lo hi off : Int} {offs : Array Int} {len : Nat} (tgt : Nat) (hd : decode g.2.1 pc = .ok (.tableswitch dflt lo hi offs, len)) (hx : iR x) (h1 : lo ≤ x) (h2 : x ≤ hi) (ho : offs[(x - lo).toNat]? = some off) (ht : (pc : Int) + off = (tgt : Int)) (h : eg_E k g d bc bs n (M) ls (st) (tgt) Q) : eg_E k g d bc bs n (M) ls (vI x :: st) (pc) Q := by
  intro p e R s m args below meth c H locs cells slots sl Z C hW hz hl hL hc hs hR
  have e1 := i_to hx
  exact lv_tableIn C.1 C.2.1 hd (by rw [e1]; omega) (by rw [e1]; omega) (by rw [e1]; exact ho) ht (h p e R s m args below meth c H locs cells slots sl Z C hW hz hl hL hc hs hR)
theorem eg_tbO {k : eg_K} {g : eg_G} {d bc bs n : Nat} {M : eg_M} {ls st : List Value} {pc : Nat} {Q : eg_Q} {x dflt lo hi : Int} {offs : Array Int} {len : Nat} (tgt : Nat) (hd : decode g.2.1 pc = .ok (.tableswitch dflt lo hi offs, len)) (hx : iR x) (h1 : x < lo ∨ hi < x) (ht : (pc : Int) + dflt = (tgt : Int)) (h : eg_E k g d bc bs n (M) ls (st) (tgt) Q) : eg_E k g d bc bs n (M) ls (vI x :: st) (pc) Q := by
  intro p e R s m args below meth c H locs cells slots sl Z C hW hz hl hL hc hs hR
  have e1 := i_to hx
  exact lv_tableOut C.1 C.2.1 hd (by rw [e1]; exact h1) ht (h p e R s m args below meth c H locs cells slots sl Z C hW hz hl hL hc hs hR)
theorem eg_ldc {k : eg_K} {g : eg_G} {d bc bs n : Nat} {M : eg_M} {ls st : List Value} {pc : Nat} {Q : eg_Q} {x : Int} {idx : Nat} (hw : Cond.constant g.1.cls idx (Int32.ofInt x) ∈ eg_T) (hd : decode g.2.1 pc = .ok (.ldc idx, 2)) (h : eg_E k g d bc bs n (M) ls (vI x :: st) (pc + 2) Q) : eg_E k g d bc bs n (M) ls (st) (pc) Q := by
  intro p e R s m args below meth c H locs cells slots sl Z C hW hz hl hL hc hs hR
  exact lv_ldc C.1 C.2.1 C.2.2.2.2.1 (C.2.2.2.2.2.1 _ hw) hd (h p e R s m args below meth c H locs cells slots sl Z C hW hz hl hL hc hs hR)
theorem eg_ldc2 {k : eg_K} {g : eg_G} {d bc bs n : Nat} {M : eg_M} {ls st : List Value} {pc : Nat} {Q : eg_Q} {x : Int} {idx : Nat} (hw : Cond.constantLong g.1.cls idx (Int64.ofInt x) ∈ eg_T) (hd : decode g.2.1 pc = .ok (.ldc2_w idx, 3)) (h : eg_E k g d bc bs n (M) ls (vL x :: st) (pc + 3) Q) : eg_E k g d bc bs n (M) ls (st) (pc) Q := by
  intro p e R s m args below meth c H locs cells slots sl Z C hW hz hl hL hc hs hR
  exact lv_ldc2 C.1 C.2.1 C.2.2.2.2.1 (C.2.2.2.2.2.1 _ hw) hd (h p e R s m args below meth c H locs cells slots sl Z C hW hz hl hL hc hs hR)
def vS (k : eg_K) (i : Nat) : Value := .ref (eg_sK k i)
theorem eg_ldcS {k : eg_K} {g : eg_G} {d bc bs n : Nat} {M : eg_M} {ls st : List Value} {pc : Nat} {Q : eg_Q} {i idx : Nat} {tx : String} (hi : eg_lit[i]? = some (g.1.cls, idx, tx)) (hd : decode g.2.1 pc = .ok (.ldc idx, 2)) (h : eg_E k g d bc bs n (M) ls (vS k i :: st) (pc + 2) Q) : eg_E k g d bc bs n (M) ls (st) (pc) Q := by
  intro p e R s m args below meth c H locs cells slots sl Z C hW hz hl hL hc hs hR
  have h35 : i < 35 := (List.getElem?_eq_some_iff.mp hi).1
  exact va_ldcS C.1 C.2.1 C.2.2.2.2.1 ((C.2.2.2.2.2.2.1.2.2.1 i h35).2.2.2.2 _ hi) hd (h p e R s m args below meth c H locs cells slots sl Z C hW hz hl hL hc hs hR)
/-- a class whose objects are made -/
def eg_nw (own : String) (idx ci : Nat) (fs : List Value) : Prop := ∃ (C : String) (T : u_T) (N : Nat) (ty : Nat → FieldType), eg_cl ci C T N ty ∧ Cond.classLink own idx C ∈ eg_T ∧ Cond.instantiable C N ∈ eg_T ∧ Cond.initialized C ∈ eg_T ∧ fs.length = N ∧ (∀ j, j < N → defaultValue (ty j) = vp_V fs j)
theorem eg_new {k : eg_K} {g : eg_G} {d bc bs n : Nat} {M : eg_M} {ls st : List Value} {pc : Nat} {Q : eg_Q} {idx ci bc' bs' : Nat} {fs : List Value} (hf : eg_nw g.1.cls idx ci fs) (hd : decode g.2.1 pc = .ok (.new idx, 3)) (hbc : bc = 1 + bc') (hbs : bs = fs.length + bs') (h : eg_E k g d bc' bs' (n + 1) (va_up M n (some (oO ci fs))) ls (vR k n :: st) (pc + 3) Q) : eg_E k g d bc bs n (M) ls (st) (pc) Q := by
  intro p e R s m args below meth c H locs cells slots sl Z C hW hz hl hL hc hs hR
  obtain ⟨CC, T, N, ty, ⟨h1, h2, h3, h4⟩, w1, w2, w3, hN, hdf⟩ := hf
  subst hbc; subst hbs; subst hN
  have hts := C.2.2.2.2.2.1
  have hK := C.2.2.2.2.2.2.1.1
  have hKn := hK.1 ci _ h1
  refine W.newcK C.1 C.2.1 C.2.2.2.2.1 (hts _ w1) (hts _ w2) (hts _ w3) rfl hd (by omega) (by omega) hKn.2.1 rfl fun H1 kC hkC e1 z1 o1 => ?_
  have e9 : H.size = eg_B k + n := hW.1
  have e8 : Value.ref H.size = vR k n := by unfold vR; rw [e9]
  show W p (eg_l k) e R s m args below meth c H1 locs (cells + 1) (slots + fs.length) Z (F0 m (pc + 3) sl (Value.ref H.size :: st))
  rw [e8]
  have e5 : cells + (1 + bc') = cells + 1 + bc' := by omega
  have e6 : slots + (fs.length + bs') = slots + fs.length + bs' := by omega
  rw [e5] at hc
  rw [e6] at hs
  rw [e5, e6] at hR
  exact h p e R s m args below meth c H1 locs (cells + 1) (slots + fs.length) sl Z C (hW.push z1 o1 ⟨_, h1, by rw [← e9]; exact (u_born ty hts h2 hKn hkC e1 h3).to hdf⟩) (by omega) hl hL hc hs hR
theorem eg_nwI {k : eg_K} {g : eg_G} {d bc bs n : Nat} {M : eg_M} {ls st : List Value} {pc : Nat} {Q : eg_Q} {N bc' bs' : Nat} {x : Int} (hw : Cond.arrayClass .int ∈ eg_T) (hd : decode g.2.1 pc = .ok (.newarray .int, 2)) (hx : x = (N : Int)) (hN : N ≤ 65536) (hbc : bc = 1 + bc') (hbs : bs = N + bs') (h : eg_E k g d bc' bs' (n + 1) (va_up M n (some (aI k N (fun _ => 0)))) ls (vR k n :: st) (pc + 2) Q) : eg_E k g d bc bs n (M) ls (vI x :: st) (pc) Q := by
  intro p e R s m args below meth c H locs cells slots sl Z C hW hz hl hL hc hs hR
  subst hbc; subst hbs; subst hx
  have hts := C.2.2.2.2.2.1
  have hK := C.2.2.2.2.2.2.1.1
  have e9 : H.size = eg_B k + n := hW.1
  have e8 : Value.ref H.size = vR k n := by unfold vR; rw [e9]
  have e7 : (Int32.ofInt (N : Int)).toNatClampNeg = N := by
    show (Int32.ofInt (N : Int)).toInt.toNat = N
    rw [i_to ⟨by omega, by omega⟩]
    omega
  refine va_newaK (atype := .int) C.1 C.2.1 (hts _ hw) rfl hd rfl (fun q => by
    rw [show (0 : Int32) = Int32.ofInt 0 from rfl, i_lt ⟨by omega, by omega⟩ iR0] at q
    omega) e7 (by show N * 4 ≤ _; omega) (by omega) (by omega) rfl fun H1 cA e1 z1 o1 hAr hNm => ?_
  have hcA : cA = eg_A k 0 := by
    have h7 := (hK.2 0 _ rfl).2
    exact Option.some.inj (hNm.symm.trans h7)
  subst hcA
  show W p (eg_l k) e R s m args below meth c H1 locs (cells + 1) (slots + N) Z (F0 m (pc + 2) sl (Value.ref H.size :: st))
  rw [e8]
  have e5 : cells + (1 + bc') = cells + 1 + bc' := by omega
  have e6 : slots + (N + bs') = slots + N + bs' := by omega
  rw [e5] at hc
  rw [e6] at hs
  rw [e5, e6] at hR
  exact h p e R s m args below meth c H1 locs (cells + 1) (slots + N) sl Z C (hW.push z1 o1 (at_aI.mpr (by rw [← e9]; exact e1))) (by omega) hl hL hc hs hR
theorem eg_nwL {k : eg_K} {g : eg_G} {d bc bs n : Nat} {M : eg_M} {ls st : List Value} {pc : Nat} {Q : eg_Q} {N bc' bs' : Nat} {x : Int} (hw : Cond.arrayClass .long ∈ eg_T) (hd : decode g.2.1 pc = .ok (.newarray .long, 2)) (hx : x = (N : Int)) (hN : N ≤ 65536) (hbc : bc = 1 + bc') (hbs : bs = N + bs') (h : eg_E k g d bc' bs' (n + 1) (va_up M n (some (aL k N (fun _ => 0)))) ls (vR k n :: st) (pc + 2) Q) : eg_E k g d bc bs n (M) ls (vI x :: st) (pc) Q := by
  intro p e R s m args below meth c H locs cells slots sl Z C hW hz hl hL hc hs hR
  subst hbc; subst hbs; subst hx
  have hts := C.2.2.2.2.2.1
  have hK := C.2.2.2.2.2.2.1.1
  have e9 : H.size = eg_B k + n := hW.1
  have e8 : Value.ref H.size = vR k n := by unfold vR; rw [e9]
  have e7 : (Int32.ofInt (N : Int)).toNatClampNeg = N := by
    show (Int32.ofInt (N : Int)).toInt.toNat = N
    rw [i_to ⟨by omega, by omega⟩]
    omega
  refine va_newaK (atype := .long) C.1 C.2.1 (hts _ hw) rfl hd rfl (fun q => by
    rw [show (0 : Int32) = Int32.ofInt 0 from rfl, i_lt ⟨by omega, by omega⟩ iR0] at q
    omega) e7 (by show N * 8 ≤ _; omega) (by omega) (by omega) rfl fun H1 cA e1 z1 o1 hAr hNm => ?_
  have hcA : cA = eg_A k 1 := by
    have h7 := (hK.2 1 _ rfl).2
    exact Option.some.inj (hNm.symm.trans h7)
  subst hcA
  show W p (eg_l k) e R s m args below meth c H1 locs (cells + 1) (slots + N) Z (F0 m (pc + 2) sl (Value.ref H.size :: st))
  rw [e8]
  have e5 : cells + (1 + bc') = cells + 1 + bc' := by omega
  have e6 : slots + (N + bs') = slots + N + bs' := by omega
  rw [e5] at hc
  rw [e6] at hs
  rw [e5, e6] at hR
  exact h p e R s m args below meth c H1 locs (cells + 1) (slots + N) sl Z C (hW.push z1 o1 (at_aL.mpr (by rw [← e9]; exact e1))) (by omega) hl hL hc hs hR
theorem eg_nwB {k : eg_K} {g : eg_G} {d bc bs n : Nat} {M : eg_M} {ls st : List Value} {pc : Nat} {Q : eg_Q} {N bc' bs' : Nat} {x : Int} (hw : Cond.arrayClass .byte ∈ eg_T) (hd : decode g.2.1 pc = .ok (.newarray .byte, 2)) (hx : x = (N : Int)) (hN : N ≤ 65536) (hbc : bc = 1 + bc') (hbs : bs = N + bs') (h : eg_E k g d bc' bs' (n + 1) (va_up M n (some (aB k N (fun _ => 0)))) ls (vR k n :: st) (pc + 2) Q) : eg_E k g d bc bs n (M) ls (vI x :: st) (pc) Q := by
  intro p e R s m args below meth c H locs cells slots sl Z C hW hz hl hL hc hs hR
  subst hbc; subst hbs; subst hx
  have hts := C.2.2.2.2.2.1
  have hK := C.2.2.2.2.2.2.1.1
  have e9 : H.size = eg_B k + n := hW.1
  have e8 : Value.ref H.size = vR k n := by unfold vR; rw [e9]
  have e7 : (Int32.ofInt (N : Int)).toNatClampNeg = N := by
    show (Int32.ofInt (N : Int)).toInt.toNat = N
    rw [i_to ⟨by omega, by omega⟩]
    omega
  refine va_newaK (atype := .byte) C.1 C.2.1 (hts _ hw) rfl hd rfl (fun q => by
    rw [show (0 : Int32) = Int32.ofInt 0 from rfl, i_lt ⟨by omega, by omega⟩ iR0] at q
    omega) e7 (by show N * 1 ≤ _; omega) (by omega) (by omega) rfl fun H1 cA e1 z1 o1 hAr hNm => ?_
  have hcA : cA = eg_A k 2 := by
    have h7 := (hK.2 2 _ rfl).2
    exact Option.some.inj (hNm.symm.trans h7)
  subst hcA
  show W p (eg_l k) e R s m args below meth c H1 locs (cells + 1) (slots + N) Z (F0 m (pc + 2) sl (Value.ref H.size :: st))
  rw [e8]
  have e5 : cells + (1 + bc') = cells + 1 + bc' := by omega
  have e6 : slots + (N + bs') = slots + N + bs' := by omega
  rw [e5] at hc
  rw [e6] at hs
  rw [e5, e6] at hR
  exact h p e R s m args below meth c H1 locs (cells + 1) (slots + N) sl Z C (hW.push z1 o1 (at_aB.mpr (by rw [← e9]; exact e1))) (by omega) hl hL hc hs hR
theorem eg_nwZ {k : eg_K} {g : eg_G} {d bc bs n : Nat} {M : eg_M} {ls st : List Value} {pc : Nat} {Q : eg_Q} {N bc' bs' : Nat} {x : Int} (hw : Cond.arrayClass .boolean ∈ eg_T) (hd : decode g.2.1 pc = .ok (.newarray .boolean, 2)) (hx : x = (N : Int)) (hN : N ≤ 65536) (hbc : bc = 1 + bc') (hbs : bs = N + bs') (h : eg_E k g d bc' bs' (n + 1) (va_up M n (some (aZ k N (fun _ => 0)))) ls (vR k n :: st) (pc + 2) Q) : eg_E k g d bc bs n (M) ls (vI x :: st) (pc) Q := by
  intro p e R s m args below meth c H locs cells slots sl Z C hW hz hl hL hc hs hR
  subst hbc; subst hbs; subst hx
  have hts := C.2.2.2.2.2.1
  have hK := C.2.2.2.2.2.2.1.1
  have e9 : H.size = eg_B k + n := hW.1
  have e8 : Value.ref H.size = vR k n := by unfold vR; rw [e9]
  have e7 : (Int32.ofInt (N : Int)).toNatClampNeg = N := by
    show (Int32.ofInt (N : Int)).toInt.toNat = N
    rw [i_to ⟨by omega, by omega⟩]
    omega
  refine va_newaK (atype := .boolean) C.1 C.2.1 (hts _ hw) rfl hd rfl (fun q => by
    rw [show (0 : Int32) = Int32.ofInt 0 from rfl, i_lt ⟨by omega, by omega⟩ iR0] at q
    omega) e7 (by show N * 1 ≤ _; omega) (by omega) (by omega) rfl fun H1 cA e1 z1 o1 hAr hNm => ?_
  have hcA : cA = eg_A k 3 := by
    have h7 := (hK.2 3 _ rfl).2
    exact Option.some.inj (hNm.symm.trans h7)
  subst hcA
  show W p (eg_l k) e R s m args below meth c H1 locs (cells + 1) (slots + N) Z (F0 m (pc + 2) sl (Value.ref H.size :: st))
  rw [e8]
  have e5 : cells + (1 + bc') = cells + 1 + bc' := by omega
  have e6 : slots + (N + bs') = slots + N + bs' := by omega
  rw [e5] at hc
  rw [e6] at hs
  rw [e5, e6] at hR
  exact h p e R s m args below meth c H1 locs (cells + 1) (slots + N) sl Z C (hW.push z1 o1 (at_aZ.mpr (by rw [← e9]; exact e1))) (by omega) hl hL hc hs hR
theorem eg_nwP {k : eg_K} {g : eg_G} {d bc bs n : Nat} {M : eg_M} {ls st : List Value} {pc : Nat} {Q : eg_Q} {N idx bc' bs' : Nat} {x : Int} (hw : Cond.classLink g.1.cls idx "GasNominations$Pipe" ∈ eg_T) (hd : decode g.2.1 pc = .ok (.anewarray idx, 3)) (hx : x = (N : Int)) (hN : N ≤ 65536) (hbc : bc = 1 + bc') (hbs : bs = N + bs') (h : eg_E k g d bc' bs' (n + 1) (va_up M n (some (aP k N (fun _ => none)))) ls (vR k n :: st) (pc + 3) Q) : eg_E k g d bc bs n (M) ls (vI x :: st) (pc) Q := by
  intro p e R s m args below meth c H locs cells slots sl Z C hW hz hl hL hc hs hR
  subst hbc; subst hbs; subst hx
  have hts := C.2.2.2.2.2.1
  have hK := C.2.2.2.2.2.2.1.1
  have e9 : H.size = eg_B k + n := hW.1
  have e8 : Value.ref H.size = vR k n := by unfold vR; rw [e9]
  have e7 : (Int32.ofInt (N : Int)).toNatClampNeg = N := by
    show (Int32.ofInt (N : Int)).toInt.toNat = N
    rw [i_to ⟨by omega, by omega⟩]
    omega
  refine W.anew C.1 C.2.1 C.2.2.2.2.1 (hts _ hw) (va_AO.use C.2.2.2.2.2.2.1.2.2.2.2) rfl hd rfl (fun q => by
    rw [show (0 : Int32) = Int32.ofInt 0 from rfl, i_lt ⟨by omega, by omega⟩ iR0] at q
    omega) (by rw [e7]; omega) (by omega) (by rw [e7]; omega) fun cA kA comp f1 f2 f3 f4 => ?_
  rw [e7]
  generalize hH1 : H.push ({ cls := cA, slots := Array.replicate N .null, vm := .none } : Cell) = H1
  have z1 : H1.size = H.size + 1 := by rw [← hH1, Array.size_push]
  have e1 : H1[H.size]? = some (arrV cA N (fun _ => .null)) := by rw [← hH1, Array.getElem?_push_size, ← arrV_new]
  have o1 : ∀ q : Nat, q < H.size → H1[q]? = H[q]? := fun q hq => by rw [← hH1, Array.getElem?_push, if_neg (Nat.ne_of_lt hq)]
  have hcA : cA = eg_A k 4 := by
    obtain ⟨_, _, _, _, _, h7⟩ := (hK.2 4 _ rfl).2
    exact Option.some.inj (f1.symm.trans h7)
  subst hcA
  show W p (eg_l k) e R s m args below meth c H1 locs (cells + 1) (slots + N) Z (F0 m (pc + 3) sl (Value.ref H.size :: st))
  rw [e8]
  have e5 : cells + (1 + bc') = cells + 1 + bc' := by omega
  have e6 : slots + (N + bs') = slots + N + bs' := by omega
  rw [e5] at hc
  rw [e6] at hs
  rw [e5, e6] at hR
  exact h p e R s m args below meth c H1 locs (cells + 1) (slots + N) sl Z C (hW.push z1 o1 (show H1[eg_B k + n]? = _ by rw [← e9]; exact e1)) (by omega) hl hL hc hs hR
theorem eg_aast {k : eg_K} {g : eg_G} {d bc bs n : Nat} {M : eg_M} {ls st : List Value} {pc : Nat} {Q : eg_Q} {i len j : Nat} {f : Nat → Option Nat} {x : Int} {fs : List Value} (hd : decode g.2.1 pc = .ok (.aastore, 1)) (hM : M i = some (aP k len f)) (h0 : 0 ≤ x) (h1 : x < len) (h2 : len ≤ 65536) (hj : M j = some (oO 3 fs)) (h : eg_E k g d bc bs n (va_up M i (some (aP k len (va_up f x.toNat (some j))))) ls (st) (pc + 1) Q) : eg_E k g d bc bs n (M) ls (vR k j :: vI x :: vR k i :: st) (pc) Q := by
  intro p e R s m args below meth c H locs cells slots sl Z C hW hz hl hL hc hs hR
  have hK := C.2.2.2.2.2.2.1.1
  obtain ⟨r', hr', cellV, g1, g2, g3, -⟩ := hW.2.2 j _ hj
  have hcls := (hK.1 3 _ rfl).2
  obtain ⟨kA, comp, k1, k2, k3, -⟩ := (hK.2 4 _ rfl).2
  have hcomp : comp = (eg_D k).1 3 := Option.some.inj (k3.symm.trans hcls.1)
  subst hcomp
  obtain ⟨kC, hkC, -⟩ := hcls.2
  have hin := i_in h0 h1 h2
  refine W.aast C.1 C.2.1 (hW.2.2 i _ hM) (fun q h => by cases h) (fun h => by cases h) k1 k2 rfl hkC ⟨fun q => hin (Or.inl q), by show _ < (arrV _ _ _).slots.size; rw [arrV_size]; exact Nat.not_le.mp fun q => hin (Or.inr q)⟩ g1 (fun q h => by rw [g3] at h; cases h) (by rw [g2]; exact hkC) (by rw [g2]; exact va_assign hcls) rfl rfl hd fun H1 e1 e2 e3 => ?_
  refine h p e R s m args below meth c H1 _ cells slots sl Z C (hW.set e2 e3 ?_) (by rw [e2]; exact hz) (eg_lc hl) hL hc hs hR
  show H1[eg_B k + i]? = some (arrV (eg_A k 4) len (fun q => va_rf ((va_up f x.toNat (some j) q).map (fun i => eg_B k + i))))
  refine e1.trans ?_
  show some ((arrV (eg_A k 4) len (fun q => va_rf ((f q).map (fun i => eg_B k + i)))).setSlot _ _) = _
  rw [arrV_store, i_nat h0 h1 h2]
  congr 2
  funext q
  by_cases hq : q = x.toNat
  · subst hq; simp [updV, va_up, va_rf]
  · simp [updV, va_up, hq]
theorem eg_oI {k : eg_K} {g : eg_G} {d bc bs n : Nat} {M : eg_M} {ls st : List Value} {pc : Nat} {Q : eg_Q} {idx : Nat} {i : Nat} (hw : Cond.methodLink g.1.cls idx objectInit ∈ eg_T ∧ Cond.instanceMethod objectInit ∈ eg_T ∧ Cond.code objectInit ⟨#[0xb1]⟩ 1 none ∈ eg_T) (hd : decode g.2.1 pc = .ok (.invokespecial idx, 3)) (hst : (st.map fun v => v.category).sum ≤ 8) (hdd : 1 ≤ d) (h : eg_E k g d bc bs n (M) ls (st) (pc + 3) Q) : eg_E k g d bc bs n (M) ls (vR k i :: st) (pc) Q := by
  intro p e R s m args below meth c H locs cells slots sl Z C hW hz hl hL hc hs hR
  have hts := C.2.2.2.2.2.1
  have h1 := C.2.2.2.2.2.2.2.2.1
  have h2 := C.2.2.2.2.2.2.2.2.2
  exact W.objInit C.1 C.2.1 C.2.2.2.2.1 (hts _ hw.1) (hts _ hw.2.1) (hts _ hw.2.2) rfl (by rw [hL.2.1]; exact C.2.2.1.symm) rfl hd (by omega) (by have := lv_room (m := m) (pc := pc) (ls := sl) (rest := vR k i :: st) hst; show 2 * 0 + _ + 12 ≤ _; omega) (h p e R s m args below meth c H locs cells slots sl Z C hW hz hl hL hc hs hR)
