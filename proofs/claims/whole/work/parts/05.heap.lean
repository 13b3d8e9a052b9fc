def eg_cl (ci : Nat) (C : String) (T : u_T) (N : Nat) (ty : Nat → FieldType) : Prop := vwCl[ci]? = some (C, T, N) ∧ (∀ w ∈ u_ws C T N, w ∈ eg_T) ∧ (∀ k, k < N → parseFieldDescriptor (T k).2.2.1 = some (ty k)) ∧ (∀ a, a < N → ∀ b, b < N → a ≠ b → (T a).2.1 ≠ (T b).2.1)
/-- a field as a class's pool entry names it -/
def eg_fl (own : String) (idx ci j : Nat) (fin : Bool) (t : FieldType) : Prop := ∃ (C : String) (T : u_T) (N : Nat) (ty : Nat → FieldType), eg_cl ci C T N ty ∧ j < N ∧ Cond.fieldLink own idx (T j).1 (T j).2.1 (T j).2.2.1 ∈ eg_T ∧ (T j).2.2.2 = fin ∧ ty j = t
/-- a final field of the class's own -/
def eg_fF (own : String) (idx ci j : Nat) (t : FieldType) : Prop := ∃ (C : String) (T : u_T) (N : Nat) (ty : Nat → FieldType), eg_cl ci C T N ty ∧ j < N ∧ Cond.fieldLink own idx (T j).1 (T j).2.1 (T j).2.2.1 ∈ eg_T ∧ (T j).2.2.2 = true ∧ ty j = t ∧ (T j).1 = own
theorem eg_W.one {k : eg_K} {n : Nat} {M : eg_M} {H : Heap} {i : Nat} {e : va_E} (h : eg_W k n M H) (hM : M i = some e) : va_P (eg_D k) vwCl [(eg_B k + i, e)] H := by
  intro j q hq
  match j, hq with
  | 0, hq => cases hq; exact h.2.2 i e hM
  | j + 1, hq => simp at hq
theorem eg_lc {k : eg_K} {locs : List Loc} {i f : Nat} (h : ∀ q ∈ locs, eg_B k ≤ q.base) : ∀ q ∈ locs ++ [(⟨eg_B k + i, f⟩ : Loc)], eg_B k ≤ q.base := by
  intro q hq
  rcases List.mem_append.mp hq with h1 | h1
  · exact h q h1
  · rw [List.mem_singleton.mp h1]; exact Nat.le_add_right _ _
theorem i_nat {x : Int} {N : Nat} (h0 : 0 ≤ x) (h1 : x < N) (hN : N ≤ 65536) : (Int32.ofInt x).toNatClampNeg = x.toNat := by
  show (Int32.ofInt x).toInt.toNat = _
  rw [i_to ⟨by omega, by omega⟩]
theorem i_in {x : Int} {N : Nat} (h0 : 0 ≤ x) (h1 : x < N) (hN : N ≤ 65536) : vp_in (Int32.ofInt x) N := vp_in_iff.mpr (by rw [i_to ⟨by omega, by omega⟩]; exact ⟨h0, h1⟩)
def eg_isr : Value → Bool
  | .ref _ => true
  | _ => false
theorem eg_al_n {k : eg_K} {g : eg_G} {d bc bs n : Nat} {M : eg_M} {ls st : List Value} {pc : Nat} {Q : eg_Q} {i : Fin 4} {v : Value} (hd : decode g.2.1 pc = .ok (.aload_n i, 1)) (hx : ls[(i : Nat)]? = some v) (hr : eg_isr v = true) (h : eg_E k g d bc bs n (M) ls (v :: st) (pc + 1) Q) : eg_E k g d bc bs n (M) ls (st) (pc) Q := by
  cases v with
  | ref a => exact eg_aload_n hd hx h
  | _ => cases hr
theorem eg_al {k : eg_K} {g : eg_G} {d bc bs n : Nat} {M : eg_M} {ls st : List Value} {pc : Nat} {Q : eg_Q} {i : Nat} {v : Value} (hd : decode g.2.1 pc = .ok (.aload i, 2)) (hx : ls[i]? = some v) (hr : eg_isr v = true) (h : eg_E k g d bc bs n (M) ls (v :: st) (pc + 2) Q) : eg_E k g d bc bs n (M) ls (st) (pc) Q := by
  cases v with
  | ref a => exact eg_aload hd hx h
  | _ => cases hr
theorem eg_as_n {k : eg_K} {g : eg_G} {d bc bs n : Nat} {M : eg_M} {ls st : List Value} {pc : Nat} {Q : eg_Q} {i : Fin 4} {v : Value} (hd : decode g.2.1 pc = .ok (.astore_n i, 1)) (hr : eg_isr v = true) (hi : decide ((i : Nat) < ls.length) = true) (hk : eg_k1 ls (i : Nat) = true) {ls' : List Value} (hx : ls.set (i : Nat) v = ls') (h : eg_E k g d bc bs n (M) ls' (st) (pc + 1) Q) : eg_E k g d bc bs n (M) ls (v :: st) (pc) Q := by
  cases v with
  | ref a => exact eg_astore_n hd hi hk hx h
  | _ => cases hr
theorem eg_as {k : eg_K} {g : eg_G} {d bc bs n : Nat} {M : eg_M} {ls st : List Value} {pc : Nat} {Q : eg_Q} {i : Nat} {v : Value} (hd : decode g.2.1 pc = .ok (.astore i, 2)) (hr : eg_isr v = true) (hi : decide (i < ls.length) = true) (hk : eg_k1 ls i = true) {ls' : List Value} (hx : ls.set i v = ls') (h : eg_E k g d bc bs n (M) ls' (st) (pc + 2) Q) : eg_E k g d bc bs n (M) ls (v :: st) (pc) Q := by
  cases v with
  | ref a => exact eg_astore hd hi hk hx h
  | _ => cases hr
theorem eg_aret {k : eg_K} {g : eg_G} {d bc bs n : Nat} {M : eg_M} {ls : List Value} {pc : Nat} {Q : eg_Q} {v : Value} {nm : FieldType} (hd : decode g.2.1 pc = .ok (.areturn, 1)) (hr : eg_isr v = true) (ht : g.2.2.2 = some nm) (hnm : (∃ n, nm = .object n) ∨ ∃ t, nm = .array t) (h : Q (some v) n M) : eg_E k g d bc bs n (M) ls ([v]) (pc) Q := by
  cases v with
  | ref a => exact eg_areturn hd ht hnm h
  | _ => cases hr
theorem eg_get {k : eg_K} {g : eg_G} {d bc bs n : Nat} {M : eg_M} {ls st : List Value} {pc : Nat} {Q : eg_Q} {idx i ci j : Nat} {fin : Bool} {t : FieldType} {fs : List Value} {v : Value} (hf : eg_fl g.1.cls idx ci j fin t) (hd : decode g.2.1 pc = .ok (.getfield idx, 3)) (hM : M i = some (oO ci fs)) (hv : fs[j]? = some v) (h : eg_E k g d bc bs n (M) ls (v :: st) (pc + 3) Q) : eg_E k g d bc bs n (M) ls (vR k i :: st) (pc) Q := by
  intro p e R s m args below meth c H locs cells slots sl Z C hW hz hl hL hc hs hR
  obtain ⟨CC, T, N, ty, ⟨h1, h2, -, -⟩, hj, hl2, -⟩ := hf
  exact va_get C.1 C.2.1 C.2.2.2.2.2.1 h2 C.2.2.2.2.1 C.2.2.2.2.2.2.1.1 (hW.one hM) 0 rfl h1 j hj (C.2.2.2.2.2.1 _ hl2) (fun x hx => hx) hv hd (h p e R s m args below meth c H locs cells slots sl Z C hW hz hl hL hc hs hR)
theorem eg_put {k : eg_K} {g : eg_G} {d bc bs n : Nat} {M : eg_M} {ls st : List Value} {pc : Nat} {Q : eg_Q} {idx i ci j : Nat} {t : FieldType} {fs : List Value} {v : Value} (hf : eg_fl g.1.cls idx ci j false t) (hd : decode g.2.1 pc = .ok (.putfield idx, 3)) (hM : M i = some (oO ci fs)) (hn : narrow t v = v) (hft : fits t v = true) (hlt : decide (j < fs.length) = true) {fs' : List Value} (hs' : fs.set j v = fs') (h : eg_E k g d bc bs n (va_up M i (some (oO ci fs'))) ls (st) (pc + 3) Q) : eg_E k g d bc bs n (M) ls (v :: vR k i :: st) (pc) Q := by
  intro p e R s m args below meth c H locs cells slots sl Z C hW hz hl hL hc hs hR
  obtain ⟨CC, T, N, ty, ⟨h1, h2, h3, h4⟩, hj, hl2, hfin, rfl⟩ := hf
  have hlt := of_decide_eq_true hlt
  subst hs'
  have hts := C.2.2.2.2.2.1
  have hK := C.2.2.2.2.2.2.1.1
  have hap := va_apart (own := g.1.cls) hts h2 ty h3 h4 hK h1
  obtain ⟨r, q0, cell, q1, q2, q3, q4⟩ := hW.2.2 i _ hM
  have hr : r = (CC, T, N) := Option.some.inj (q0.symm.trans h1)
  subst hr
  obtain ⟨hS, hfc, kC, hkC, hkind⟩ := hK.1 ci _ h1
  obtain ⟨cf, kf, fi, f, hi, hsl⟩ := hS j hj
  have hlay := hts _ (h2 _ (u_in_lay hj))
  unfold u_lay at hlay
  rw [if_neg (by rw [hfin]; decide)] at hlay
  have hst := (u_facts hfc hkC (u_lays hts h2 hj) hi).1
  have h6 := u_store hfc hkC hkind hlay hi (h3 j hj) hn hft
  refine W.putK C.1 C.2.1 (f := f) ⟨C.2.2.2.2.1, hts _ hl2, ⟨_, _, _, hi⟩, hst⟩ (by rw [q2]; exact h6) q1 q3 (by rw [hsl]; exact k2_hasslot (q4 j hj)) rfl rfl hd fun H' e1 e2 e3 => ?_
  rw [hsl] at e1
  exact h p e R s m args below meth c H' _ cells slots sl Z C (hW.set e2 e3 ⟨_, h1, t_OB.to (V := updV (vp_V fs) j v) ⟨_, e1, q2, q3, t_set q4 hap hj v⟩ (fun x _ => vp_updV_set hlt v x)⟩) (by rw [e2]; exact hz) (eg_lc hl) hL hc hs hR
theorem eg_putF {k : eg_K} {g : eg_G} {d bc bs n : Nat} {M : eg_M} {ls st : List Value} {pc : Nat} {Q : eg_Q} {idx i ci j : Nat} {t : FieldType} {fs : List Value} {v : Value} (hf : eg_fF g.1.cls idx ci j t) (hin : g.1.name = "<init>") (hd : decode g.2.1 pc = .ok (.putfield idx, 3)) (hM : M i = some (oO ci fs)) (hn : narrow t v = v) (hft : fits t v = true) (hlt : decide (j < fs.length) = true) {fs' : List Value} (hs' : fs.set j v = fs') (h : eg_E k g d bc bs n (va_up M i (some (oO ci fs'))) ls (st) (pc + 3) Q) : eg_E k g d bc bs n (M) ls (v :: vR k i :: st) (pc) Q := by
  intro p e R s m args below meth c H locs cells slots sl Z C hW hz hl hL hc hs hR
  obtain ⟨CC, T, N, ty, ⟨h1, h2, h3, h4⟩, hj, hl2, hfin, rfl, hdecl⟩ := hf
  have hlt := of_decide_eq_true hlt
  subst hs'
  have hts := C.2.2.2.2.2.1
  have hK := C.2.2.2.2.2.2.1.1
  have hown := C.2.2.2.2.1
  have hap := va_apart (own := g.1.cls) hts h2 ty h3 h4 hK h1
  obtain ⟨r, q0, cell, q1, q2, q3, q4⟩ := hW.2.2 i _ hM
  have hr : r = (CC, T, N) := Option.some.inj (q0.symm.trans h1)
  subst hr
  obtain ⟨hS, hfc, kC, hkC, hkind⟩ := hK.1 ci _ h1
  obtain ⟨cf, kf, fi, f, hi, hsl⟩ := hS j hj
  have hlay := hts _ (h2 _ (u_in_lay hj))
  unfold u_lay at hlay
  rw [if_pos hfin] at hlay
  have hst := (u_facts hfc hkC (u_lays hts h2 hj) hi).1
  have hcf : m.cls = cf := by
    obtain ⟨_, _, c', _, _, _, -, -, hf', -, -, -, hown2, -⟩ := Cond.laysFinal_spec hlay
    have e1 : c' = cf := by have := hi.symm.trans hf'; simp at this; exact this.1.symm
    rw [hdecl] at hown2
    rw [← e1]; exact Option.some.inj (hown.symm.trans hown2)
  have h6 := u_fits hfc hkC hkind (Or.inr hlay) hi (h3 j hj) hn hft
  refine W.putFinK C.1 C.2.1 hown (hts _ hl2) hi hst hcf (C.2.2.2.1.trans hin) (by rw [q2]; exact h6) q1 q3 (by rw [hsl]; exact k2_hasslot (q4 j hj)) rfl rfl hd fun H' e1 e2 e3 => ?_
  rw [hsl] at e1
  exact h p e R s m args below meth c H' _ cells slots sl Z C (hW.set e2 e3 ⟨_, h1, t_OB.to (V := updV (vp_V fs) j v) ⟨_, e1, q2, q3, t_set q4 hap hj v⟩ (fun x _ => vp_updV_set hlt v x)⟩) (by rw [e2]; exact hz) (eg_lc hl) hL hc hs hR
theorem at_aI {k : eg_K} {D : va_G} {cl : List vw_C} {q n : Nat} {f : Nat → Int} {H : Heap} : va_at D cl (q, aI k n f) H ↔ H[q]? = some (arrV (eg_A k 0) n (fun j => .int (Int32.ofInt (f j)))) := Iff.rfl
theorem at_aL {k : eg_K} {D : va_G} {cl : List vw_C} {q n : Nat} {f : Nat → Int} {H : Heap} : va_at D cl (q, aL k n f) H ↔ H[q]? = some (arrV (eg_A k 1) n (fun j => .long (Int64.ofInt (f j)))) := Iff.rfl
theorem at_aB {k : eg_K} {D : va_G} {cl : List vw_C} {q n : Nat} {f : Nat → Int} {H : Heap} : va_at D cl (q, aB k n f) H ↔ H[q]? = some (arrV (eg_A k 2) n (fun j => .int (Int32.ofInt (f j)))) := Iff.rfl
theorem at_aZ {k : eg_K} {D : va_G} {cl : List vw_C} {q n : Nat} {f : Nat → Int} {H : Heap} : va_at D cl (q, aZ k n f) H ↔ H[q]? = some (arrV (eg_A k 3) n (fun j => .int (Int32.ofInt (f j)))) := Iff.rfl
theorem eg_iald {k : eg_K} {g : eg_G} {d bc bs n : Nat} {M : eg_M} {ls st : List Value} {pc : Nat} {Q : eg_Q} {i len : Nat} {f : Nat → Int} {x : Int} (hd : decode g.2.1 pc = .ok (.iaload, 1)) (hM : M i = some (aI k len f)) (h0 : 0 ≤ x) (h1 : x < len) (h2 : len ≤ 65536) (h : eg_E k g d bc bs n (M) ls (vI (f x.toNat) :: st) (pc + 1) Q) : eg_E k g d bc bs n (M) ls (vI x :: vR k i :: st) (pc) Q := by
  intro p e R s m args below meth c H locs cells slots sl Z C hW hz hl hL hc hs hR
  have h3 := h p e R s m args below meth c H locs cells slots sl Z C hW hz hl hL hc hs hR
  rw [← i_nat h0 h1 h2] at h3
  exact va_iald C.1 C.2.1 C.2.2.2.2.2.2.1.1 (hW.one hM) 0 0 rfl rfl (i_in h0 h1 h2) hd h3
theorem eg_lald {k : eg_K} {g : eg_G} {d bc bs n : Nat} {M : eg_M} {ls st : List Value} {pc : Nat} {Q : eg_Q} {i len : Nat} {f : Nat → Int} {x : Int} (hd : decode g.2.1 pc = .ok (.laload, 1)) (hM : M i = some (aL k len f)) (h0 : 0 ≤ x) (h1 : x < len) (h2 : len ≤ 65536) (h : eg_E k g d bc bs n (M) ls (vL (f x.toNat) :: st) (pc + 1) Q) : eg_E k g d bc bs n (M) ls (vI x :: vR k i :: st) (pc) Q := by
  intro p e R s m args below meth c H locs cells slots sl Z C hW hz hl hL hc hs hR
  have h3 := h p e R s m args below meth c H locs cells slots sl Z C hW hz hl hL hc hs hR
  rw [← i_nat h0 h1 h2] at h3
  exact va_lald C.1 C.2.1 C.2.2.2.2.2.2.1.1 (hW.one hM) 0 1 rfl rfl (i_in h0 h1 h2) hd h3
theorem eg_bald {k : eg_K} {g : eg_G} {d bc bs n : Nat} {M : eg_M} {ls st : List Value} {pc : Nat} {Q : eg_Q} {i len : Nat} {f : Nat → Int} {x : Int} (hd : decode g.2.1 pc = .ok (.baload, 1)) (hM : M i = some (aB k len f)) (h0 : 0 ≤ x) (h1 : x < len) (h2 : len ≤ 65536) (h : eg_E k g d bc bs n (M) ls (vI (f x.toNat) :: st) (pc + 1) Q) : eg_E k g d bc bs n (M) ls (vI x :: vR k i :: st) (pc) Q := by
  intro p e R s m args below meth c H locs cells slots sl Z C hW hz hl hL hc hs hR
  have h3 := h p e R s m args below meth c H locs cells slots sl Z C hW hz hl hL hc hs hR
  rw [← i_nat h0 h1 h2] at h3
  exact va_bald C.1 C.2.1 C.2.2.2.2.2.2.1.1 (hW.one hM) 0 2 rfl rfl (i_in h0 h1 h2) hd h3
theorem eg_zald {k : eg_K} {g : eg_G} {d bc bs n : Nat} {M : eg_M} {ls st : List Value} {pc : Nat} {Q : eg_Q} {i len : Nat} {f : Nat → Int} {x : Int} (hd : decode g.2.1 pc = .ok (.baload, 1)) (hM : M i = some (aZ k len f)) (h0 : 0 ≤ x) (h1 : x < len) (h2 : len ≤ 65536) (h : eg_E k g d bc bs n (M) ls (vI (f x.toNat) :: st) (pc + 1) Q) : eg_E k g d bc bs n (M) ls (vI x :: vR k i :: st) (pc) Q := by
  intro p e R s m args below meth c H locs cells slots sl Z C hW hz hl hL hc hs hR
  have h3 := h p e R s m args below meth c H locs cells slots sl Z C hW hz hl hL hc hs hR
  rw [← i_nat h0 h1 h2] at h3
  exact va_zald C.1 C.2.1 C.2.2.2.2.2.2.1.1 (hW.one hM) 0 3 rfl rfl (i_in h0 h1 h2) hd h3
theorem eg_iast {k : eg_K} {g : eg_G} {d bc bs n : Nat} {M : eg_M} {ls st : List Value} {pc : Nat} {Q : eg_Q} {i len : Nat} {f : Nat → Int} {x y : Int} (hd : decode g.2.1 pc = .ok (.iastore, 1)) (hM : M i = some (aI k len f)) (h0 : 0 ≤ x) (h1 : x < len) (h2 : len ≤ 65536) (h : eg_E k g d bc bs n (va_up M i (some (aI k len (va_up f x.toNat y)))) ls (st) (pc + 1) Q) : eg_E k g d bc bs n (M) ls (vI y :: vI x :: vR k i :: st) (pc) Q := by
  intro p e R s m args below meth c H locs cells slots sl Z C hW hz hl hL hc hs hR
  have hK := C.2.2.2.2.2.2.1.1
  refine W.iast C.1 C.2.1 (hW.2.2 i _ hM) ((hK.2 0 _ rfl).1 len _) (fun q => by cases q) (by show ¬ (_ ∨ (arrV _ _ _).slots.size ≤ _); rw [arrV_size]; exact i_in h0 h1 h2) rfl rfl hd fun H1 e1 e2 e3 => ?_
  refine h p e R s m args below meth c H1 _ cells slots sl Z C (hW.set e2 e3 ?_) (by rw [e2]; exact hz) (eg_lc hl) hL hc hs hR
  refine at_aI.mpr (e1.trans ?_)
  show some ((arrV (eg_A k 0) len (fun j => .int (Int32.ofInt (f j)))).setSlot _ _) = _
  rw [arrV_store, i_nat h0 h1 h2]
  congr 2
  funext q
  by_cases hq : q = x.toNat
  · subst hq; simp [updV, va_up]
  · simp [updV, va_up, hq]
theorem eg_last {k : eg_K} {g : eg_G} {d bc bs n : Nat} {M : eg_M} {ls st : List Value} {pc : Nat} {Q : eg_Q} {i len : Nat} {f : Nat → Int} {x y : Int} (hd : decode g.2.1 pc = .ok (.lastore, 1)) (hM : M i = some (aL k len f)) (h0 : 0 ≤ x) (h1 : x < len) (h2 : len ≤ 65536) (h : eg_E k g d bc bs n (va_up M i (some (aL k len (va_up f x.toNat y)))) ls (st) (pc + 1) Q) : eg_E k g d bc bs n (M) ls (vL y :: vI x :: vR k i :: st) (pc) Q := by
  intro p e R s m args below meth c H locs cells slots sl Z C hW hz hl hL hc hs hR
  have hK := C.2.2.2.2.2.2.1.1
  refine W.last C.1 C.2.1 (hW.2.2 i _ hM) ((hK.2 1 _ rfl).1 len _) (fun q => by cases q) (by show ¬ (_ ∨ (arrV _ _ _).slots.size ≤ _); rw [arrV_size]; exact i_in h0 h1 h2) rfl rfl hd fun H1 e1 e2 e3 => ?_
  refine h p e R s m args below meth c H1 _ cells slots sl Z C (hW.set e2 e3 ?_) (by rw [e2]; exact hz) (eg_lc hl) hL hc hs hR
  refine at_aL.mpr (e1.trans ?_)
  show some ((arrV (eg_A k 1) len (fun j => .long (Int64.ofInt (f j)))).setSlot _ _) = _
  rw [arrV_store, i_nat h0 h1 h2]
  congr 2
  funext q
  by_cases hq : q = x.toNat
  · subst hq; simp [updV, va_up]
  · simp [updV, va_up, hq]
theorem eg_bast {k : eg_K} {g : eg_G} {d bc bs n : Nat} {M : eg_M} {ls st : List Value} {pc : Nat} {Q : eg_Q} {i len : Nat} {f : Nat → Int} {x y z : Int} (hd : decode g.2.1 pc = .ok (.bastore, 1)) (hM : M i = some (aB k len f)) (h0 : 0 ≤ x) (h1 : x < len) (h2 : len ≤ 65536) (hn : narrow .byte (vI y) = vI z) (h : eg_E k g d bc bs n (va_up M i (some (aB k len (va_up f x.toNat z)))) ls (st) (pc + 1) Q) : eg_E k g d bc bs n (M) ls (vI y :: vI x :: vR k i :: st) (pc) Q := by
  intro p e R s m args below meth c H locs cells slots sl Z C hW hz hl hL hc hs hR
  have hK := C.2.2.2.2.2.2.1.1
  refine W.bast C.1 C.2.1 (hW.2.2 i _ hM) ((hK.2 2 _ rfl).1 len _) (fun q => by cases q) (by show ¬ (_ ∨ (arrV _ _ _).slots.size ≤ _); rw [arrV_size]; exact i_in h0 h1 h2) rfl rfl hd fun H1 e1 e2 e3 => ?_
  refine h p e R s m args below meth c H1 _ cells slots sl Z C (hW.set e2 e3 ?_) (by rw [e2]; exact hz) (eg_lc hl) hL hc hs hR
  refine at_aB.mpr (e1.trans ?_)
  show some ((arrV (eg_A k 2) len (fun j => .int (Int32.ofInt (f j)))).setSlot _ (narrow .byte (vI y))) = _
  rw [hn, arrV_store, i_nat h0 h1 h2]
  congr 2
  funext q
  by_cases hq : q = x.toNat
  · subst hq; simp [updV, va_up, vI]
  · simp [updV, va_up, hq]
theorem eg_zast {k : eg_K} {g : eg_G} {d bc bs n : Nat} {M : eg_M} {ls st : List Value} {pc : Nat} {Q : eg_Q} {i len : Nat} {f : Nat → Int} {x y z : Int} (hd : decode g.2.1 pc = .ok (.bastore, 1)) (hM : M i = some (aZ k len f)) (h0 : 0 ≤ x) (h1 : x < len) (h2 : len ≤ 65536) (hn : narrow .boolean (vI y) = vI z) (h : eg_E k g d bc bs n (va_up M i (some (aZ k len (va_up f x.toNat z)))) ls (st) (pc + 1) Q) : eg_E k g d bc bs n (M) ls (vI y :: vI x :: vR k i :: st) (pc) Q := by
  intro p e R s m args below meth c H locs cells slots sl Z C hW hz hl hL hc hs hR
  have hK := C.2.2.2.2.2.2.1.1
  refine W.zast C.1 C.2.1 (hW.2.2 i _ hM) ((hK.2 3 _ rfl).1 len _) (fun q => by cases q) (by show ¬ (_ ∨ (arrV _ _ _).slots.size ≤ _); rw [arrV_size]; exact i_in h0 h1 h2) rfl rfl hd fun H1 e1 e2 e3 => ?_
  refine h p e R s m args below meth c H1 _ cells slots sl Z C (hW.set e2 e3 ?_) (by rw [e2]; exact hz) (eg_lc hl) hL hc hs hR
  refine at_aZ.mpr (e1.trans ?_)
  show some ((arrV (eg_A k 3) len (fun j => .int (Int32.ofInt (f j)))).setSlot _ (narrow .boolean (vI y))) = _
  rw [hn, arrV_store, i_nat h0 h1 h2]
  congr 2
  funext q
  by_cases hq : q = x.toNat
  · subst hq; simp [updV, va_up, vI]
  · simp [updV, va_up, hq]
theorem eg_lenI {k : eg_K} {g : eg_G} {d bc bs n : Nat} {M : eg_M} {ls st : List Value} {pc : Nat} {Q : eg_Q} {i len : Nat} {f : Nat → Int} (hd : decode g.2.1 pc = .ok (.arraylength, 1)) (hM : M i = some (aI k len f)) (h : eg_E k g d bc bs n (M) ls (vI (len : Int) :: st) (pc + 1) Q) : eg_E k g d bc bs n (M) ls (vR k i :: st) (pc) Q := by
  intro p e R s m args below meth c H locs cells slots sl Z C hW hz hl hL hc hs hR
  exact va_alen C.1 C.2.1 C.2.2.2.2.2.2.1.1 (hW.one hM) 0 0 rfl rfl (by rw [Int32.ofInt_eq_ofNat]) hd (h p e R s m args below meth c H locs cells slots sl Z C hW hz hl hL hc hs hR)
theorem eg_lenL {k : eg_K} {g : eg_G} {d bc bs n : Nat} {M : eg_M} {ls st : List Value} {pc : Nat} {Q : eg_Q} {i len : Nat} {f : Nat → Int} (hd : decode g.2.1 pc = .ok (.arraylength, 1)) (hM : M i = some (aL k len f)) (h : eg_E k g d bc bs n (M) ls (vI (len : Int) :: st) (pc + 1) Q) : eg_E k g d bc bs n (M) ls (vR k i :: st) (pc) Q := by
  intro p e R s m args below meth c H locs cells slots sl Z C hW hz hl hL hc hs hR
  exact va_alen C.1 C.2.1 C.2.2.2.2.2.2.1.1 (hW.one hM) 0 1 rfl rfl (by rw [Int32.ofInt_eq_ofNat]) hd (h p e R s m args below meth c H locs cells slots sl Z C hW hz hl hL hc hs hR)
theorem eg_lenB {k : eg_K} {g : eg_G} {d bc bs n : Nat} {M : eg_M} {ls st : List Value} {pc : Nat} {Q : eg_Q} {i len : Nat} {f : Nat → Int} (hd : decode g.2.1 pc = .ok (.arraylength, 1)) (hM : M i = some (aB k len f)) (h : eg_E k g d bc bs n (M) ls (vI (len : Int) :: st) (pc + 1) Q) : eg_E k g d bc bs n (M) ls (vR k i :: st) (pc) Q := by
  intro p e R s m args below meth c H locs cells slots sl Z C hW hz hl hL hc hs hR
  exact va_alen C.1 C.2.1 C.2.2.2.2.2.2.1.1 (hW.one hM) 0 2 rfl rfl (by rw [Int32.ofInt_eq_ofNat]) hd (h p e R s m args below meth c H locs cells slots sl Z C hW hz hl hL hc hs hR)
theorem eg_lenZ {k : eg_K} {g : eg_G} {d bc bs n : Nat} {M : eg_M} {ls st : List Value} {pc : Nat} {Q : eg_Q} {i len : Nat} {f : Nat → Int} (hd : decode g.2.1 pc = .ok (.arraylength, 1)) (hM : M i = some (aZ k len f)) (h : eg_E k g d bc bs n (M) ls (vI (len : Int) :: st) (pc + 1) Q) : eg_E k g d bc bs n (M) ls (vR k i :: st) (pc) Q := by
  intro p e R s m args below meth c H locs cells slots sl Z C hW hz hl hL hc hs hR
  exact va_alen C.1 C.2.1 C.2.2.2.2.2.2.1.1 (hW.one hM) 0 3 rfl rfl (by rw [Int32.ofInt_eq_ofNat]) hd (h p e R s m args below meth c H locs cells slots sl Z C hW hz hl hL hc hs hR)
theorem eg_aald {k : eg_K} {g : eg_G} {d bc bs n : Nat} {M : eg_M} {ls st : List Value} {pc : Nat} {Q : eg_Q} {i len j : Nat} {f : Nat → Option Nat} {x : Int} (hd : decode g.2.1 pc = .ok (.aaload, 1)) (hM : M i = some (aP k len f)) (h0 : 0 ≤ x) (h1 : x < len) (h2 : len ≤ 65536) (hj : f x.toNat = some j) (h : eg_E k g d bc bs n (M) ls (vR k j :: st) (pc + 1) Q) : eg_E k g d bc bs n (M) ls (vI x :: vR k i :: st) (pc) Q := by
  intro p e R s m args below meth c H locs cells slots sl Z C hW hz hl hL hc hs hR
  have h3 := h p e R s m args below meth c H locs cells slots sl Z C hW hz hl hL hc hs hR
  refine va_aldq C.1 C.2.1 C.2.2.2.2.2.2.1.1 (hW.one hM) 0 4 rfl rfl (i_in h0 h1 h2) hd ?_
  rw [i_nat h0 h1 h2, hj]
  exact h3
