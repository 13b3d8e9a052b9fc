theorem eg_P.of0 : True := trivial
def iR (x : Int) : Prop := -2147483648 ≤ x ∧ x ≤ 2147483647
def lR (x : Int) : Prop := -9223372036854775808 ≤ x ∧ x ≤ 9223372036854775807
theorem i_to {x : Int} (h : iR x) : (Int32.ofInt x).toInt = x := Int32.toInt_ofInt_of_le (by have := h.1; omega) (by have := h.2; omega)
theorem l_to {x : Int} (h : lR x) : (Int64.ofInt x).toInt = x := Int64.toInt_ofInt_of_le (by have := h.1; omega) (by have := h.2; omega)
theorem i_lt {x y : Int} (hx : iR x) (hy : iR y) : Int32.ofInt x < Int32.ofInt y ↔ x < y := by rw [Int32.lt_iff_toInt_lt, i_to hx, i_to hy]
theorem i_le {x y : Int} (hx : iR x) (hy : iR y) : Int32.ofInt x ≤ Int32.ofInt y ↔ x ≤ y := by rw [Int32.le_iff_toInt_le, i_to hx, i_to hy]
theorem i_eq {x y : Int} (hx : iR x) (hy : iR y) : Int32.ofInt x = Int32.ofInt y ↔ x = y := by rw [← Int32.toInt_inj, i_to hx, i_to hy]
theorem l_lt {x y : Int} (hx : lR x) (hy : lR y) : Int64.ofInt x < Int64.ofInt y ↔ x < y := by rw [Int64.lt_iff_toInt_lt, l_to hx, l_to hy]
theorem l_le {x y : Int} (hx : lR x) (hy : lR y) : Int64.ofInt x ≤ Int64.ofInt y ↔ x ≤ y := by rw [Int64.le_iff_toInt_le, l_to hx, l_to hy]
theorem l_eq {x y : Int} (hx : lR x) (hy : lR y) : Int64.ofInt x = Int64.ofInt y ↔ x = y := by rw [← Int64.toInt_inj, l_to hx, l_to hy]
theorem i_0 : (0 : Int32) = Int32.ofInt 0 := rfl
theorem iR0 : iR 0 := ⟨by decide, by decide⟩
def eg_ent0 : List Value → List Value
  | [] => []
  | v :: vs => if v.category = 2 then v :: vU :: eg_ent0 vs else v :: eg_ent0 vs
def eg_ent (as : List Value) (n : Nat) : List Value := eg_ent0 as ++ List.replicate (n - (eg_ent0 as).length) vU
theorem eg_ent0_len (as : List Value) : (lg_sl as).length = (eg_ent0 as).length := by
  induction as with
  | nil => rfl
  | cons v t ih =>
    by_cases h : v.category = 2
    · simp [lg_sl, eg_ent0, h] at ih ⊢; exact ih
    · simp [lg_sl, eg_ent0, h] at ih ⊢; exact ih
theorem eg_ent0_at (as : List Value) : ∀ (i : Nat) (v : Value), (eg_ent0 as)[i]? = some v → eg_un v = false → (lg_sl as)[i]? = some (Slot.val v) := by
  induction as with
  | nil => intro i v h; simp [eg_ent0] at h
  | cons a t ih =>
    intro i v h hu
    by_cases hc : a.category = 2
    · have e1 : lg_sl (a :: t) = Slot.val a :: Slot.second :: lg_sl t := by simp [lg_sl, hc]
      rw [e1]
      rw [eg_ent0, if_pos hc] at h
      match i, h with
      | 0, h => simp at h; simp [h]
      | 1, h => simp at h; rw [← h] at hu; cases hu
      | i + 2, h => simp at h; simpa using ih i v h hu
    · have e1 : lg_sl (a :: t) = Slot.val a :: lg_sl t := by simp [lg_sl, hc]
      rw [e1]
      rw [eg_ent0, if_neg hc] at h
      match i, h with
      | 0, h => simp at h; simp [h]
      | i + 1, h => simp at h; simpa using ih i v h hu
theorem eg_ent_L (as : List Value) {n : Nat} (hn : (eg_ent0 as).length ≤ n) : eg_L ((lg_sl as ++ List.replicate (n - (lg_sl as).length) Slot.unset).toArray) n (eg_ent as n) := by
  have hl := eg_ent0_len as
  have hw := (lv_entry as (n := n) (by omega)).2.1
  refine ⟨by simp [eg_ent]; omega, by simp; omega, hw, fun i v h hu => ?_⟩
  have h2 : i < (eg_ent0 as).length := by
    rcases Nat.lt_or_ge i (eg_ent0 as).length with q | q
    · exact q
    · exfalso
      rw [eg_ent, List.getElem?_append_right q] at h
      have := List.mem_of_getElem? h
      rw [List.mem_replicate] at this
      rw [this.2] at hu
      cases hu
  rw [eg_ent, List.getElem?_append_left h2] at h
  have h3 := eg_ent0_at as i v h hu
  simp only [List.getElem?_toArray]
  rw [List.getElem?_append_left (by omega)]
  exact h3
theorem eg_P.of {k : eg_K} {g : eg_G} {d mc ms n : Nat} {as : List Value} {M : eg_M} {Q : eg_Q} (hy : plainName g.1.cls = true) (hn : (eg_ent0 as).length ≤ g.2.2.1) (h : eg_E k g d mc ms n M (eg_ent as g.2.2.1) [] 0 Q) : eg_P k g d mc ms as n M Q := by
  refine Met.ofW (cc := g.2.1) (maxL := g.2.2.1) (ret := g.2.2.2) hy rfl ?_
  intro p e s m args below meth c s₁ B hml hv
  obtain ⟨rfl, hV, hW⟩ := hv
  have hts := atoms_spec (ws := eg_ws g) B.pre
  rw [lg_entry_eq]
  refine h p e _ s m _ below meth c s.heap [] 0 0 _ _ ⟨B.exec, B.bytes, hml, (name_of_methodNamed B.named B.method).1, findClass_of_methodNamed B.named, fun w hw => hts w (List.mem_cons_of_mem _ hw), hV, ⟨by have := hW.1; omega, hW.2.1⟩, Nat.le_refl _, Nat.le_refl _⟩ hW (Nat.le_refl _) (fun q h => by cases h) (eg_ent_L as hn) (by rw [Nat.zero_add]; exact Nat.le_refl _) (by rw [Nat.zero_add]; exact Nat.le_refl _) (fun H' locs' sl' n' M' r pc' hW' hz' hl' hQ hr => ?_)
  rw [Nat.zero_add, Nat.zero_add]
  have hlk := B.notSynchronized
  rcases hr with ⟨v, ty, rfl, hd, ht, hnr⟩ | ⟨v, rfl, hd, ht⟩ | ⟨a, nm, rfl, hd, ht, hnm⟩ | ⟨rfl, hd, ht⟩
  · exact W.zret B.exec B.bytes (B.returns.trans ht) hnr (fun t e1 hw => ⟨by rw [e1]; exact hz', _, n', M', rfl, hQ, by rw [e1]; exact hW'⟩) hl' hd (hlocks := hlk)
  · exact W.lret B.exec B.bytes (B.returns.trans ht) (fun t e1 hw => ⟨by rw [e1]; exact hz', _, n', M', rfl, hQ, by rw [e1]; exact hW'⟩) hl' hd (hlocks := hlk)
  · exact W.aret B.exec B.bytes (B.returns.trans ht) hnm (Or.inr ⟨a, rfl⟩) (fun t e1 hw => ⟨by rw [e1]; exact hz', _, n', M', rfl, hQ, by rw [e1]; exact hW'⟩) hl' hd (hlocks := hlk)
  · exact W.vret B.exec B.bytes (B.returns.trans ht) (fun t e1 hw => ⟨by rw [e1]; exact hz', none, n', M', rfl, hQ, by rw [e1]; exact hW'⟩) hl' hd (hlocks := hlk)
theorem eg_iconst {k : eg_K} {g : eg_G} {d bc bs n : Nat} {M : eg_M} {ls st : List Value} {pc : Nat} {Q : eg_Q} {x : Int} (hd : decode g.2.1 pc = .ok (.iconst x, 1)) (h : eg_E k g d bc bs n M ls (vI x :: st) (pc + 1) Q) : eg_E k g d bc bs n M ls (st) (pc) Q := by
  intro p e R s m args below meth c H locs cells slots sl Z C hW hz hl hL hc hs hR
  exact lv_iconst C.1 C.2.1 hd rfl (h p e R s m args below meth c H locs cells slots sl Z C hW hz hl hL hc hs hR)
theorem eg_bipush {k : eg_K} {g : eg_G} {d bc bs n : Nat} {M : eg_M} {ls st : List Value} {pc : Nat} {Q : eg_Q} {x : Int} (hd : decode g.2.1 pc = .ok (.bipush x, 2)) (hx : (Int8.ofInt x).toInt32 = Int32.ofInt x) (h : eg_E k g d bc bs n M ls (vI x :: st) (pc + 2) Q) : eg_E k g d bc bs n M ls (st) (pc) Q := by
  intro p e R s m args below meth c H locs cells slots sl Z C hW hz hl hL hc hs hR
  exact lv_bipush C.1 C.2.1 hd hx (h p e R s m args below meth c H locs cells slots sl Z C hW hz hl hL hc hs hR)
theorem eg_sipush {k : eg_K} {g : eg_G} {d bc bs n : Nat} {M : eg_M} {ls st : List Value} {pc : Nat} {Q : eg_Q} {x : Int} (hd : decode g.2.1 pc = .ok (.sipush x, 3)) (hx : (Int16.ofInt x).toInt32 = Int32.ofInt x) (h : eg_E k g d bc bs n M ls (vI x :: st) (pc + 3) Q) : eg_E k g d bc bs n M ls (st) (pc) Q := by
  intro p e R s m args below meth c H locs cells slots sl Z C hW hz hl hL hc hs hR
  exact lv_sipush C.1 C.2.1 hd hx (h p e R s m args below meth c H locs cells slots sl Z C hW hz hl hL hc hs hR)
theorem eg_lconst {k : eg_K} {g : eg_G} {d bc bs n : Nat} {M : eg_M} {ls st : List Value} {pc : Nat} {Q : eg_Q} {x : Fin 2} (hd : decode g.2.1 pc = .ok (.lconst x, 1)) (h : eg_E k g d bc bs n M ls (vL ((x : Nat) : Int) :: st) (pc + 1) Q) : eg_E k g d bc bs n M ls (st) (pc) Q := by
  intro p e R s m args below meth c H locs cells slots sl Z C hW hz hl hL hc hs hR
  exact lv_lconst C.1 C.2.1 hd (by rw [Int64.ofInt_eq_ofNat]) (h p e R s m args below meth c H locs cells slots sl Z C hW hz hl hL hc hs hR)
theorem eg_iadd {k : eg_K} {g : eg_G} {d bc bs n : Nat} {M : eg_M} {ls st : List Value} {pc : Nat} {Q : eg_Q} {x y : Int} (hd : decode g.2.1 pc = .ok (.iadd, 1)) (h : eg_E k g d bc bs n M ls (vI (x + y) :: st) (pc + 1) Q) : eg_E k g d bc bs n M ls (vI y :: vI x :: st) (pc) Q := by
  intro p e R s m args below meth c H locs cells slots sl Z C hW hz hl hL hc hs hR
  have h1 := h p e R s m args below meth c H locs cells slots sl Z C hW hz hl hL hc hs hR
  unfold vI at h1
  rw [Int32.ofInt_add] at h1
  exact lv_iadd C.1 C.2.1 hd h1
theorem eg_isub {k : eg_K} {g : eg_G} {d bc bs n : Nat} {M : eg_M} {ls st : List Value} {pc : Nat} {Q : eg_Q} {x y : Int} (hd : decode g.2.1 pc = .ok (.isub, 1)) (h : eg_E k g d bc bs n M ls (vI (x - y) :: st) (pc + 1) Q) : eg_E k g d bc bs n M ls (vI y :: vI x :: st) (pc) Q := by
  intro p e R s m args below meth c H locs cells slots sl Z C hW hz hl hL hc hs hR
  have h1 := h p e R s m args below meth c H locs cells slots sl Z C hW hz hl hL hc hs hR
  unfold vI at h1
  rw [Int32.ofInt_sub] at h1
  exact lv_isub C.1 C.2.1 hd h1
theorem eg_imul {k : eg_K} {g : eg_G} {d bc bs n : Nat} {M : eg_M} {ls st : List Value} {pc : Nat} {Q : eg_Q} {x y : Int} (hd : decode g.2.1 pc = .ok (.imul, 1)) (h : eg_E k g d bc bs n M ls (vI (x * y) :: st) (pc + 1) Q) : eg_E k g d bc bs n M ls (vI y :: vI x :: st) (pc) Q := by
  intro p e R s m args below meth c H locs cells slots sl Z C hW hz hl hL hc hs hR
  have h1 := h p e R s m args below meth c H locs cells slots sl Z C hW hz hl hL hc hs hR
  unfold vI at h1
  rw [Int32.ofInt_mul] at h1
  exact lv_imul C.1 C.2.1 hd h1
theorem eg_ladd {k : eg_K} {g : eg_G} {d bc bs n : Nat} {M : eg_M} {ls st : List Value} {pc : Nat} {Q : eg_Q} {x y : Int} (hd : decode g.2.1 pc = .ok (.ladd, 1)) (h : eg_E k g d bc bs n M ls (vL (x + y) :: st) (pc + 1) Q) : eg_E k g d bc bs n M ls (vL y :: vL x :: st) (pc) Q := by
  intro p e R s m args below meth c H locs cells slots sl Z C hW hz hl hL hc hs hR
  have h1 := h p e R s m args below meth c H locs cells slots sl Z C hW hz hl hL hc hs hR
  unfold vL at h1
  rw [Int64.ofInt_add] at h1
  exact lv_ladd C.1 C.2.1 hd h1
theorem eg_lsub {k : eg_K} {g : eg_G} {d bc bs n : Nat} {M : eg_M} {ls st : List Value} {pc : Nat} {Q : eg_Q} {x y : Int} (hd : decode g.2.1 pc = .ok (.lsub, 1)) (h : eg_E k g d bc bs n M ls (vL (x - y) :: st) (pc + 1) Q) : eg_E k g d bc bs n M ls (vL y :: vL x :: st) (pc) Q := by
  intro p e R s m args below meth c H locs cells slots sl Z C hW hz hl hL hc hs hR
  have h1 := h p e R s m args below meth c H locs cells slots sl Z C hW hz hl hL hc hs hR
  unfold vL at h1
  rw [Int64.ofInt_sub] at h1
  exact lv_lsub C.1 C.2.1 hd h1
theorem eg_lmul {k : eg_K} {g : eg_G} {d bc bs n : Nat} {M : eg_M} {ls st : List Value} {pc : Nat} {Q : eg_Q} {x y : Int} (hd : decode g.2.1 pc = .ok (.lmul, 1)) (h : eg_E k g d bc bs n M ls (vL (x * y) :: st) (pc + 1) Q) : eg_E k g d bc bs n M ls (vL y :: vL x :: st) (pc) Q := by
  intro p e R s m args below meth c H locs cells slots sl Z C hW hz hl hL hc hs hR
  have h1 := h p e R s m args below meth c H locs cells slots sl Z C hW hz hl hL hc hs hR
  unfold vL at h1
  rw [Int64.ofInt_mul] at h1
  exact lv_lmul C.1 C.2.1 hd h1
theorem eg_ineg {k : eg_K} {g : eg_G} {d bc bs n : Nat} {M : eg_M} {ls st : List Value} {pc : Nat} {Q : eg_Q} {x : Int} (hd : decode g.2.1 pc = .ok (.ineg, 1)) (h : eg_E k g d bc bs n M ls (vI (-x) :: st) (pc + 1) Q) : eg_E k g d bc bs n M ls (vI x :: st) (pc) Q := by
  intro p e R s m args below meth c H locs cells slots sl Z C hW hz hl hL hc hs hR
  have h1 := h p e R s m args below meth c H locs cells slots sl Z C hW hz hl hL hc hs hR
  unfold vI at h1
  rw [Int32.ofInt_neg] at h1
  exact lv_ineg C.1 C.2.1 hd h1
theorem eg_lneg {k : eg_K} {g : eg_G} {d bc bs n : Nat} {M : eg_M} {ls st : List Value} {pc : Nat} {Q : eg_Q} {x : Int} (hd : decode g.2.1 pc = .ok (.lneg, 1)) (h : eg_E k g d bc bs n M ls (vL (-x) :: st) (pc + 1) Q) : eg_E k g d bc bs n M ls (vL x :: st) (pc) Q := by
  intro p e R s m args below meth c H locs cells slots sl Z C hW hz hl hL hc hs hR
  have h1 := h p e R s m args below meth c H locs cells slots sl Z C hW hz hl hL hc hs hR
  unfold vL at h1
  rw [Int64.ofInt_neg] at h1
  exact lv_lneg C.1 C.2.1 hd h1
theorem eg_at {sl : Array Slot} {nL : Nat} {ls : List Value} {i : Nat} {v : Value} (h : eg_L sl nL ls) (hi : ls[i]? = some v) (hu : eg_un v = false) : sl[i]? = some (Slot.val v) := h.2.2.2 i v hi hu
def eg_en (ls : List Value) : List (Nat × Value) := (List.range ls.length).filterMap (fun i => match ls[i]? with
  | some v => if eg_un v then none else some (i, v)
  | none => none)
theorem eg_en_mem {ls : List Value} {q : Nat × Value} : q ∈ eg_en ls ↔ ls[q.1]? = some q.2 ∧ eg_un q.2 = false := by
  unfold eg_en
  rw [List.mem_filterMap]
  constructor
  · rintro ⟨i, -, h⟩
    cases hi : ls[i]? with
    | none => rw [hi] at h; cases h
    | some v =>
      rw [hi] at h
      by_cases hu : eg_un v = true
      · simp [hu] at h
      · simp [hu] at h
        subst h
        exact ⟨hi, by simpa using hu⟩
  · rintro ⟨h1, h2⟩
    refine ⟨q.1, List.mem_range.mpr (List.getElem?_eq_some_iff.mp h1).1, ?_⟩
    rw [h1]
    simp [h2]
theorem eg_L.has {sl : Array Slot} {nL : Nat} {ls : List Value} (h : eg_L sl nL ls) : lv_has sl nL (eg_en ls) := ⟨h.2.1, h.2.2.1, fun q hq => h.2.2.2 q.1 q.2 (eg_en_mem.mp hq).1 (eg_en_mem.mp hq).2⟩
/-- no value of two words lies just below i -/
def eg_k1 (ls : List Value) : Nat → Bool
  | 0 => true
  | i + 1 => match ls[i]? with
    | some v => !(v.category == 2)
    | none => true
theorem eg_L.st1 {sl : Array Slot} {nL : Nat} {ls : List Value} {i : Nat} {v : Value} (h : eg_L sl nL ls) (hi : i < ls.length) (hk : eg_k1 ls i = true) {sl' : Array Slot} (h' : lv_has sl' nL ((i, v) :: (eg_en ls).filter (fun q => !(q.1 == i) && !(q.1 + 1 == i && q.2.category == 2)))) : eg_L sl' nL (ls.set i v) := by
  refine ⟨by rw [List.length_set]; exact h.1, h'.1, h'.2.1, fun j w hj hu => ?_⟩
  by_cases hji : j = i
  · subst hji
    rw [List.getElem?_set_self hi] at hj
    cases hj
    exact h'.2.2 _ List.mem_cons_self
  · rw [List.getElem?_set_ne (Ne.symm hji)] at hj
    refine h'.2.2 (j, w) (List.mem_cons_of_mem _ (List.mem_filter.mpr ⟨eg_en_mem.mpr ⟨hj, hu⟩, ?_⟩))
    have h1 : (j == i) = false := by simpa using hji
    by_cases h2 : j + 1 = i
    · subst h2
      simp only [eg_k1, hj] at hk
      simp [h1]
      simpa using hk
    · have h3 : (j + 1 == i) = false := by simpa using h2
      simp [h1, h3]
theorem eg_L.st2 {sl : Array Slot} {nL : Nat} {ls : List Value} {i : Nat} {v : Value} (h : eg_L sl nL ls) (hi : i + 1 < ls.length) (hk : eg_k1 ls i = true) {sl' : Array Slot} (h' : lv_has sl' nL ((i, v) :: (eg_en ls).filter (fun q => !(q.1 == i) && (!(q.1 == i + 1) && !(q.1 + 1 == i && q.2.category == 2))))) : eg_L sl' nL ((ls.set i v).set (i + 1) vU) := by
  refine ⟨by rw [List.length_set, List.length_set]; exact h.1, h'.1, h'.2.1, fun j w hj hu => ?_⟩
  by_cases hj1 : j = i + 1
  · subst hj1
    rw [List.getElem?_set_self (by rw [List.length_set]; exact hi)] at hj
    cases hj
    cases hu
  · rw [List.getElem?_set_ne (Ne.symm hj1)] at hj
    by_cases hji : j = i
    · subst hji
      rw [List.getElem?_set_self (by omega)] at hj
      cases hj
      exact h'.2.2 _ List.mem_cons_self
    · rw [List.getElem?_set_ne (Ne.symm hji)] at hj
      refine h'.2.2 (j, w) (List.mem_cons_of_mem _ (List.mem_filter.mpr ⟨eg_en_mem.mpr ⟨hj, hu⟩, ?_⟩))
      have h1 : (j == i) = false := by simpa using hji
      have h1' : (j == i + 1) = false := by simpa using hj1
      by_cases h2 : j + 1 = i
      · subst h2
        simp only [eg_k1, hj] at hk
        simp [h1]
        exact ⟨by omega, by simpa using hk⟩
      · have h3 : (j + 1 == i) = false := by simpa using h2
        simp [h1, h1', h3]
theorem eg_iload_n {k : eg_K} {g : eg_G} {d bc bs n : Nat} {M : eg_M} {ls st : List Value} {pc : Nat} {Q : eg_Q} {i : Fin 4} {x : Int} (hd : decode g.2.1 pc = .ok (.iload_n i, 1)) (hx : ls[(i : Nat)]? = some (vI x)) (h : eg_E k g d bc bs n M ls (vI x :: st) (pc + 1) Q) : eg_E k g d bc bs n M ls (st) (pc) Q := by
  intro p e R s m args below meth c H locs cells slots sl Z C hW hz hl hL hc hs hR
  exact lv_iload_n C.1 C.2.1 hd rfl (eg_at hL hx rfl) (h p e R s m args below meth c H locs cells slots sl Z C hW hz hl hL hc hs hR)
theorem eg_iload {k : eg_K} {g : eg_G} {d bc bs n : Nat} {M : eg_M} {ls st : List Value} {pc : Nat} {Q : eg_Q} {i : Nat} {x : Int} (hd : decode g.2.1 pc = .ok (.iload i, 2)) (hx : ls[i]? = some (vI x)) (h : eg_E k g d bc bs n M ls (vI x :: st) (pc + 2) Q) : eg_E k g d bc bs n M ls (st) (pc) Q := by
  intro p e R s m args below meth c H locs cells slots sl Z C hW hz hl hL hc hs hR
  exact lv_iload C.1 C.2.1 hd (eg_at hL hx rfl) (h p e R s m args below meth c H locs cells slots sl Z C hW hz hl hL hc hs hR)
theorem eg_lload_n {k : eg_K} {g : eg_G} {d bc bs n : Nat} {M : eg_M} {ls st : List Value} {pc : Nat} {Q : eg_Q} {i : Fin 4} {x : Int} (hd : decode g.2.1 pc = .ok (.lload_n i, 1)) (hx : ls[(i : Nat)]? = some (vL x)) (h : eg_E k g d bc bs n M ls (vL x :: st) (pc + 1) Q) : eg_E k g d bc bs n M ls (st) (pc) Q := by
  intro p e R s m args below meth c H locs cells slots sl Z C hW hz hl hL hc hs hR
  exact lv_lload_n C.1 C.2.1 hd rfl (eg_at hL hx rfl) (h p e R s m args below meth c H locs cells slots sl Z C hW hz hl hL hc hs hR)
theorem eg_lload {k : eg_K} {g : eg_G} {d bc bs n : Nat} {M : eg_M} {ls st : List Value} {pc : Nat} {Q : eg_Q} {i : Nat} {x : Int} (hd : decode g.2.1 pc = .ok (.lload i, 2)) (hx : ls[i]? = some (vL x)) (h : eg_E k g d bc bs n M ls (vL x :: st) (pc + 2) Q) : eg_E k g d bc bs n M ls (st) (pc) Q := by
  intro p e R s m args below meth c H locs cells slots sl Z C hW hz hl hL hc hs hR
  exact lv_lload C.1 C.2.1 hd (eg_at hL hx rfl) (h p e R s m args below meth c H locs cells slots sl Z C hW hz hl hL hc hs hR)
theorem eg_aload_n {k : eg_K} {g : eg_G} {d bc bs n : Nat} {M : eg_M} {ls st : List Value} {pc : Nat} {Q : eg_Q} {i : Fin 4} {x : Nat} (hd : decode g.2.1 pc = .ok (.aload_n i, 1)) (hx : ls[(i : Nat)]? = some (Value.ref x)) (h : eg_E k g d bc bs n M ls (Value.ref x :: st) (pc + 1) Q) : eg_E k g d bc bs n M ls (st) (pc) Q := by
  intro p e R s m args below meth c H locs cells slots sl Z C hW hz hl hL hc hs hR
  exact lv_aload_n C.1 C.2.1 hd rfl (eg_at hL hx rfl) (h p e R s m args below meth c H locs cells slots sl Z C hW hz hl hL hc hs hR)
theorem eg_aload {k : eg_K} {g : eg_G} {d bc bs n : Nat} {M : eg_M} {ls st : List Value} {pc : Nat} {Q : eg_Q} {i : Nat} {x : Nat} (hd : decode g.2.1 pc = .ok (.aload i, 2)) (hx : ls[i]? = some (Value.ref x)) (h : eg_E k g d bc bs n M ls (Value.ref x :: st) (pc + 2) Q) : eg_E k g d bc bs n M ls (st) (pc) Q := by
  intro p e R s m args below meth c H locs cells slots sl Z C hW hz hl hL hc hs hR
  exact lv_aload C.1 C.2.1 hd (eg_at hL hx rfl) (h p e R s m args below meth c H locs cells slots sl Z C hW hz hl hL hc hs hR)
theorem eg_istore_n {k : eg_K} {g : eg_G} {d bc bs n : Nat} {M : eg_M} {ls st : List Value} {pc : Nat} {Q : eg_Q} {i : Fin 4} {x : Int} (hd : decode g.2.1 pc = .ok (.istore_n i, 1)) (hi : decide ((i : Nat) < ls.length) = true) (hk : eg_k1 ls (i : Nat) = true) {ls' : List Value} (hx : ls.set (i : Nat) (vI x) = ls') (h : eg_E k g d bc bs n M ls' (st) (pc + 1) Q) : eg_E k g d bc bs n M ls (vI x :: st) (pc) Q := by
  intro p e R s m args below meth c H locs cells slots sl Z C hW hz hl hL hc hs hR
  have hi := of_decide_eq_true hi
  subst hx
  exact lv_istore_n C.1 C.2.1 hd rfl hL.has (by have := hL.1; omega) rfl (fun sl' hL' => h p e R s m args below meth c H locs cells slots sl' Z C hW hz hl (hL.st1 hi hk hL') hc hs hR)
theorem eg_istore {k : eg_K} {g : eg_G} {d bc bs n : Nat} {M : eg_M} {ls st : List Value} {pc : Nat} {Q : eg_Q} {i : Nat} {x : Int} (hd : decode g.2.1 pc = .ok (.istore i, 2)) (hi : decide (i < ls.length) = true) (hk : eg_k1 ls i = true) {ls' : List Value} (hx : ls.set i (vI x) = ls') (h : eg_E k g d bc bs n M ls' (st) (pc + 2) Q) : eg_E k g d bc bs n M ls (vI x :: st) (pc) Q := by
  intro p e R s m args below meth c H locs cells slots sl Z C hW hz hl hL hc hs hR
  have hi := of_decide_eq_true hi
  subst hx
  exact lv_istore C.1 C.2.1 hd hL.has (by have := hL.1; omega) rfl (fun sl' hL' => h p e R s m args below meth c H locs cells slots sl' Z C hW hz hl (hL.st1 hi hk hL') hc hs hR)
theorem eg_lstore_n {k : eg_K} {g : eg_G} {d bc bs n : Nat} {M : eg_M} {ls st : List Value} {pc : Nat} {Q : eg_Q} {i : Fin 4} {x : Int} (hd : decode g.2.1 pc = .ok (.lstore_n i, 1)) (hi : decide ((i : Nat) + 1 < ls.length) = true) (hk : eg_k1 ls (i : Nat) = true) {ls' : List Value} (hx : (ls.set (i : Nat) (vL x)).set ((i : Nat) + 1) vU = ls') (h : eg_E k g d bc bs n M ls' (st) (pc + 1) Q) : eg_E k g d bc bs n M ls (vL x :: st) (pc) Q := by
  intro p e R s m args below meth c H locs cells slots sl Z C hW hz hl hL hc hs hR
  have hi := of_decide_eq_true hi
  subst hx
  exact lv_lstore_n C.1 C.2.1 hd rfl hL.has (by have := hL.1; omega) rfl (fun sl' hL' => h p e R s m args below meth c H locs cells slots sl' Z C hW hz hl (hL.st2 hi hk hL') hc hs hR)
theorem eg_lstore {k : eg_K} {g : eg_G} {d bc bs n : Nat} {M : eg_M} {ls st : List Value} {pc : Nat} {Q : eg_Q} {i : Nat} {x : Int} (hd : decode g.2.1 pc = .ok (.lstore i, 2)) (hi : decide (i + 1 < ls.length) = true) (hk : eg_k1 ls i = true) {ls' : List Value} (hx : (ls.set i (vL x)).set (i + 1) vU = ls') (h : eg_E k g d bc bs n M ls' (st) (pc + 2) Q) : eg_E k g d bc bs n M ls (vL x :: st) (pc) Q := by
  intro p e R s m args below meth c H locs cells slots sl Z C hW hz hl hL hc hs hR
  have hi := of_decide_eq_true hi
  subst hx
  exact lv_lstore C.1 C.2.1 hd hL.has (by have := hL.1; omega) rfl (fun sl' hL' => h p e R s m args below meth c H locs cells slots sl' Z C hW hz hl (hL.st2 hi hk hL') hc hs hR)
theorem eg_astore_n {k : eg_K} {g : eg_G} {d bc bs n : Nat} {M : eg_M} {ls st : List Value} {pc : Nat} {Q : eg_Q} {i : Fin 4} {x : Nat} (hd : decode g.2.1 pc = .ok (.astore_n i, 1)) (hi : decide ((i : Nat) < ls.length) = true) (hk : eg_k1 ls (i : Nat) = true) {ls' : List Value} (hx : ls.set (i : Nat) (Value.ref x) = ls') (h : eg_E k g d bc bs n M ls' (st) (pc + 1) Q) : eg_E k g d bc bs n M ls (Value.ref x :: st) (pc) Q := by
  intro p e R s m args below meth c H locs cells slots sl Z C hW hz hl hL hc hs hR
  have hi := of_decide_eq_true hi
  subst hx
  exact lv_astore_n C.1 C.2.1 hd rfl hL.has (by have := hL.1; omega) rfl (fun sl' hL' => h p e R s m args below meth c H locs cells slots sl' Z C hW hz hl (hL.st1 hi hk hL') hc hs hR)
theorem eg_astore {k : eg_K} {g : eg_G} {d bc bs n : Nat} {M : eg_M} {ls st : List Value} {pc : Nat} {Q : eg_Q} {i : Nat} {x : Nat} (hd : decode g.2.1 pc = .ok (.astore i, 2)) (hi : decide (i < ls.length) = true) (hk : eg_k1 ls i = true) {ls' : List Value} (hx : ls.set i (Value.ref x) = ls') (h : eg_E k g d bc bs n M ls' (st) (pc + 2) Q) : eg_E k g d bc bs n M ls (Value.ref x :: st) (pc) Q := by
  intro p e R s m args below meth c H locs cells slots sl Z C hW hz hl hL hc hs hR
  have hi := of_decide_eq_true hi
  subst hx
  exact lv_astore C.1 C.2.1 hd hL.has (by have := hL.1; omega) rfl (fun sl' hL' => h p e R s m args below meth c H locs cells slots sl' Z C hW hz hl (hL.st1 hi hk hL') hc hs hR)
theorem eg_iinc {k : eg_K} {g : eg_G} {d bc bs n : Nat} {M : eg_M} {ls st : List Value} {pc : Nat} {Q : eg_Q} {i : Nat} {x a : Int} (hd : decode g.2.1 pc = .ok (.iinc i a, 3)) (hx : ls[i]? = some (vI x)) (hk : eg_k1 ls i = true) {ls' : List Value} (hs' : ls.set i (vI (x + a)) = ls') (h : eg_E k g d bc bs n M ls' (st) (pc + 3) Q) : eg_E k g d bc bs n M ls (st) (pc) Q := by
  intro p e R s m args below meth c H locs cells slots sl Z C hW hz hl hL hc hs hR
  have hi := (List.getElem?_eq_some_iff.mp hx).1
  subst hs'
  obtain ⟨j, hj⟩ := List.getElem?_of_mem (eg_en_mem (ls := ls) (q := (i, vI x)) |>.mpr ⟨hx, rfl⟩)
  exact lv_iinc (v := Int32.ofInt (x + a)) C.1 C.2.1 hd hL.has hj (Int32.ofInt_add x a).symm (by have := hL.1; omega) rfl (fun sl' hL' => h p e R s m args below meth c H locs cells slots sl' Z C hW hz hl (hL.st1 hi hk hL') hc hs hR)
theorem eg_dup {k : eg_K} {g : eg_G} {d bc bs n : Nat} {M : eg_M} {ls st : List Value} {pc : Nat} {Q : eg_Q} {v : Value} (hd : decode g.2.1 pc = .ok (.dup, 1)) (hc1 : v.category = 1) (h : eg_E k g d bc bs n M ls (v :: v :: st) (pc + 1) Q) : eg_E k g d bc bs n M ls (v :: st) (pc) Q := by
  intro p e R s m args below meth c H locs cells slots sl Z C hW hz hl hL hc hs hR
  exact lv_dup C.1 C.2.1 hd hc1 (h p e R s m args below meth c H locs cells slots sl Z C hW hz hl hL hc hs hR)
theorem eg_pop {k : eg_K} {g : eg_G} {d bc bs n : Nat} {M : eg_M} {ls st : List Value} {pc : Nat} {Q : eg_Q} {v : Value} (hd : decode g.2.1 pc = .ok (.pop, 1)) (hc1 : v.category = 1) (h : eg_E k g d bc bs n M ls (st) (pc + 1) Q) : eg_E k g d bc bs n M ls (v :: st) (pc) Q := by
  intro p e R s m args below meth c H locs cells slots sl Z C hW hz hl hL hc hs hR
  exact lv_pop C.1 C.2.1 hd hc1 (h p e R s m args below meth c H locs cells slots sl Z C hW hz hl hL hc hs hR)
theorem eg_dup_x1 {k : eg_K} {g : eg_G} {d bc bs n : Nat} {M : eg_M} {ls st : List Value} {pc : Nat} {Q : eg_Q} {v w : Value} (hd : decode g.2.1 pc = .ok (.dup_x1, 1)) (hc1 : v.category = 1) (hc2 : w.category = 1) (h : eg_E k g d bc bs n M ls (v :: w :: v :: st) (pc + 1) Q) : eg_E k g d bc bs n M ls (v :: w :: st) (pc) Q := by
  intro p e R s m args below meth c H locs cells slots sl Z C hW hz hl hL hc hs hR
  exact lv_dup_x1 C.1 C.2.1 hd hc1 hc2 (h p e R s m args below meth c H locs cells slots sl Z C hW hz hl hL hc hs hR)
theorem eg_dup2 {k : eg_K} {g : eg_G} {d bc bs n : Nat} {M : eg_M} {ls st : List Value} {pc : Nat} {Q : eg_Q} {v w : Value} (hd : decode g.2.1 pc = .ok (.dup2, 1)) (hc1 : v.category = 1) (hc2 : w.category = 1) (h : eg_E k g d bc bs n M ls (v :: w :: v :: w :: st) (pc + 1) Q) : eg_E k g d bc bs n M ls (v :: w :: st) (pc) Q := by
  intro p e R s m args below meth c H locs cells slots sl Z C hW hz hl hL hc hs hR
  exact lv_dup2_11 C.1 C.2.1 hd hc1 hc2 (h p e R s m args below meth c H locs cells slots sl Z C hW hz hl hL hc hs hR)
theorem eg_dup2L {k : eg_K} {g : eg_G} {d bc bs n : Nat} {M : eg_M} {ls st : List Value} {pc : Nat} {Q : eg_Q} {v : Value} (hd : decode g.2.1 pc = .ok (.dup2, 1)) (hc1 : v.category = 2) (h : eg_E k g d bc bs n M ls (v :: v :: st) (pc + 1) Q) : eg_E k g d bc bs n M ls (v :: st) (pc) Q := by
  intro p e R s m args below meth c H locs cells slots sl Z C hW hz hl hL hc hs hR
  exact lv_dup2_2 C.1 C.2.1 hd hc1 (h p e R s m args below meth c H locs cells slots sl Z C hW hz hl hL hc hs hR)
theorem eg_icmp_eq {k : eg_K} {g : eg_G} {d bc bs n : Nat} {M : eg_M} {ls st : List Value} {pc : Nat} {Q : eg_Q} {x y : Int} {off : Int} (tgt : Nat) (hd : decode g.2.1 pc = .ok (.if_icmp .eq off, 3)) (hx : iR x) (hy : iR y) (ht : (pc : Int) + off = (tgt : Int)) (h1 : x = y → eg_E k g d bc bs n M ls (st) (tgt) Q) (h2 : ¬ x = y → eg_E k g d bc bs n M ls (st) (pc + 3) Q) : eg_E k g d bc bs n M ls (vI y :: vI x :: st) (pc) Q := by
  intro p e R s m args below meth c H locs cells slots sl Z C hW hz hl hL hc hs hR
  exact lv_icmp_eq C.1 C.2.1 hd ht (fun q => h1 ((i_eq hx hy).mp q) p e R s m args below meth c H locs cells slots sl Z C hW hz hl hL hc hs hR) (fun q => h2 (fun z => q ((i_eq hx hy).mpr z)) p e R s m args below meth c H locs cells slots sl Z C hW hz hl hL hc hs hR)
theorem eg_if_eq {k : eg_K} {g : eg_G} {d bc bs n : Nat} {M : eg_M} {ls st : List Value} {pc : Nat} {Q : eg_Q} {x : Int} {off : Int} (tgt : Nat) (hd : decode g.2.1 pc = .ok (.ifCond .eq off, 3)) (hx : iR x) (ht : (pc : Int) + off = (tgt : Int)) (h1 : x = 0 → eg_E k g d bc bs n M ls (st) (tgt) Q) (h2 : ¬ x = 0 → eg_E k g d bc bs n M ls (st) (pc + 3) Q) : eg_E k g d bc bs n M ls (vI x :: st) (pc) Q := by
  intro p e R s m args below meth c H locs cells slots sl Z C hW hz hl hL hc hs hR
  exact lv_if_eq C.1 C.2.1 hd ht (fun q => h1 ((i_eq hx iR0).mp q) p e R s m args below meth c H locs cells slots sl Z C hW hz hl hL hc hs hR) (fun q => h2 (fun z => q ((i_eq hx iR0).mpr z)) p e R s m args below meth c H locs cells slots sl Z C hW hz hl hL hc hs hR)
theorem eg_icmp_ne {k : eg_K} {g : eg_G} {d bc bs n : Nat} {M : eg_M} {ls st : List Value} {pc : Nat} {Q : eg_Q} {x y : Int} {off : Int} (tgt : Nat) (hd : decode g.2.1 pc = .ok (.if_icmp .ne off, 3)) (hx : iR x) (hy : iR y) (ht : (pc : Int) + off = (tgt : Int)) (h1 : ¬ x = y → eg_E k g d bc bs n M ls (st) (tgt) Q) (h2 : x = y → eg_E k g d bc bs n M ls (st) (pc + 3) Q) : eg_E k g d bc bs n M ls (vI y :: vI x :: st) (pc) Q := by
  intro p e R s m args below meth c H locs cells slots sl Z C hW hz hl hL hc hs hR
  exact lv_icmp_ne C.1 C.2.1 hd ht (fun q => h1 ((not_congr (i_eq hx hy)).mp q) p e R s m args below meth c H locs cells slots sl Z C hW hz hl hL hc hs hR) (fun q => h2 ((i_eq hx hy).mp q) p e R s m args below meth c H locs cells slots sl Z C hW hz hl hL hc hs hR)
theorem eg_if_ne {k : eg_K} {g : eg_G} {d bc bs n : Nat} {M : eg_M} {ls st : List Value} {pc : Nat} {Q : eg_Q} {x : Int} {off : Int} (tgt : Nat) (hd : decode g.2.1 pc = .ok (.ifCond .ne off, 3)) (hx : iR x) (ht : (pc : Int) + off = (tgt : Int)) (h1 : ¬ x = 0 → eg_E k g d bc bs n M ls (st) (tgt) Q) (h2 : x = 0 → eg_E k g d bc bs n M ls (st) (pc + 3) Q) : eg_E k g d bc bs n M ls (vI x :: st) (pc) Q := by
  intro p e R s m args below meth c H locs cells slots sl Z C hW hz hl hL hc hs hR
  exact lv_if_ne C.1 C.2.1 hd ht (fun q => h1 ((not_congr (i_eq hx iR0)).mp q) p e R s m args below meth c H locs cells slots sl Z C hW hz hl hL hc hs hR) (fun q => h2 ((i_eq hx iR0).mp q) p e R s m args below meth c H locs cells slots sl Z C hW hz hl hL hc hs hR)
theorem eg_icmp_lt {k : eg_K} {g : eg_G} {d bc bs n : Nat} {M : eg_M} {ls st : List Value} {pc : Nat} {Q : eg_Q} {x y : Int} {off : Int} (tgt : Nat) (hd : decode g.2.1 pc = .ok (.if_icmp .lt off, 3)) (hx : iR x) (hy : iR y) (ht : (pc : Int) + off = (tgt : Int)) (h1 : x < y → eg_E k g d bc bs n M ls (st) (tgt) Q) (h2 : y ≤ x → eg_E k g d bc bs n M ls (st) (pc + 3) Q) : eg_E k g d bc bs n M ls (vI y :: vI x :: st) (pc) Q := by
  intro p e R s m args below meth c H locs cells slots sl Z C hW hz hl hL hc hs hR
  exact lv_icmp_lt C.1 C.2.1 hd ht (fun q => h1 ((i_lt hx hy).mp q) p e R s m args below meth c H locs cells slots sl Z C hW hz hl hL hc hs hR) (fun q => h2 (Int.not_lt.mp fun z => q ((i_lt hx hy).mpr z)) p e R s m args below meth c H locs cells slots sl Z C hW hz hl hL hc hs hR)
theorem eg_if_lt {k : eg_K} {g : eg_G} {d bc bs n : Nat} {M : eg_M} {ls st : List Value} {pc : Nat} {Q : eg_Q} {x : Int} {off : Int} (tgt : Nat) (hd : decode g.2.1 pc = .ok (.ifCond .lt off, 3)) (hx : iR x) (ht : (pc : Int) + off = (tgt : Int)) (h1 : x < 0 → eg_E k g d bc bs n M ls (st) (tgt) Q) (h2 : 0 ≤ x → eg_E k g d bc bs n M ls (st) (pc + 3) Q) : eg_E k g d bc bs n M ls (vI x :: st) (pc) Q := by
  intro p e R s m args below meth c H locs cells slots sl Z C hW hz hl hL hc hs hR
  exact lv_if_lt C.1 C.2.1 hd ht (fun q => h1 ((i_lt hx iR0).mp q) p e R s m args below meth c H locs cells slots sl Z C hW hz hl hL hc hs hR) (fun q => h2 (Int.not_lt.mp fun z => q ((i_lt hx iR0).mpr z)) p e R s m args below meth c H locs cells slots sl Z C hW hz hl hL hc hs hR)
theorem eg_icmp_ge {k : eg_K} {g : eg_G} {d bc bs n : Nat} {M : eg_M} {ls st : List Value} {pc : Nat} {Q : eg_Q} {x y : Int} {off : Int} (tgt : Nat) (hd : decode g.2.1 pc = .ok (.if_icmp .ge off, 3)) (hx : iR x) (hy : iR y) (ht : (pc : Int) + off = (tgt : Int)) (h1 : y ≤ x → eg_E k g d bc bs n M ls (st) (tgt) Q) (h2 : x < y → eg_E k g d bc bs n M ls (st) (pc + 3) Q) : eg_E k g d bc bs n M ls (vI y :: vI x :: st) (pc) Q := by
  intro p e R s m args below meth c H locs cells slots sl Z C hW hz hl hL hc hs hR
  exact lv_icmp_ge C.1 C.2.1 hd ht (fun q => h1 ((i_le hy hx).mp q) p e R s m args below meth c H locs cells slots sl Z C hW hz hl hL hc hs hR) (fun q => h2 (Int.not_le.mp fun z => q ((i_le hy hx).mpr z)) p e R s m args below meth c H locs cells slots sl Z C hW hz hl hL hc hs hR)
theorem eg_if_ge {k : eg_K} {g : eg_G} {d bc bs n : Nat} {M : eg_M} {ls st : List Value} {pc : Nat} {Q : eg_Q} {x : Int} {off : Int} (tgt : Nat) (hd : decode g.2.1 pc = .ok (.ifCond .ge off, 3)) (hx : iR x) (ht : (pc : Int) + off = (tgt : Int)) (h1 : 0 ≤ x → eg_E k g d bc bs n M ls (st) (tgt) Q) (h2 : x < 0 → eg_E k g d bc bs n M ls (st) (pc + 3) Q) : eg_E k g d bc bs n M ls (vI x :: st) (pc) Q := by
  intro p e R s m args below meth c H locs cells slots sl Z C hW hz hl hL hc hs hR
  exact lv_if_ge C.1 C.2.1 hd ht (fun q => h1 ((i_le iR0 hx).mp q) p e R s m args below meth c H locs cells slots sl Z C hW hz hl hL hc hs hR) (fun q => h2 (Int.not_le.mp fun z => q ((i_le iR0 hx).mpr z)) p e R s m args below meth c H locs cells slots sl Z C hW hz hl hL hc hs hR)
theorem eg_icmp_gt {k : eg_K} {g : eg_G} {d bc bs n : Nat} {M : eg_M} {ls st : List Value} {pc : Nat} {Q : eg_Q} {x y : Int} {off : Int} (tgt : Nat) (hd : decode g.2.1 pc = .ok (.if_icmp .gt off, 3)) (hx : iR x) (hy : iR y) (ht : (pc : Int) + off = (tgt : Int)) (h1 : y < x → eg_E k g d bc bs n M ls (st) (tgt) Q) (h2 : x ≤ y → eg_E k g d bc bs n M ls (st) (pc + 3) Q) : eg_E k g d bc bs n M ls (vI y :: vI x :: st) (pc) Q := by
  intro p e R s m args below meth c H locs cells slots sl Z C hW hz hl hL hc hs hR
  exact lv_icmp_gt C.1 C.2.1 hd ht (fun q => h1 ((i_lt hy hx).mp q) p e R s m args below meth c H locs cells slots sl Z C hW hz hl hL hc hs hR) (fun q => h2 (Int.not_lt.mp fun z => q ((i_lt hy hx).mpr z)) p e R s m args below meth c H locs cells slots sl Z C hW hz hl hL hc hs hR)
theorem eg_if_gt {k : eg_K} {g : eg_G} {d bc bs n : Nat} {M : eg_M} {ls st : List Value} {pc : Nat} {Q : eg_Q} {x : Int} {off : Int} (tgt : Nat) (hd : decode g.2.1 pc = .ok (.ifCond .gt off, 3)) (hx : iR x) (ht : (pc : Int) + off = (tgt : Int)) (h1 : 0 < x → eg_E k g d bc bs n M ls (st) (tgt) Q) (h2 : x ≤ 0 → eg_E k g d bc bs n M ls (st) (pc + 3) Q) : eg_E k g d bc bs n M ls (vI x :: st) (pc) Q := by
  intro p e R s m args below meth c H locs cells slots sl Z C hW hz hl hL hc hs hR
  exact lv_if_gt C.1 C.2.1 hd ht (fun q => h1 ((i_lt iR0 hx).mp q) p e R s m args below meth c H locs cells slots sl Z C hW hz hl hL hc hs hR) (fun q => h2 (Int.not_lt.mp fun z => q ((i_lt iR0 hx).mpr z)) p e R s m args below meth c H locs cells slots sl Z C hW hz hl hL hc hs hR)
theorem eg_icmp_le {k : eg_K} {g : eg_G} {d bc bs n : Nat} {M : eg_M} {ls st : List Value} {pc : Nat} {Q : eg_Q} {x y : Int} {off : Int} (tgt : Nat) (hd : decode g.2.1 pc = .ok (.if_icmp .le off, 3)) (hx : iR x) (hy : iR y) (ht : (pc : Int) + off = (tgt : Int)) (h1 : x ≤ y → eg_E k g d bc bs n M ls (st) (tgt) Q) (h2 : y < x → eg_E k g d bc bs n M ls (st) (pc + 3) Q) : eg_E k g d bc bs n M ls (vI y :: vI x :: st) (pc) Q := by
  intro p e R s m args below meth c H locs cells slots sl Z C hW hz hl hL hc hs hR
  exact lv_icmp_le C.1 C.2.1 hd ht (fun q => h1 ((i_le hx hy).mp q) p e R s m args below meth c H locs cells slots sl Z C hW hz hl hL hc hs hR) (fun q => h2 (Int.not_le.mp fun z => q ((i_le hx hy).mpr z)) p e R s m args below meth c H locs cells slots sl Z C hW hz hl hL hc hs hR)
theorem eg_if_le {k : eg_K} {g : eg_G} {d bc bs n : Nat} {M : eg_M} {ls st : List Value} {pc : Nat} {Q : eg_Q} {x : Int} {off : Int} (tgt : Nat) (hd : decode g.2.1 pc = .ok (.ifCond .le off, 3)) (hx : iR x) (ht : (pc : Int) + off = (tgt : Int)) (h1 : x ≤ 0 → eg_E k g d bc bs n M ls (st) (tgt) Q) (h2 : 0 < x → eg_E k g d bc bs n M ls (st) (pc + 3) Q) : eg_E k g d bc bs n M ls (vI x :: st) (pc) Q := by
  intro p e R s m args below meth c H locs cells slots sl Z C hW hz hl hL hc hs hR
  exact lv_if_le C.1 C.2.1 hd ht (fun q => h1 ((i_le hx iR0).mp q) p e R s m args below meth c H locs cells slots sl Z C hW hz hl hL hc hs hR) (fun q => h2 (Int.not_le.mp fun z => q ((i_le hx iR0).mpr z)) p e R s m args below meth c H locs cells slots sl Z C hW hz hl hL hc hs hR)
theorem eg_goto {k : eg_K} {g : eg_G} {d bc bs n : Nat} {M : eg_M} {ls st : List Value} {pc : Nat} {Q : eg_Q} {off : Int} (tgt : Nat) (hd : decode g.2.1 pc = .ok (.goto off, 3)) (ht : (pc : Int) + off = (tgt : Int)) (h : eg_E k g d bc bs n M ls (st) (tgt) Q) : eg_E k g d bc bs n M ls (st) (pc) Q := by
  intro p e R s m args below meth c H locs cells slots sl Z C hW hz hl hL hc hs hR
  exact lv_goto C.1 C.2.1 hd ht (h p e R s m args below meth c H locs cells slots sl Z C hW hz hl hL hc hs hR)
theorem eg_ireturn {k : eg_K} {g : eg_G} {d bc bs n : Nat} {M : eg_M} {ls : List Value} {pc : Nat} {Q : eg_Q} {x : Int} (hd : decode g.2.1 pc = .ok (.ireturn, 1)) {ty : FieldType} (ht : g.2.2.2 = some ty) (hn : narrow ty (vI x) = vI x) (h : Q (some (vI x)) n M) : eg_E k g d bc bs n M ls ([vI x]) (pc) Q := by
  intro p e R s m args below meth c H locs cells slots sl Z C hW hz hl hL hc hs hR
  exact W.widen (Nat.le_add_right _ _) (Nat.le_add_right _ _) (hR H locs sl n M (some (vI x)) pc hW hz hl h (Or.inl ⟨_, ty, rfl, hd, ht, hn⟩))
theorem eg_lreturn {k : eg_K} {g : eg_G} {d bc bs n : Nat} {M : eg_M} {ls : List Value} {pc : Nat} {Q : eg_Q} {x : Int} (hd : decode g.2.1 pc = .ok (.lreturn, 1)) (ht : g.2.2.2 = some .long) (h : Q (some (vL x)) n M) : eg_E k g d bc bs n M ls ([vL x]) (pc) Q := by
  intro p e R s m args below meth c H locs cells slots sl Z C hW hz hl hL hc hs hR
  exact W.widen (Nat.le_add_right _ _) (Nat.le_add_right _ _) (hR H locs sl n M (some (vL x)) pc hW hz hl h (Or.inr (Or.inl ⟨_, rfl, hd, ht⟩)))
theorem eg_areturn {k : eg_K} {g : eg_G} {d bc bs n : Nat} {M : eg_M} {ls : List Value} {pc : Nat} {Q : eg_Q} {a : Nat} {nm : FieldType} (hd : decode g.2.1 pc = .ok (.areturn, 1)) (ht : g.2.2.2 = some nm) (hnm : (∃ n, nm = .object n) ∨ ∃ t, nm = .array t) (h : Q (some (.ref a)) n M) : eg_E k g d bc bs n M ls ([.ref a]) (pc) Q := by
  intro p e R s m args below meth c H locs cells slots sl Z C hW hz hl hL hc hs hR
  exact W.widen (Nat.le_add_right _ _) (Nat.le_add_right _ _) (hR H locs sl n M (some (.ref a)) pc hW hz hl h (Or.inr (Or.inr (Or.inl ⟨a, nm, rfl, hd, ht, hnm⟩))))
theorem eg_return {k : eg_K} {g : eg_G} {d bc bs n : Nat} {M : eg_M} {ls : List Value} {pc : Nat} {Q : eg_Q} (hd : decode g.2.1 pc = .ok (.return_, 1)) (ht : g.2.2.2 = none) (h : Q none n M) : eg_E k g d bc bs n M ls ([]) (pc) Q := by
  intro p e R s m args below meth c H locs cells slots sl Z C hW hz hl hL hc hs hR
  exact W.widen (Nat.le_add_right _ _) (Nat.le_add_right _ _) (hR H locs sl n M none pc hW hz hl h (Or.inr (Or.inr (Or.inr ⟨rfl, hd, ht⟩))))
