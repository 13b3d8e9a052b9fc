theorem idivN_e {x y : Int} (hx : iR x) (hy : iR y) (h0 : 0 ≤ x) (h1 : 0 < y) : Int32.ofInt (-x) / Int32.ofInt y = Int32.ofInt (-(x / y)) := by
  have h2 : 0 ≤ x / y := Int.ediv_nonneg h0 (by omega)
  have h3 : x / y ≤ x := Int.ediv_le_self y h0
  have h4 := hx.2
  have h5 := hx.1
  rw [← Int32.toInt_inj, Int32.toInt_div, i_to (x := -x) ⟨by omega, by omega⟩, i_to hy, i_to (x := -(x / y)) ⟨by omega, by omega⟩, Int.neg_tdiv, Int.tdiv_eq_ediv_of_nonneg h0]
  exact Int.bmod_eq_of_le (by omega) (by omega)
theorem eg_idivN {k : eg_K} {g : eg_G} {d bc bs n : Nat} {M : eg_M} {ls st : List Value} {pc : Nat} {Q : eg_Q} {x y : Int} (hd : decode g.2.1 pc = .ok (.idiv, 1)) (hx : iR x) (hy : iR y) (h0 : 0 ≤ x) (hp : 0 < y) (h : eg_E k g d bc bs n (M) ls (vI (-(x / y)) :: st) (pc + 1) Q) : eg_E k g d bc bs n (M) ls (vI y :: vI (-x) :: st) (pc) Q := by
  intro p e R s m args below meth c H locs cells slots sl Z C hW hz hl hL hc hs hR
  have h1 := h p e R s m args below meth c H locs cells slots sl Z C hW hz hl hL hc hs hR
  unfold vI at h1
  rw [← idivN_e hx hy h0 hp] at h1
  exact lv_idiv C.1 C.2.1 hd (i_ne0 hy hp) h1
theorem eg_dg1 {k : eg_K} {g : eg_G} {d bc bs n : Nat} {M : eg_M} {ls st : List Value} {pc : Nat} {Q : eg_Q} {x : Int} (h0 : 0 ≤ x) (h1 : x < 100) (hd : decode g.2.1 pc = .ok (.baload, 1)) (h : eg_E k g d bc bs n M ls (vI (48 + (x.toNat % 10 : Nat)) :: st) (pc + 1) Q) : eg_E k g d bc bs n M ls (vI x :: .ref (eg_d1 k) :: st) pc Q := by
  intro p e R s m args below meth c H locs cells slots sl Z C hW hz hl hL hc hs hR
  obtain ⟨cell, g1, g2, g3, g4, g5, g6, g7⟩ := C.2.2.2.2.2.2.1.2.2.2.1.2.2.2.1
  have h1' : x < ((100 : Nat) : Int) := h1
  have e1 : (Int32.ofInt x).toNatClampNeg = x.toNat := i_nat h0 h1' (by decide)
  have hin := i_in h0 h1' (by decide)
  have e2 : ¬ (Int32.ofInt x < 0 ∨ cell.slots.size ≤ (Int32.ofInt x).toNatClampNeg) := by
    intro q
    rcases q with q | q
    · exact hin (Or.inl q)
    · rw [e1] at q; omega
  exact W.bald (v := vI (48 + (x.toNat % 10 : Nat))) C.1 C.2.1 (eg_ro hW g1 g7) g2 g3 e2 (by rw [e1]; exact g6 _ (by omega)) rfl rfl hd (h p e R s m args below meth c H locs cells slots sl Z C hW hz hl hL hc hs hR)
theorem eg_gd1 {k : eg_K} {g : eg_G} {d bc bs n : Nat} {M : eg_M} {ls st : List Value} {pc : Nat} {Q : eg_Q} {idx : Nat} (hw : Cond.fieldLink g.1.cls idx "java/lang/Integer" "DigitOnes" "[B" ∈ eg_T) (hd : decode g.2.1 pc = .ok (.getstatic idx, 3)) (h : eg_E k g d bc bs n M ls (.ref (eg_d1 k) :: st) (pc + 3) Q) : eg_E k g d bc bs n M ls st pc Q := eg_gst (v := .ref (eg_d1 k)) (fun s V => V.2.2.2.1.2.2.1) hw hd h
theorem eg_dg2 {k : eg_K} {g : eg_G} {d bc bs n : Nat} {M : eg_M} {ls st : List Value} {pc : Nat} {Q : eg_Q} {x : Int} (h0 : 0 ≤ x) (h1 : x < 100) (hd : decode g.2.1 pc = .ok (.baload, 1)) (h : eg_E k g d bc bs n M ls (vI (48 + (x.toNat / 10 : Nat)) :: st) (pc + 1) Q) : eg_E k g d bc bs n M ls (vI x :: .ref (eg_d2 k) :: st) pc Q := by
  intro p e R s m args below meth c H locs cells slots sl Z C hW hz hl hL hc hs hR
  obtain ⟨cell, g1, g2, g3, g4, g5, g6, g7⟩ := C.2.2.2.2.2.2.1.2.2.2.1.2.2.2.2.2.1
  have h1' : x < ((100 : Nat) : Int) := h1
  have e1 : (Int32.ofInt x).toNatClampNeg = x.toNat := i_nat h0 h1' (by decide)
  have hin := i_in h0 h1' (by decide)
  have e2 : ¬ (Int32.ofInt x < 0 ∨ cell.slots.size ≤ (Int32.ofInt x).toNatClampNeg) := by
    intro q
    rcases q with q | q
    · exact hin (Or.inl q)
    · rw [e1] at q; omega
  exact W.bald (v := vI (48 + (x.toNat / 10 : Nat))) C.1 C.2.1 (eg_ro hW g1 g7) g2 g3 e2 (by rw [e1]; exact g6 _ (by omega)) rfl rfl hd (h p e R s m args below meth c H locs cells slots sl Z C hW hz hl hL hc hs hR)
theorem eg_gd2 {k : eg_K} {g : eg_G} {d bc bs n : Nat} {M : eg_M} {ls st : List Value} {pc : Nat} {Q : eg_Q} {idx : Nat} (hw : Cond.fieldLink g.1.cls idx "java/lang/Integer" "DigitTens" "[B" ∈ eg_T) (hd : decode g.2.1 pc = .ok (.getstatic idx, 3)) (h : eg_E k g d bc bs n M ls (.ref (eg_d2 k) :: st) (pc + 3) Q) : eg_E k g d bc bs n M ls st pc Q := eg_gst (v := .ref (eg_d2 k)) (fun s V => V.2.2.2.1.2.2.2.2.1) hw hd h
theorem nb_n {x : Int} (h : 0 ≤ x ∧ x < 128) : narrow .byte (vI x) = vI x := by
  obtain ⟨m, rfl⟩ : ∃ m : Nat, x = (m : Int) := ⟨x.toNat, by omega⟩
  have h2 : m < 128 := by omega
  have : ∀ m : Nat, m < 128 → narrow .byte (vI (m : Int)) = vI (m : Int) := by decide +kernel
  exact this m h2
/-- the digits of a number below 10000 -/
theorem nd_1 {x : Int} (h : 0 ≤ x ∧ x ≤ 9) : ndF 3 x = [48 + x % 10] := by
  show (if 9 < x then ndF 2 (x / 10) else []) ++ [48 + x % 10] = _
  rw [if_neg (by omega)]; rfl
theorem nd_2 {x : Int} (h : 10 ≤ x ∧ x ≤ 99) : ndF 3 x = [48 + x / 10 % 10, 48 + x % 10] := by
  show (if 9 < x then (if 9 < x / 10 then ndF 1 (x / 10 / 10) else []) ++ [48 + x / 10 % 10] else []) ++ [48 + x % 10] = _
  rw [if_pos (by omega), if_neg (by omega)]; rfl
theorem nd_3 {x : Int} (h : 100 ≤ x ∧ x ≤ 999) : ndF 3 x = [48 + x / 10 / 10 % 10, 48 + x / 10 % 10, 48 + x % 10] := by
  show (if 9 < x then (if 9 < x / 10 then (if 9 < x / 10 / 10 then ndF 0 (x / 10 / 10 / 10) else []) ++ [48 + x / 10 / 10 % 10] else []) ++ [48 + x / 10 % 10] else []) ++ [48 + x % 10] = _
  rw [if_pos (by omega), if_pos (by omega), if_neg (by omega)]; rfl
theorem nd_4 {x : Int} (h : 1000 ≤ x ∧ x ≤ 9999) : ndF 3 x = [48 + x / 10 / 10 / 10 % 10, 48 + x / 10 / 10 % 10, 48 + x / 10 % 10, 48 + x % 10] := by
  show (if 9 < x then (if 9 < x / 10 then (if 9 < x / 10 / 10 then [48 + x / 10 / 10 / 10 % 10] else []) ++ [48 + x / 10 / 10 % 10] else []) ++ [48 + x / 10 % 10] else []) ++ [48 + x % 10] = _
  rw [if_pos (by omega), if_pos (by omega), if_pos (by omega)]; rfl
theorem nd_l {x : Int} (h : 0 ≤ x ∧ x ≤ 9999) : (ndF 3 x).length = if x ≤ 9 then 1 else if x ≤ 99 then 2 else if x ≤ 999 then 3 else 4 := by
  by_cases h1 : x ≤ 9
  · rw [if_pos h1, nd_1 ⟨h.1, h1⟩]; rfl
  · rw [if_neg h1]
    by_cases h2 : x ≤ 99
    · rw [if_pos h2, nd_2 ⟨by omega, h2⟩]; rfl
    · rw [if_neg h2]
      by_cases h3 : x ≤ 999
      · rw [if_pos h3, nd_3 ⟨by omega, h3⟩]; rfl
      · rw [if_neg h3, nd_4 ⟨by omega, h.2⟩]; rfl
theorem c_strSize {k : eg_K} {M : eg_M} {n : Nat} {x : Int} (hx : 0 ≤ x ∧ x ≤ 9999) : eg_P k gJ6_stringSize_0f7a4 0 0 0 [vI x] n (M) (eg_f (some (vI ((ndF 3 x).length : Int))) n M) := by
  refine eg_P.of (by decide) (Nat.le_of_ble_eq_true rfl) ?_
  show eg_E k gJ6_stringSize_0f7a4 0 0 0 n (M) [vI x, vU, vU, vU] [] 0 _
  have hx1 := hx.1; have hx2 := hx.2
  refine eg_iconst dJ6_stringSize_0f7a4_0 ?_
  refine eg_istore_n dJ6_stringSize_0f7a4_1 rfl rfl rfl ?_
  refine eg_iload_n dJ6_stringSize_0f7a4_2 rfl ?_
  refine eg_if_lt 11 dJ6_stringSize_0f7a4_3 ⟨by omega, by omega⟩ rfl (fun h3 => absurd h3 (by omega)) (fun h3 => ?_)
  refine eg_iconst dJ6_stringSize_0f7a4_6 ?_
  refine eg_istore_n dJ6_stringSize_0f7a4_7 rfl rfl rfl ?_
  refine eg_iload_n dJ6_stringSize_0f7a4_8 rfl ?_
  refine eg_ineg dJ6_stringSize_0f7a4_9 ?_
  refine eg_istore_n dJ6_stringSize_0f7a4_10 rfl rfl rfl ?_
  refine eg_bipush dJ6_stringSize_0f7a4_11 (by decide) ?_
  refine eg_istore_n dJ6_stringSize_0f7a4_13 rfl rfl rfl ?_
  refine eg_iconst dJ6_stringSize_0f7a4_14 ?_
  refine eg_istore_n dJ6_stringSize_0f7a4_15 rfl rfl rfl ?_
  refine eg_iload_n dJ6_stringSize_0f7a4_16 rfl ?_
  refine eg_bipush dJ6_stringSize_0f7a4_17 (by decide) ?_
  refine eg_icmp_ge 42 dJ6_stringSize_0f7a4_19 ⟨by omega, by omega⟩ ⟨by omega, by omega⟩ rfl (fun h19 => absurd h19 (by omega)) (fun h19 => ?_)
  refine eg_iload_n dJ6_stringSize_0f7a4_22 rfl ?_
  refine eg_iload_n dJ6_stringSize_0f7a4_23 rfl ?_
  refine eg_icmp_le 31 dJ6_stringSize_0f7a4_24 ⟨by omega, by omega⟩ ⟨by omega, by omega⟩ rfl (fun h24 => ?_) (fun h24 => ?_)
  · refine eg_bipush dJ6_stringSize_0f7a4_31 (by decide) ?_
    refine eg_iload_n dJ6_stringSize_0f7a4_33 rfl ?_
    refine eg_imul dJ6_stringSize_0f7a4_34 ?_
    refine eg_istore_n dJ6_stringSize_0f7a4_35 rfl rfl rfl ?_
    refine eg_iinc dJ6_stringSize_0f7a4_36 rfl rfl rfl ?_
    refine eg_goto 16 dJ6_stringSize_0f7a4_39 rfl ?_
    refine eg_iload_n dJ6_stringSize_0f7a4_16 rfl ?_
    refine eg_bipush dJ6_stringSize_0f7a4_17 (by decide) ?_
    refine eg_icmp_ge 42 dJ6_stringSize_0f7a4_19 ⟨by omega, by omega⟩ ⟨by omega, by omega⟩ rfl (fun h19 => absurd h19 (by omega)) (fun h19 => ?_)
    refine eg_iload_n dJ6_stringSize_0f7a4_22 rfl ?_
    refine eg_iload_n dJ6_stringSize_0f7a4_23 rfl ?_
    refine eg_icmp_le 31 dJ6_stringSize_0f7a4_24 ⟨by omega, by omega⟩ ⟨by omega, by omega⟩ rfl (fun h24 => ?_) (fun h24 => ?_)
    · refine eg_bipush dJ6_stringSize_0f7a4_31 (by decide) ?_
      refine eg_iload_n dJ6_stringSize_0f7a4_33 rfl ?_
      refine eg_imul dJ6_stringSize_0f7a4_34 ?_
      refine eg_istore_n dJ6_stringSize_0f7a4_35 rfl rfl rfl ?_
      refine eg_iinc dJ6_stringSize_0f7a4_36 rfl rfl rfl ?_
      refine eg_goto 16 dJ6_stringSize_0f7a4_39 rfl ?_
      refine eg_iload_n dJ6_stringSize_0f7a4_16 rfl ?_
      refine eg_bipush dJ6_stringSize_0f7a4_17 (by decide) ?_
      refine eg_icmp_ge 42 dJ6_stringSize_0f7a4_19 ⟨by omega, by omega⟩ ⟨by omega, by omega⟩ rfl (fun h19 => absurd h19 (by omega)) (fun h19 => ?_)
      refine eg_iload_n dJ6_stringSize_0f7a4_22 rfl ?_
      refine eg_iload_n dJ6_stringSize_0f7a4_23 rfl ?_
      refine eg_icmp_le 31 dJ6_stringSize_0f7a4_24 ⟨by omega, by omega⟩ ⟨by omega, by omega⟩ rfl (fun h24 => ?_) (fun h24 => ?_)
      · refine eg_bipush dJ6_stringSize_0f7a4_31 (by decide) ?_
        refine eg_iload_n dJ6_stringSize_0f7a4_33 rfl ?_
        refine eg_imul dJ6_stringSize_0f7a4_34 ?_
        refine eg_istore_n dJ6_stringSize_0f7a4_35 rfl rfl rfl ?_
        refine eg_iinc dJ6_stringSize_0f7a4_36 rfl rfl rfl ?_
        refine eg_goto 16 dJ6_stringSize_0f7a4_39 rfl ?_
        refine eg_iload_n dJ6_stringSize_0f7a4_16 rfl ?_
        refine eg_bipush dJ6_stringSize_0f7a4_17 (by decide) ?_
        refine eg_icmp_ge 42 dJ6_stringSize_0f7a4_19 ⟨by omega, by omega⟩ ⟨by omega, by omega⟩ rfl (fun h19 => absurd h19 (by omega)) (fun h19 => ?_)
        refine eg_iload_n dJ6_stringSize_0f7a4_22 rfl ?_
        refine eg_iload_n dJ6_stringSize_0f7a4_23 rfl ?_
        refine eg_icmp_le 31 dJ6_stringSize_0f7a4_24 ⟨by omega, by omega⟩ ⟨by omega, by omega⟩ rfl (fun h24 => absurd h24 (by omega)) (fun h24 => ?_)
        refine eg_iload_n dJ6_stringSize_0f7a4_27 rfl ?_
        refine eg_iload_n dJ6_stringSize_0f7a4_28 rfl ?_
        refine eg_iadd dJ6_stringSize_0f7a4_29 ?_
        refine eg_ireturn dJ6_stringSize_0f7a4_30 rfl rfl ?_
        refine ⟨congrArg (fun q => some (vI q)) ?_, rfl, rfl⟩
        rw [nd_l hx]
        (repeat' split) <;> omega
      · refine eg_iload_n dJ6_stringSize_0f7a4_27 rfl ?_
        refine eg_iload_n dJ6_stringSize_0f7a4_28 rfl ?_
        refine eg_iadd dJ6_stringSize_0f7a4_29 ?_
        refine eg_ireturn dJ6_stringSize_0f7a4_30 rfl rfl ?_
        refine ⟨congrArg (fun q => some (vI q)) ?_, rfl, rfl⟩
        rw [nd_l hx]
        (repeat' split) <;> omega
    · refine eg_iload_n dJ6_stringSize_0f7a4_27 rfl ?_
      refine eg_iload_n dJ6_stringSize_0f7a4_28 rfl ?_
      refine eg_iadd dJ6_stringSize_0f7a4_29 ?_
      refine eg_ireturn dJ6_stringSize_0f7a4_30 rfl rfl ?_
      refine ⟨congrArg (fun q => some (vI q)) ?_, rfl, rfl⟩
      rw [nd_l hx]
      (repeat' split) <;> omega
  · refine eg_iload_n dJ6_stringSize_0f7a4_27 rfl ?_
    refine eg_iload_n dJ6_stringSize_0f7a4_28 rfl ?_
    refine eg_iadd dJ6_stringSize_0f7a4_29 ?_
    refine eg_ireturn dJ6_stringSize_0f7a4_30 rfl rfl ?_
    refine ⟨congrArg (fun q => some (vI q)) ?_, rfl, rfl⟩
    rw [nd_l hx]
    (repeat' split) <;> omega
