theorem ush_e {x : Int} (hx : iR x) : ((Int32.ofInt x).toUInt32 >>> ((Int32.ofInt 31).toUInt32 &&& Int32.toUInt32 31)).toInt32 = Int32.ofInt (if x < 0 then 1 else 0) := by
  have e1 : (Int32.ofInt 31).toUInt32 &&& Int32.toUInt32 31 = 31 := by decide
  rw [e1]
  have e2 : (Int32.ofInt x).toUInt32.toNat = (x % 4294967296).toNat := by
    show (BitVec.ofInt 32 x).toNat = _
    rw [BitVec.toNat_ofInt]
    rfl
  have hx1 := hx.1
  have hx2 := hx.2
  have e3 : ((Int32.ofInt x).toUInt32 >>> 31) = (if x < 0 then 1 else 0) := by
    rw [← UInt32.toNat_inj, UInt32.toNat_shiftRight, e2]
    show (x % 4294967296).toNat >>> 31 = _
    rw [Nat.shiftRight_eq_div_pow]
    split
    · show _ = 1
      omega
    · show _ = 0
      omega
  rw [e3]
  split <;> rfl
theorem eg_iushr31 {k : eg_K} {g : eg_G} {d bc bs n : Nat} {M : eg_M} {ls st : List Value} {pc : Nat} {Q : eg_Q} {x : Int} (hd : decode g.2.1 pc = .ok (.iushr, 1)) (hx : iR x) (h : eg_E k g d bc bs n (M) ls (vI (if x < 0 then 1 else 0) :: st) (pc + 1) Q) : eg_E k g d bc bs n (M) ls (vI 31 :: vI x :: st) (pc) Q := by
  intro p e R s m args below meth c H locs cells slots sl Z C hW hz hl hL hc hs hR
  exact lv_iushr C.1 C.2.1 hd (ush_e hx) (h p e R s m args below meth c H locs cells slots sl Z C hW hz hl hL hc hs hR)
theorem eg_iorC {k : eg_K} {g : eg_G} {d bc bs n : Nat} {M : eg_M} {ls st : List Value} {pc : Nat} {Q : eg_Q} {x y w : Int} (hd : decode g.2.1 pc = .ok (.ior, 1)) (hw : Int32.ofInt x ||| Int32.ofInt y = Int32.ofInt w) (h : eg_E k g d bc bs n (M) ls (vI w :: st) (pc + 1) Q) : eg_E k g d bc bs n (M) ls (vI y :: vI x :: st) (pc) Q := by
  intro p e R s m args below meth c H locs cells slots sl Z C hW hz hl hL hc hs hR
  have h1 := h p e R s m args below meth c H locs cells slots sl Z C hW hz hl hL hc hs hR
  unfold vI at h1
  rw [← hw] at h1
  exact lv_ior C.1 C.2.1 hd h1
theorem c_signum {k : eg_K} {M : eg_M} {n : Nat} {x : Int} (hx : -2147483648 < x ∧ x ≤ 2147483647) : eg_P k gJ6_signum_0f7a4 0 0 0 [vI x] n M (eg_f (some (vI (if x < 0 then -1 else if x = 0 then 0 else 1))) n M) := by
  refine eg_P.of (by decide) (Nat.le_of_ble_eq_true rfl) ?_
  show eg_E k gJ6_signum_0f7a4 0 0 0 n M [vI x] [] 0 _
  refine eg_iload_n dJ6_signum_0f7a4_0 rfl ?_
  refine eg_bipush dJ6_signum_0f7a4_1 (by decide) ?_
  refine eg_ishr (j := 31) dJ6_signum_0f7a4_3 ⟨by omega, by omega⟩ (by decide) ?_
  refine eg_iload_n dJ6_signum_0f7a4_4 rfl ?_
  refine eg_ineg dJ6_signum_0f7a4_5 ?_
  refine eg_bipush dJ6_signum_0f7a4_6 (by decide) ?_
  refine eg_iushr31 dJ6_signum_0f7a4_8 ⟨by omega, by omega⟩ ?_
  have e31 : (2 : Int) ^ 31 = 2147483648 := rfl
  refine eg_iorC (w := if x < 0 then -1 else if x = 0 then 0 else 1) dJ6_signum_0f7a4_9 ?_ ?_
  · rw [e31]
    by_cases h1 : x < 0
    · rw [if_pos h1, if_neg (show ¬ -x < 0 by omega), show x / 2147483648 = -1 by omega]; decide
    · rw [if_neg h1]
      by_cases h2 : x = 0
      · rw [if_pos h2, if_neg (show ¬ -x < 0 by omega), show x / 2147483648 = 0 by omega]; decide
      · rw [if_neg h2, if_pos (show -x < 0 by omega), show x / 2147483648 = 0 by omega]; decide
  · refine eg_ireturn dJ6_signum_0f7a4_10 rfl rfl ?_
    exact ⟨rfl, rfl, rfl⟩
/-- the first of the balances above 0 -/
def fsP (f : Nat → Int) : Nat → Nat → Int
  | 0, _ => -1
  | m + 1, i => if 0 < f i then (i : Int) else fsP f m (i + 1)
def ngF (f : Nat → Int) : Int := fsP f 6 0
def nlF (f : Nat → Int) : Int := fsP (fun i => -f i) 6 0
def naF (f : Nat → Int) : Int := mn (f (ngF f).toNat) (-f (nlF f).toNat)
def stB (f : Nat → Int) : Prop := ngF f = -1 ∨ nlF f = -1
/-- a trade is noted -/
def trV (f : Nat → Int) : Nat → Int := va_up (va_up f (ngF f).toNat (f (ngF f).toNat - naF f)) (nlF f).toNat (f (nlF f).toNat + naF f)
def ntF (f : Nat → Int) : Nat → Nat → Int
  | 0 => f
  | j + 1 => trV (ntF f j)
def nTn (f : Nat → Int) : Nat → Nat → Nat
  | 0, j => j
  | m + 1, j => if ngF (ntF f j) = -1 ∨ nlF (ntF f j) = -1 then j else nTn f m (j + 1)
def blV (v : eg_v) : Nat → Int := fun i => if (i : Int) < v 2 then gH v i 4 else 0
theorem fsP_b {f : Nat → Int} : ∀ m i : Nat, fsP f m i = -1 ∨ ((i : Int) ≤ fsP f m i ∧ fsP f m i < i + m ∧ 0 < f (fsP f m i).toNat)
  | 0, i => Or.inl rfl
  | m + 1, i => by
    show (if 0 < f i then (i : Int) else fsP f m (i + 1)) = -1 ∨ _
    by_cases h : 0 < f i
    · refine Or.inr ?_
      show (i : Int) ≤ (if 0 < f i then (i : Int) else fsP f m (i + 1)) ∧ (if 0 < f i then (i : Int) else fsP f m (i + 1)) < i + (m + 1 : Nat) ∧ 0 < f (if 0 < f i then (i : Int) else fsP f m (i + 1)).toNat
      rw [if_pos h]
      exact ⟨by omega, by omega, by rw [show (i : Int).toNat = i by omega]; exact h⟩
    · show (if 0 < f i then (i : Int) else fsP f m (i + 1)) = -1 ∨ ((i : Int) ≤ (if 0 < f i then (i : Int) else fsP f m (i + 1)) ∧ (if 0 < f i then (i : Int) else fsP f m (i + 1)) < i + (m + 1 : Nat) ∧ 0 < f (if 0 < f i then (i : Int) else fsP f m (i + 1)).toNat)
      rw [if_neg h]
      rcases fsP_b (f := f) m (i + 1) with e | e
      · exact Or.inl e
      · exact Or.inr ⟨by omega, by omega, e.2.2⟩
theorem fsP_c {f g : Nat → Int} : ∀ m i : Nat, (∀ j, j < i + m → f j = g j) → fsP f m i = fsP g m i
  | 0, i, _ => rfl
  | m + 1, i, h => by
    show (if 0 < f i then (i : Int) else fsP f m (i + 1)) = (if 0 < g i then (i : Int) else fsP g m (i + 1))
    rw [h i (by omega), fsP_c m (i + 1) (fun j hj => h j (by omega))]
/-- who gives and who gets, if there is a trade -/
theorem trd {f : Nat → Int} (h : ¬ (ngF f = -1 ∨ nlF f = -1)) : (0 ≤ ngF f ∧ ngF f < 6 ∧ 0 < f (ngF f).toNat) ∧ (0 ≤ nlF f ∧ nlF f < 6 ∧ f (nlF f).toNat < 0) ∧ (ngF f).toNat ≠ (nlF f).toNat ∧ 0 < naF f ∧ naF f ≤ f (ngF f).toNat ∧ naF f ≤ -f (nlF f).toNat := by
  have a := fsP_b (f := f) 6 0
  have b := fsP_b (f := fun i => -f i) 6 0
  have a1 : 0 ≤ ngF f ∧ ngF f < 6 ∧ 0 < f (ngF f).toNat := by
    rcases a with a | a
    · exact absurd (Or.inl a) h
    · exact ⟨by have := a.1; unfold ngF; omega, by have := a.2.1; unfold ngF; omega, a.2.2⟩
  have b1 : 0 ≤ nlF f ∧ nlF f < 6 ∧ f (nlF f).toNat < 0 := by
    rcases b with b | b
    · exact absurd (Or.inr b) h
    · have b3 : 0 < -f (nlF f).toNat := b.2.2
      exact ⟨by have := b.1; unfold nlF; omega, by have := b.2.1; unfold nlF; omega, by omega⟩
  refine ⟨a1, b1, fun e => ?_, ?_, ?_, ?_⟩
  · have := a1.2.2; have := b1.2.2; rw [e] at *; omega
  · unfold naF mn; split <;> omega
  · unfold naF mn; split <;> omega
  · unfold naF mn; split <;> omega
theorem trV_b {f : Nat → Int} {K : Int} (h : ¬ (ngF f = -1 ∨ nlF f = -1)) (hb : ∀ i, i < 6 → -K ≤ f i ∧ f i ≤ K) : ∀ i, i < 6 → -K ≤ trV f i ∧ trV f i ≤ K := by
  obtain ⟨a, b, c, d, e, g⟩ := trd h
  intro i hi
  have h1 := hb i hi
  unfold trV
  by_cases h2 : i = (nlF f).toNat
  · subst h2; rw [va_up_s]; omega
  · rw [va_up_n _ _ h2]
    by_cases h3 : i = (ngF f).toNat
    · subst h3; rw [va_up_s]; omega
    · rw [va_up_n _ _ h3]; exact h1
theorem trV_c {f g : Nat → Int} (h : ∀ i, i < 6 → f i = g i) (hs : ¬ (ngF f = -1 ∨ nlF f = -1)) : ngF f = ngF g ∧ nlF f = nlF g ∧ naF f = naF g ∧ ∀ i, i < 6 → trV f i = trV g i := by
  have e1 : ngF f = ngF g := fsP_c 6 0 (fun j hj => h j (by omega))
  have e2 : nlF f = nlF g := fsP_c 6 0 (fun j hj => by show -f j = -g j; rw [h j (by omega)])
  obtain ⟨a, b, -⟩ := trd hs
  have e3 : naF f = naF g := by unfold naF; rw [← e1, ← e2, h _ (by omega), h _ (by omega)]
  refine ⟨e1, e2, e3, fun i hi => ?_⟩
  unfold trV
  rw [← e1, ← e2, ← e3, h _ (show (ngF f).toNat < 6 by omega), h _ (show (nlF f).toNat < 6 by omega)]
  by_cases h2 : i = (nlF f).toNat
  · subst h2; rw [va_up_s, va_up_s]
  · rw [va_up_n _ _ h2, va_up_n _ _ h2]
    by_cases h3 : i = (ngF f).toNat
    · subst h3; rw [va_up_s, va_up_s]
    · rw [va_up_n _ _ h3, va_up_n _ _ h3]; exact h i hi
theorem c_firstOfp {k : eg_K} {z : eg_Z} {X : eg_M} {n : Nat} (hbd : ∀ i, i < 6 → -100000000 ≤ z 200 i ∧ z 200 i ≤ 100000000) : eg_P k gX1_firstOf 1 0 0 [vR k 199, vI (1)] n (enc k z X) (eg_f (some (vI (fsP (z 200) 6 0))) n (enc k z X)) := by
  refine eg_P.of (by decide) (Nat.le_of_ble_eq_true rfl) ?_
  show eg_E k gX1_firstOf 1 0 0 n (enc k z X) [vR k 199, vI (1), vU] [] 0 _
  have L : ∀ (m : Nat) (i : Nat), i ≤ 6 → fsP (z 200) (6 - i) i = fsP (z 200) 6 0 → 6 - (i : Int) < (m : Int) → eg_E k gX1_firstOf 1 0 0 n (enc k z X) [vR k 199, vI (1), vI (i : Int)] [] 2 (eg_f (some (vI (fsP (z 200) 6 0))) n (enc k z X)) := by
    intro m
    induction m with
    | zero => intro i h1 hi hm; exfalso; omega
    | succ m ih =>
      intro i h1 hi hm
      refine eg_iload_n dX1_firstOf_2 rfl ?_
      refine eg_bipush dX1_firstOf_3 (by decide) ?_
      refine eg_icmp_ge 29 dX1_firstOf_5 ⟨by omega, by omega⟩ ⟨by omega, by omega⟩ rfl (fun h5 => ?_) (fun h5 => ?_)
      · refine eg_iconst dX1_firstOf_29 ?_
        refine eg_ireturn dX1_firstOf_30 rfl rfl ?_
        refine ⟨congrArg (fun q => some (vI q)) ?_, rfl, rfl⟩
        rw [← hi, show 6 - i = 0 by omega]
        rfl
      · refine eg_al_n dX1_firstOf_8 rfl rfl ?_
        refine eg_get fl_X1_9 dX1_firstOf_9 (by first | exact er199 | exact er200 | exact er201 | exact ep0 hb | exact ep5 hb) rfl ?_
        refine eg_iload_n dX1_firstOf_12 rfl ?_
        refine eg_iald dX1_firstOf_13 (by first | exact er199 | exact er200 | exact er201 | exact ep0 hb | exact ep5 hb) (by omega) (by omega) (by decide) ?_
        have b9 := hbd i (by omega)
        rw [show (i : Int).toNat = i by omega]
        refine eg_Sf1 cs_X1_56 dX1_firstOf_14 (c_signum ⟨by omega, by omega⟩) (Nat.le_of_ble_eq_true rfl) (by decide) ?_
        have r9 : -2147483648 ≤ (if z 200 i < 0 then (-1 : Int) else if z 200 i = 0 then 0 else 1) ∧ (if z 200 i < 0 then (-1 : Int) else if z 200 i = 0 then 0 else 1) ≤ 2147483647 := by split <;> (try split) <;> omega
        refine eg_iload_n dX1_firstOf_17 rfl ?_
        refine eg_icmp_ne 23 dX1_firstOf_18 ⟨by omega, by omega⟩ ⟨by omega, by omega⟩ rfl (fun h18 => ?_) (fun h18 => ?_)
        · refine eg_iinc dX1_firstOf_23 rfl rfl rfl ?_
          refine eg_goto 2 dX1_firstOf_26 rfl ?_
          have := ih (i + 1) (by omega) ?_ (by omega)
          · exact this
          · rw [← hi, show 6 - i = (6 - (i + 1)) + 1 by omega]; show _ = (if 0 < z 200 i then (i : Int) else _); rw [if_neg (by split at h18 <;> (try split at h18) <;> omega)]
        · refine eg_iload_n dX1_firstOf_21 rfl ?_
          refine eg_ireturn dX1_firstOf_22 rfl rfl ?_
          refine ⟨congrArg (fun q => some (vI q)) ?_, rfl, rfl⟩
          rw [← hi, show 6 - i = (6 - (i + 1)) + 1 by omega]
          show (i : Int) = (if 0 < z 200 i then (i : Int) else _)
          rw [if_pos (by split at h18 <;> (try split at h18) <;> omega)]
  refine eg_iconst dX1_firstOf_0 ?_
  refine eg_istore_n dX1_firstOf_1 rfl rfl rfl ?_
  exact L 7 0 (by omega) rfl (by omega)
theorem c_firstOfn {k : eg_K} {z : eg_Z} {X : eg_M} {n : Nat} (hbd : ∀ i, i < 6 → -100000000 ≤ z 200 i ∧ z 200 i ≤ 100000000) : eg_P k gX1_firstOf 1 0 0 [vR k 199, vI (-1)] n (enc k z X) (eg_f (some (vI (fsP (fun i => -z 200 i) 6 0))) n (enc k z X)) := by
  refine eg_P.of (by decide) (Nat.le_of_ble_eq_true rfl) ?_
  show eg_E k gX1_firstOf 1 0 0 n (enc k z X) [vR k 199, vI (-1), vU] [] 0 _
  have L : ∀ (m : Nat) (i : Nat), i ≤ 6 → fsP (fun i => -z 200 i) (6 - i) i = fsP (fun i => -z 200 i) 6 0 → 6 - (i : Int) < (m : Int) → eg_E k gX1_firstOf 1 0 0 n (enc k z X) [vR k 199, vI (-1), vI (i : Int)] [] 2 (eg_f (some (vI (fsP (fun i => -z 200 i) 6 0))) n (enc k z X)) := by
    intro m
    induction m with
    | zero => intro i h1 hi hm; exfalso; omega
    | succ m ih =>
      intro i h1 hi hm
      refine eg_iload_n dX1_firstOf_2 rfl ?_
      refine eg_bipush dX1_firstOf_3 (by decide) ?_
      refine eg_icmp_ge 29 dX1_firstOf_5 ⟨by omega, by omega⟩ ⟨by omega, by omega⟩ rfl (fun h5 => ?_) (fun h5 => ?_)
      · refine eg_iconst dX1_firstOf_29 ?_
        refine eg_ireturn dX1_firstOf_30 rfl rfl ?_
        refine ⟨congrArg (fun q => some (vI q)) ?_, rfl, rfl⟩
        rw [← hi, show 6 - i = 0 by omega]
        rfl
      · refine eg_al_n dX1_firstOf_8 rfl rfl ?_
        refine eg_get fl_X1_9 dX1_firstOf_9 (by first | exact er199 | exact er200 | exact er201 | exact ep0 hb | exact ep5 hb) rfl ?_
        refine eg_iload_n dX1_firstOf_12 rfl ?_
        refine eg_iald dX1_firstOf_13 (by first | exact er199 | exact er200 | exact er201 | exact ep0 hb | exact ep5 hb) (by omega) (by omega) (by decide) ?_
        have b9 := hbd i (by omega)
        rw [show (i : Int).toNat = i by omega]
        refine eg_Sf1 cs_X1_56 dX1_firstOf_14 (c_signum ⟨by omega, by omega⟩) (Nat.le_of_ble_eq_true rfl) (by decide) ?_
        have r9 : -2147483648 ≤ (if z 200 i < 0 then (-1 : Int) else if z 200 i = 0 then 0 else 1) ∧ (if z 200 i < 0 then (-1 : Int) else if z 200 i = 0 then 0 else 1) ≤ 2147483647 := by split <;> (try split) <;> omega
        refine eg_iload_n dX1_firstOf_17 rfl ?_
        refine eg_icmp_ne 23 dX1_firstOf_18 ⟨by omega, by omega⟩ ⟨by omega, by omega⟩ rfl (fun h18 => ?_) (fun h18 => ?_)
        · refine eg_iinc dX1_firstOf_23 rfl rfl rfl ?_
          refine eg_goto 2 dX1_firstOf_26 rfl ?_
          have := ih (i + 1) (by omega) ?_ (by omega)
          · exact this
          · rw [← hi, show 6 - i = (6 - (i + 1)) + 1 by omega]; show _ = (if 0 < -z 200 i then (i : Int) else _); rw [if_neg (by split at h18 <;> (try split at h18) <;> omega)]
        · refine eg_iload_n dX1_firstOf_21 rfl ?_
          refine eg_ireturn dX1_firstOf_22 rfl rfl ?_
          refine ⟨congrArg (fun q => some (vI q)) ?_, rfl, rfl⟩
          rw [← hi, show 6 - i = (6 - (i + 1)) + 1 by omega]
          show (i : Int) = (if 0 < -z 200 i then (i : Int) else _)
          rw [if_pos (by split at h18 <;> (try split at h18) <;> omega)]
  refine eg_iconst dX1_firstOf_0 ?_
  refine eg_istore_n dX1_firstOf_1 rfl rfl rfl ?_
  exact L 7 0 (by omega) rfl (by omega)
theorem c_X1_note {k : eg_K} {z : eg_Z} {X : eg_M} {n : Nat} {T : Nat} {g t x : Int} (hT : z 199 2 = (T : Int)) (h5 : T < 6) (hg : 0 ≤ g ∧ g < 6) (ht : 0 ≤ t ∧ t < 6) (hgt : g.toNat ≠ t.toNat) : eg_P k gX1_note 0 0 0 [vR k 199, vI g, vI t, vI x] n (enc k z X) (eg_p k none n X (fun z' => (∀ c, c ≠ 199 → c ≠ 200 → c ≠ 201 → z' c = z c) ∧ z' 199 2 = (T : Int) + 1 ∧ z' 200 = va_up (va_up (z 200) g.toNat (z 200 g.toNat - x)) t.toNat (z 200 t.toNat + x) ∧ z' 201 = va_up (va_up (va_up (z 201) (3 * T) g) (3 * T + 1) t) (3 * T + 2) x)) := by
  refine eg_P.of (by decide) (Nat.le_of_ble_eq_true rfl) ?_
  show eg_E k gX1_note 0 0 0 n (enc k z X) [vR k 199, vI g, vI t, vI x] [] 0 _
  refine eg_al_n dX1_note_0 rfl rfl ?_
  refine eg_get fl_X1_9 dX1_note_1 (by first | exact er199 | exact er200 | exact er201 | exact ep0 hb | exact ep5 hb) rfl ?_
  refine eg_iload_n dX1_note_4 rfl ?_
  refine eg_dup2 dX1_note_5 rfl rfl ?_
  refine eg_iald dX1_note_6 (by first | exact er199 | exact er200 | exact er201 | exact ep0 hb | exact ep5 hb) (by omega) (by omega) (by decide) ?_
  refine eg_iload_n dX1_note_7 rfl ?_
  refine eg_isub dX1_note_8 ?_
  refine eg_iast dX1_note_9 (by first | exact er199 | exact er200 | exact er201 | exact ep0 hb | exact ep5 hb) (by omega) (by omega) (by decide) ?_
  refine eg_eqM (es200) ?_
  refine eg_al_n dX1_note_10 rfl rfl ?_
  refine eg_get fl_X1_9 dX1_note_11 (by first | exact er199 | exact er200 | exact er201 | exact ep0 hb | exact ep5 hb) rfl ?_
  refine eg_iload_n dX1_note_14 rfl ?_
  refine eg_dup2 dX1_note_15 rfl rfl ?_
  refine eg_iald dX1_note_16 (by first | exact er199 | exact er200 | exact er201 | exact ep0 hb | exact ep5 hb) (by omega) (by omega) (by decide) ?_
  rw [va_up_s, va_up_n _ _ (show t.toNat ≠ g.toNat by omega)]
  refine eg_iload_n dX1_note_17 rfl ?_
  refine eg_iadd dX1_note_18 ?_
  refine eg_iast dX1_note_19 (by first | exact er199 | exact er200 | exact er201 | exact ep0 hb | exact ep5 hb) (by omega) (by omega) (by decide) ?_
  refine eg_eqM (es200) ?_
  refine eg_al_n dX1_note_20 rfl rfl ?_
  refine eg_get fl_X1_15 dX1_note_21 (by first | exact er199 | exact er200 | exact er201 | exact ep0 hb | exact ep5 hb) rfl ?_
  refine eg_al_n dX1_note_24 rfl rfl ?_
  refine eg_get fl_X1_18 dX1_note_25 (by first | exact er199 | exact er200 | exact er201 | exact ep0 hb | exact ep5 hb) rfl ?_
  rw [va_up_n _ _ (show (199 : Nat) ≠ 200 by decide), va_up_n _ _ (show (199 : Nat) ≠ 200 by decide), hT]
  refine eg_iconst dX1_note_28 ?_
  refine eg_imul dX1_note_29 ?_
  refine eg_iconst dX1_note_30 ?_
  refine eg_iadd dX1_note_31 ?_
  refine eg_iload_n dX1_note_32 rfl ?_
  refine eg_iast dX1_note_33 (by first | exact er199 | exact er200 | exact er201 | exact ep0 hb | exact ep5 hb) (by omega) (by omega) (by decide) ?_
  refine eg_eqM (es201) ?_
  refine eg_al_n dX1_note_34 rfl rfl ?_
  refine eg_get fl_X1_15 dX1_note_35 (by first | exact er199 | exact er200 | exact er201 | exact ep0 hb | exact ep5 hb) rfl ?_
  refine eg_al_n dX1_note_38 rfl rfl ?_
  refine eg_get fl_X1_18 dX1_note_39 (by first | exact er199 | exact er200 | exact er201 | exact ep0 hb | exact ep5 hb) rfl ?_
  rw [va_up_n _ _ (show (199 : Nat) ≠ 201 by decide), va_up_n _ _ (show (199 : Nat) ≠ 200 by decide), va_up_n _ _ (show (199 : Nat) ≠ 200 by decide), hT]
  refine eg_iconst dX1_note_42 ?_
  refine eg_imul dX1_note_43 ?_
  refine eg_iconst dX1_note_44 ?_
  refine eg_iadd dX1_note_45 ?_
  refine eg_iload_n dX1_note_46 rfl ?_
  refine eg_iast dX1_note_47 (by first | exact er199 | exact er200 | exact er201 | exact ep0 hb | exact ep5 hb) (by omega) (by omega) (by decide) ?_
  refine eg_eqM (es201) ?_
  refine eg_al_n dX1_note_48 rfl rfl ?_
  refine eg_get fl_X1_15 dX1_note_49 (by first | exact er199 | exact er200 | exact er201 | exact ep0 hb | exact ep5 hb) rfl ?_
  refine eg_al_n dX1_note_52 rfl rfl ?_
  refine eg_get fl_X1_18 dX1_note_53 (by first | exact er199 | exact er200 | exact er201 | exact ep0 hb | exact ep5 hb) rfl ?_
  rw [va_up_n _ _ (show (199 : Nat) ≠ 201 by decide), va_up_n _ _ (show (199 : Nat) ≠ 201 by decide), va_up_n _ _ (show (199 : Nat) ≠ 200 by decide), va_up_n _ _ (show (199 : Nat) ≠ 200 by decide), hT]
  refine eg_iconst dX1_note_56 ?_
  refine eg_imul dX1_note_57 ?_
  refine eg_iconst dX1_note_58 ?_
  refine eg_iadd dX1_note_59 ?_
  refine eg_iload_n dX1_note_60 rfl ?_
  refine eg_iast dX1_note_61 (by first | exact er199 | exact er200 | exact er201 | exact ep0 hb | exact ep5 hb) (by omega) (by omega) (by decide) ?_
  refine eg_eqM (es201) ?_
  refine eg_al_n dX1_note_62 rfl rfl ?_
  refine eg_dup dX1_note_63 rfl ?_
  refine eg_get fl_X1_18 dX1_note_64 (by first | exact er199 | exact er200 | exact er201 | exact ep0 hb | exact ep5 hb) rfl ?_
  rw [va_up_n _ _ (show (199 : Nat) ≠ 201 by decide), va_up_n _ _ (show (199 : Nat) ≠ 201 by decide), va_up_n _ _ (show (199 : Nat) ≠ 201 by decide), va_up_n _ _ (show (199 : Nat) ≠ 200 by decide), va_up_n _ _ (show (199 : Nat) ≠ 200 by decide), hT]
  refine eg_iconst dX1_note_67 ?_
  refine eg_iadd dX1_note_68 ?_
  refine eg_put fl_X1_18 dX1_note_69 (by first | exact er199 | exact er200 | exact er201 | exact ep0 hb | exact ep5 hb) rfl rfl rfl rfl ?_
  refine eg_eqM es199_2 ?_
  refine eg_return dX1_note_72 rfl ?_
  refine ⟨rfl, rfl, _, rfl, fun c h1 h2 h3 => ?_, ?_, ?_, ?_⟩
  · rw [va_up_n _ _ h1, va_up_n _ _ h3, va_up_n _ _ h3, va_up_n _ _ h3, va_up_n _ _ h2, va_up_n _ _ h2]
  · rw [va_up_s, va_up_s]
  · rw [va_up_n _ _ (by decide), va_up_n _ _ (by decide), va_up_n _ _ (by decide), va_up_n _ _ (by decide), va_up_s, va_up_s]
  · rw [va_up_n _ _ (by decide), va_up_s, va_up_s, va_up_s, va_up_n _ _ (show (201 : Nat) ≠ 200 by decide), va_up_n _ _ (show (201 : Nat) ≠ 200 by decide), show ((T : Int) * 3 + 0).toNat = 3 * T by omega, show ((T : Int) * 3 + 1).toNat = 3 * T + 1 by omega, show ((T : Int) * 3 + 2).toNat = 3 * T + 2 by omega]
theorem c_X1_settle {k : eg_K} {z : eg_Z} {X : eg_M} {n b : Nat} {v : eg_v} {B : Int} (hb : isB b = true) (hb9 : b < 185) (hp : hP z b v) (hv : VV B v) (hB : B ≤ 100000000) : eg_P k gX1_settle 2 0 0 [vR k 199, vR k b] n (enc k z X) (eg_p k none n X (fun z' => (∀ c, c ≠ 199 → c ≠ 200 → c ≠ 201 → z' c = z c) ∧ z' 199 2 = (nTn (blV v) 6 0 : Int) ∧ (∀ j, j < nTn (blV v) 6 0 → z' 201 (3 * j) = ngF (ntF (blV v) j) ∧ z' 201 (3 * j + 1) = nlF (ntF (blV v) j) ∧ z' 201 (3 * j + 2) = naF (ntF (blV v) j)))) := by
  refine eg_P.of (by decide) (Nat.le_of_ble_eq_true rfl) ?_
  show eg_E k gX1_settle 2 0 0 n (enc k z X) [vR k 199, vR k b, vU, vU, vU] [] 0 _
  have q := hv.r.2
  have LT : ∀ (m : Nat) (i : Nat) (y : eg_Z) (w3 w4 : Value), i ≤ 6 → (∀ c, c ≠ 199 → c ≠ 200 → c ≠ 201 → y c = z c) → y 199 2 = (i : Int) → (∀ j, j < 6 → y 200 j = ntF (blV v) i j ∧ -100000000 ≤ y 200 j ∧ y 200 j ≤ 100000000) → (∀ j, j < i → y 201 (3 * j) = ngF (ntF (blV v) j) ∧ y 201 (3 * j + 1) = nlF (ntF (blV v) j) ∧ y 201 (3 * j + 2) = naF (ntF (blV v) j)) → nTn (blV v) (6 - i) i = nTn (blV v) 6 0 → 6 - (i : Int) < (m : Int) → eg_E k gX1_settle 2 0 0 n (enc k y X) [vR k 199, vR k b, vI (i : Int), w3, w4] [] 49 (eg_p k none n X (fun z' => (∀ c, c ≠ 199 → c ≠ 200 → c ≠ 201 → z' c = z c) ∧ z' 199 2 = (nTn (blV v) 6 0 : Int) ∧ (∀ j, j < nTn (blV v) 6 0 → z' 201 (3 * j) = ngF (ntF (blV v) j) ∧ z' 201 (3 * j + 1) = nlF (ntF (blV v) j) ∧ z' 201 (3 * j + 2) = naF (ntF (blV v) j)))) := by
    intro m
    induction m with
    | zero => intro i y w3 w4 h1 hf hT hy ht hn hm; exfalso; omega
    | succ m ih =>
      intro i y w3 w4 h1 hf hT hy ht hn hm
      have eg9 : fsP (y 200) 6 0 = ngF (ntF (blV v) i) := fsP_c 6 0 (fun j hj => (hy j (by omega)).1)
      have el9 : fsP (fun j => -y 200 j) 6 0 = nlF (ntF (blV v) i) := fsP_c 6 0 (fun j hj => by show -y 200 j = -ntF (blV v) i j; rw [(hy j (by omega)).1])
      have gb := fsP_b (f := ntF (blV v) i) 6 0
      have lb := fsP_b (f := fun j => -ntF (blV v) i j) 6 0
      have gb : ngF (ntF (blV v) i) = -1 ∨ (0 ≤ ngF (ntF (blV v) i) ∧ ngF (ntF (blV v) i) < 6) := gb.imp id (fun h => ⟨h.1, by have := h.2.1; unfold ngF; omega⟩)
      have lb : nlF (ntF (blV v) i) = -1 ∨ (0 ≤ nlF (ntF (blV v) i) ∧ nlF (ntF (blV v) i) < 6) := lb.imp id (fun h => ⟨h.1, by have := h.2.1; unfold nlF; omega⟩)
      refine eg_iload_n dX1_settle_49 rfl ?_
      refine eg_bipush dX1_settle_50 (by decide) ?_
      refine eg_icmp_ge 110 dX1_settle_52 ⟨by omega, by omega⟩ ⟨by omega, by omega⟩ rfl (fun h52 => ?_) (fun h52 => ?_)
      · refine eg_return dX1_settle_110 rfl ?_
        have hn3 : nTn (blV v) 6 0 = i := by
          rw [← hn, show 6 - i = 0 by omega]
          rfl
        rw [hn3]
        exact ⟨rfl, rfl, y, rfl, hf, hT, ht⟩
      · refine eg_al_n dX1_settle_55 rfl rfl ?_
        refine eg_iconst dX1_settle_56 ?_
        refine eg_Vf1 cs_X1_43 dX1_settle_57 (c_firstOfp (fun j hj => (hy j hj).2)) (by first | exact er199 | exact er200 | exact er201 | exact ep0 hb | exact ep5 hb) rfl (Nat.le_of_ble_eq_true rfl) (by decide) ?_
        rw [eg9]
        refine eg_istore_n dX1_settle_60 rfl rfl rfl ?_
        refine eg_al_n dX1_settle_61 rfl rfl ?_
        refine eg_iconst dX1_settle_62 ?_
        refine eg_Vf1 cs_X1_43 dX1_settle_63 (c_firstOfn (fun j hj => (hy j hj).2)) (by first | exact er199 | exact er200 | exact er201 | exact ep0 hb | exact ep5 hb) rfl (Nat.le_of_ble_eq_true rfl) (by decide) ?_
        rw [el9]
        refine eg_istore dX1_settle_66 rfl rfl rfl ?_
        refine eg_iload_n dX1_settle_68 rfl ?_
        refine eg_iconst dX1_settle_69 ?_
        refine eg_icmp_eq 79 dX1_settle_70 ⟨by omega, by omega⟩ ⟨by omega, by omega⟩ rfl (fun h70 => ?_) (fun h70 => ?_)
        · refine eg_return dX1_settle_79 rfl ?_
          have hn3 : nTn (blV v) 6 0 = i := by
            rw [← hn, show 6 - i = (6 - (i + 1)) + 1 by omega]
            show (if ngF (ntF (blV v) i) = -1 ∨ nlF (ntF (blV v) i) = -1 then i else _) = i
            rw [if_pos (by omega)]
          rw [hn3]
          exact ⟨rfl, rfl, y, rfl, hf, hT, ht⟩
        · refine eg_iload dX1_settle_73 rfl ?_
          refine eg_iconst dX1_settle_75 ?_
          refine eg_icmp_ne 80 dX1_settle_76 ⟨by omega, by omega⟩ ⟨by omega, by omega⟩ rfl (fun h76 => ?_) (fun h76 => ?_)
          · have hs9 : ¬ (ngF (ntF (blV v) i) = -1 ∨ nlF (ntF (blV v) i) = -1) := by omega
            have tt := trd hs9
            have q1 := hy (ngF (ntF (blV v) i)).toNat (by omega)
            have q2 := hy (nlF (ntF (blV v) i)).toNat (by omega)
            refine eg_al_n dX1_settle_80 rfl rfl ?_
            refine eg_iload_n dX1_settle_81 rfl ?_
            refine eg_iload dX1_settle_82 rfl ?_
            refine eg_al_n dX1_settle_84 rfl rfl ?_
            refine eg_get fl_X1_9 dX1_settle_85 (by first | exact er199 | exact er200 | exact er201 | exact ep0 hb | exact ep5 hb) rfl ?_
            refine eg_iload_n dX1_settle_88 rfl ?_
            refine eg_iald dX1_settle_89 (by first | exact er199 | exact er200 | exact er201 | exact ep0 hb | exact ep5 hb) (by omega) (by omega) (by decide) ?_
            refine eg_al_n dX1_settle_90 rfl rfl ?_
            refine eg_get fl_X1_9 dX1_settle_91 (by first | exact er199 | exact er200 | exact er201 | exact ep0 hb | exact ep5 hb) rfl ?_
            refine eg_iload dX1_settle_94 rfl ?_
            refine eg_iald dX1_settle_96 (by first | exact er199 | exact er200 | exact er201 | exact ep0 hb | exact ep5 hb) (by omega) (by omega) (by decide) ?_
            refine eg_ineg dX1_settle_97 ?_
            refine eg_mmin cs_X1_47 dX1_settle_98 ⟨by omega, by omega⟩ ⟨by omega, by omega⟩ (Nat.le_of_ble_eq_true rfl) (by decide) ?_
            rw [show (if -y 200 (nlF (ntF (blV v) i)).toNat < y 200 (ngF (ntF (blV v) i)).toNat then -y 200 (nlF (ntF (blV v) i)).toNat else y 200 (ngF (ntF (blV v) i)).toNat) = naF (ntF (blV v) i) by unfold naF mn; rw [q1.1, q2.1]]
            refine eg_Vpv3 cs_X1_52 dX1_settle_101 (c_X1_note hT (by omega) ⟨tt.1.1, tt.1.2.1⟩ ⟨tt.2.1.1, tt.2.1.2.1⟩ tt.2.2.1) (by first | exact er199 | exact er200 | exact er201 | exact ep0 hb | exact ep5 hb) rfl (Nat.le_of_ble_eq_true rfl) (by decide) ?_
            rintro y1 ⟨f1, t1, b1, k1⟩
            refine eg_iinc dX1_settle_104 rfl rfl rfl ?_
            refine eg_goto 49 dX1_settle_107 rfl ?_
            have hn2 : nTn (blV v) (6 - (i + 1)) (i + 1) = nTn (blV v) 6 0 := by
              rw [← hn, show 6 - i = (6 - (i + 1)) + 1 by omega]
              show _ = (if ngF (ntF (blV v) i) = -1 ∨ nlF (ntF (blV v) i) = -1 then i else nTn (blV v) (6 - (i + 1)) (i + 1))
              rw [if_neg hs9]
            have := ih (i + 1) y1 (vI (ngF (ntF (blV v) i))) (vI (nlF (ntF (blV v) i))) (by omega) (fun c a b d => by rw [f1 c a b d]; exact hf c a b d) (by rw [t1]; omega) (fun j hj => ?_) (fun j hj => ?_) hn2 (by omega)
            · exact this
            · rw [b1]
              have tb := trV_b (f := y 200) (K := 100000000) (by rw [show ngF (y 200) = _ from eg9, show nlF (y 200) = _ from el9]; exact hs9) (fun i hi => (hy i hi).2) j hj
              have tc := trV_c (f := y 200) (g := ntF (blV v) i) (fun i hi => (hy i hi).1) (by rw [show ngF (y 200) = _ from eg9, show nlF (y 200) = _ from el9]; exact hs9)
              have e7 : trV (y 200) = va_up (va_up (y 200) (ngF (ntF (blV v) i)).toNat (y 200 (ngF (ntF (blV v) i)).toNat - naF (ntF (blV v) i))) (nlF (ntF (blV v) i)).toNat (y 200 (nlF (ntF (blV v) i)).toNat + naF (ntF (blV v) i)) := by unfold trV; rw [tc.1, tc.2.1, tc.2.2.1]
              rw [← e7]
              exact ⟨tc.2.2.2 j hj, tb⟩
            · rw [k1]
              by_cases e : j = i
              · subst e; rw [va_up_n _ _ (by omega), va_up_n _ _ (by omega), va_up_s, va_up_n _ _ (by omega), va_up_s, va_up_s]; exact ⟨rfl, rfl, rfl⟩
              · rw [va_up_n _ _ (by omega), va_up_n _ _ (by omega), va_up_n _ _ (by omega), va_up_n _ _ (by omega), va_up_n _ _ (by omega), va_up_n _ _ (by omega), va_up_n _ _ (by omega), va_up_n _ _ (by omega), va_up_n _ _ (by omega)]; exact ht j (by omega)
          · refine eg_return dX1_settle_79 rfl ?_
            have hn3 : nTn (blV v) 6 0 = i := by
              rw [← hn, show 6 - i = (6 - (i + 1)) + 1 by omega]
              show (if ngF (ntF (blV v) i) = -1 ∨ nlF (ntF (blV v) i) = -1 then i else _) = i
              rw [if_pos (by omega)]
            rw [hn3]
            exact ⟨rfl, rfl, y, rfl, hf, hT, ht⟩
  have LF : ∀ (m : Nat) (i : Int) (y : eg_Z), 0 ≤ i → i ≤ v 2 → (∀ c, c ≠ 199 → c ≠ 200 → c ≠ 201 → y c = z c) → y 199 2 = 0 → (∀ j : Nat, j < 6 → y 200 j = if (j : Int) < i then gH v j 4 else 0) → v 2 - i < (m : Int) → eg_E k gX1_settle 2 0 0 n (enc k y X) [vR k 199, vR k b, vI i, vU, vU] [] 15 (eg_p k none n X (fun z' => (∀ c, c ≠ 199 → c ≠ 200 → c ≠ 201 → z' c = z c) ∧ z' 199 2 = (nTn (blV v) 6 0 : Int) ∧ (∀ j, j < nTn (blV v) 6 0 → z' 201 (3 * j) = ngF (ntF (blV v) j) ∧ z' 201 (3 * j + 1) = nlF (ntF (blV v) j) ∧ z' 201 (3 * j + 2) = naF (ntF (blV v) j)))) := by
    intro m
    induction m with
    | zero => intro i y h0 h1 hf hT hy hm; exfalso; omega
    | succ m ih =>
      intro i y h0 h1 hf hT hy hm
      have hpy : hP y b v := hP_k (fun j hj => hf _ (by omega) (by omega) (by omega)) hp
      have c5b := hpy.2.1.2.2.1
      refine eg_iload_n dX1_settle_15 rfl ?_
      refine eg_al_n dX1_settle_16 rfl rfl ?_
      refine eg_get fl_X1_28 dX1_settle_17 (by first | exact er199 | exact er200 | exact er201 | exact ep0 hb | exact ep5 hb) rfl ?_
      refine eg_get fl_X1_34 dX1_settle_20 (by first | exact er199 | exact er200 | exact er201 | exact ep0 hb | exact ep5 hb) rfl ?_
      rw [c5b]
      refine eg_icmp_ge 47 dX1_settle_23 ⟨by omega, by omega⟩ ⟨by omega, by omega⟩ rfl (fun h23 => ?_) (fun h23 => ?_)
      · refine eg_iconst dX1_settle_47 ?_
        refine eg_istore_n dX1_settle_48 rfl rfl rfl ?_
        refine LT 7 0 y vU vU (by omega) hf (by rw [hT]; rfl) (fun j hj => ?_) (fun j hj => absurd hj (Nat.not_lt_zero j)) rfl (by omega)
        have e1 := hy j hj
        rw [show i = v 2 by omega] at e1
        refine ⟨e1, ?_⟩
        rw [e1]
        split
        · have o1 := hv.H (s := j) (by omega) (by assumption); unfold okH at o1; omega
        · omega
      · refine eg_al_n dX1_settle_26 rfl rfl ?_
        refine eg_get fl_X1_9 dX1_settle_27 (by first | exact er199 | exact er200 | exact er201 | exact ep0 hb | exact ep5 hb) rfl ?_
        refine eg_iload_n dX1_settle_30 rfl ?_
        refine eg_al_n dX1_settle_31 rfl rfl ?_
        refine eg_get fl_X1_28 dX1_settle_32 (by first | exact er199 | exact er200 | exact er201 | exact ep0 hb | exact ep5 hb) rfl ?_
        refine eg_iload_n dX1_settle_35 rfl ?_
        refine eg_iconst dX1_settle_36 ?_
        refine eg_Vf2 cs_X1_39 dX1_settle_37 (sh_at hb hpy hv (by omega) (by omega) (by omega) (by omega)) (by first | exact er199 | exact er200 | exact er201 | exact ep0 hb | exact ep5 hb) rfl (Nat.le_of_ble_eq_true rfl) (by decide) ?_
        refine eg_iast dX1_settle_40 (by first | exact er199 | exact er200 | exact er201 | exact ep0 hb | exact ep5 hb) (by omega) (by omega) (by decide) ?_
        refine eg_eqM (es200) ?_
        refine eg_iinc dX1_settle_41 rfl rfl rfl ?_
        refine eg_goto 15 dX1_settle_44 rfl ?_
        refine ih (i + 1) _ (by omega) (by omega) (fun c a1 b1 d1 => by rw [va_up_n _ _ b1]; exact hf c a1 b1 d1) (by rw [va_up_n _ _ (by decide)]; exact hT) (fun j hj => ?_) (by omega)
        rw [va_up_s]
        by_cases e : (j : Int) = i
        · rw [show j = i.toNat by omega, va_up_s, if_pos (by omega), show ((i.toNat : Nat) : Int) = i by omega]
        · rw [va_up_n _ _ (by omega), hy j hj]
          by_cases e2 : (j : Int) < i
          · rw [if_pos e2, if_pos (by omega)]
          · rw [if_neg e2, if_neg (by omega)]
  refine eg_al_n dX1_settle_0 rfl rfl ?_
  refine eg_iconst dX1_settle_1 ?_
  refine eg_put fl_X1_18 dX1_settle_2 (by first | exact er199 | exact er200 | exact er201 | exact ep0 hb | exact ep5 hb) rfl rfl rfl rfl ?_
  refine eg_eqM es199_2 ?_
  refine eg_al_n dX1_settle_5 rfl rfl ?_
  refine eg_get fl_X1_9 dX1_settle_6 (by first | exact er199 | exact er200 | exact er201 | exact ep0 hb | exact ep5 hb) rfl ?_
  refine eg_iconst dX1_settle_9 ?_
  refine eg_Sv2 cs_X1_22 dX1_settle_10 (c_J7_fill_53178 (x := 0) er200 (by decide)) (Nat.le_of_ble_eq_true rfl) (by decide) ?_
  refine eg_eqM es200 ?_
  refine eg_iconst dX1_settle_13 ?_
  refine eg_istore_n dX1_settle_14 rfl rfl rfl ?_
  refine LF 7 0 _ (by omega) (by omega) (fun c a1 b1 d1 => by rw [va_up_n _ _ b1, va_up_n _ _ a1]) (by rw [va_up_n _ _ (by decide), va_up_s, va_up_s]) (fun j hj => ?_) (by omega)
  rw [va_up_s, if_neg (by omega)]
  unfold fl_
  rw [if_pos hj]
