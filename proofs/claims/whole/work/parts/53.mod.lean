/-! THE REFERENCE'S SCHEDULE. Its stop m is the class's stop stM v m. -/
def stM (v : eg_v) (m : Int) : Int := if m < 24 then stQ v m else if m < 30 then 34 + 2 * (m - 24) else 35 + 2 * (m - 30)
def isM (v : eg_v) (m : Int) : Prop := (0 ≤ m ∧ m < 10 ∧ m < v 1) ∨ (10 ≤ m ∧ m < 17 ∧ m - 10 < segs v) ∨ (17 ≤ m ∧ m < 24 ∧ m - 17 < segs v) ∨ (24 ≤ m ∧ m < 30 ∧ m - 24 < v 2) ∨ (30 ≤ m ∧ m < 36 ∧ m - 30 < v 2)
theorem stM_b {v : eg_v} {m : Int} (h : 0 ≤ m ∧ m < 36) : 0 ≤ stM v m ∧ stM v m < 46 := by
  unfold stM stQ
  split
  · split
    · split <;> omega
    · omega
  · split <;> omega
/-- goesBy, in words -/
def gbM (v : eg_v) (q m : Int) : Bool := if m < 10 then decide (gN v q 1 = m ∨ gN v q 2 = m) else gb v q (stM v m)
theorem gbM_e {v : eg_v} {B : Int} (hv : VV B v) {q m : Int} (h0 : 0 ≤ q) (h1 : q < v 3) (hm : isM v m) : gbM v q m = gb v q (stM v m) := by
  have o1 := hv.N h0 h1
  simp only [okN, isIn, isOut] at o1
  obtain ⟨oa, ob, oc, od⟩ := o1
  unfold gbM
  by_cases h10 : m < 10
  · rw [if_pos h10]
    have hm1 : 0 ≤ m ∧ m < v 1 := by unfold isM at hm; omega
    have op := hv.P hm1.1 hm1.2
    unfold okP at op
    unfold stM stQ
    rw [if_pos (by omega), if_pos h10]
    by_cases hi : gP v m 1 = 1
    · rw [if_pos hi]
      unfold gb
      rw [if_pos h10]
      have : ¬ gN v q 2 = m := fun e => by
        rcases oc with oc | oc
        · omega
        · rw [e] at oc; omega
      by_cases e : gN v q 1 = m <;> simp [e, this]
    · rw [if_neg hi]
      unfold gb
      rw [if_neg (by omega), if_neg (by omega), if_neg (by omega), if_pos (by omega)]
      have : ¬ gN v q 1 = m := fun e => by
        rcases ob with ob | ob
        · omega
        · rw [e] at ob; omega
      rw [show 24 + m - 24 = m by omega]
      by_cases e : gN v q 2 = m <;> simp [e, this]
  · rw [if_neg h10]
/-- a stop that isn't there is gone by by none -/
theorem gb_no {v : eg_v} {B : Int} (hv : VV B v) {q c : Int} (h0 : 0 ≤ q) (h1 : q < v 3) (hc : 0 ≤ c ∧ c < 46) (h : (c < 10 ∧ ¬ (c < v 1 ∧ gP v c 1 = 1)) ∨ (10 ≤ c ∧ c < 17 ∧ segs v ≤ c - 10) ∨ (17 ≤ c ∧ c < 24 ∧ segs v ≤ c - 17) ∨ (24 ≤ c ∧ c < 34 ∧ ¬ (c - 24 < v 1 ∧ gP v (c - 24) 1 = 0)) ∨ (34 ≤ c ∧ v 2 ≤ (c - 34) / 2)) : gb v q c = false := by
  have o1 := hv.N h0 h1
  have sg := hv.sgs
  simp only [okN, isIn, isOut] at o1
  obtain ⟨oa, ob, oc, od⟩ := o1
  cases hg : gb v q c with
  | false => rfl
  | true =>
    exfalso
    have g := gb_iff.mp hg
    have pf : gN v q 1 ≠ -1 → 0 ≤ gP v (gN v q 1) 0 ∧ gP v (gN v q 1) 0 < v 0 := fun e => by
      rcases ob with ob | ob
      · exact absurd ob e
      · exact (hv.P ob.1 ob.2.1).1
    have pt : gN v q 2 ≠ -1 → 0 ≤ gP v (gN v q 2) 0 ∧ gP v (gN v q 2) 0 < v 0 := fun e => by
      rcases oc with oc | oc
      · exact absurd oc e
      · exact (hv.P oc.1 oc.2.1).1
    rcases g with g | g | g | g | g | g
    · rcases ob with ob | ob
      · omega
      · rw [g.2] at ob; omega
    · have a := pf g.2.2.1
      have b := pt g.2.2.2.1
      omega
    · have a := pf g.2.2.1
      have b := pt g.2.2.2.1
      omega
    · rcases oc with oc | oc
      · omega
      · rw [g.2.2] at oc
        rcases h with h | h | h | h | h
        · omega
        · omega
        · omega
        · exact h.2.2 ⟨oc.2.1, oc.2.2⟩
        · omega
    · omega
    · omega
theorem sq_no {v : eg_v} {c l : Int} {p : Int → Int} (h : ∀ q : Int, 0 ≤ q → q < v 3 → gb v q c = false) (hl : 0 ≤ l) : tg v c p ≤ l := by
  have e : tg v c p = tg v c (fun _ => 0) := sm_c (fun i a b => by unfold tgF; rw [h i a (by omega)]; rfl)
  have e2 := z_tg (v := v) (c := c) (p := fun _ => 0) (fun _ _ _ => rfl)
  omega
theorem pz_no {v : eg_v} {l p : Int → Int} {m : Nat} (h : ∀ q : Int, 0 ≤ q → q < v 3 → gb v q m = false) (hl : 0 ≤ l m) : ∀ q : Int, pz v l p (m + 1) q = pz v l p m q := fun q => by
  show sqP v m (l m) (pz v l p m) q = _
  unfold sqP
  rw [if_pos (sq_no h hl)]
theorem cz_no {v : eg_v} {l p ct : Int → Int} {m : Nat} (h : ∀ q : Int, 0 ≤ q → q < v 3 → gb v q m = false) (hl : 0 ≤ l m) : ∀ q : Int, cz v l p ct (m + 1) q = cz v l p ct m q := fun q => by
  show sqC v m (l m) (pz v l p m) (cz v l p ct m) q = _
  unfold sqC sqP
  rw [if_pos (sq_no h hl), if_neg (by omega)]
theorem pzN {v : eg_v} {l p ct : Int → Int} {m : Nat} (hl : ∀ c : Nat, c < 46 → 0 ≤ l c) : ∀ d : Nat, m + d ≤ 46 → (∀ c : Nat, m ≤ c → c < m + d → ∀ q : Int, 0 ≤ q → q < v 3 → gb v q c = false) → ∀ q : Int, pz v l p (m + d) q = pz v l p m q ∧ cz v l p ct (m + d) q = cz v l p ct m q
  | 0, _, _, q => ⟨rfl, rfl⟩
  | d + 1, hd, h, q => by
    have ih := pzN (p := p) (ct := ct) hl d (by omega) (fun c a b => h c a (by omega)) q
    exact ⟨(pz_no (h (m + d) (by omega) (by omega)) (hl _ (by omega)) q).trans ih.1, (cz_no (h (m + d) (by omega) (by omega)) (hl _ (by omega)) q).trans ih.2⟩
theorem gM_p {v : eg_v} {q m : Int} (h : m < 10) : gbM v q m = true ↔ (gN v q 1 = m ∨ gN v q 2 = m) := by
  unfold gbM
  rw [if_pos h]
  exact decide_eq_true_iff
theorem gM_u {v : eg_v} {q m : Int} (h : 10 ≤ m ∧ m < 17) : gbM v q m = true ↔ (gN v q 1 ≠ -1 ∧ gN v q 2 ≠ -1) ∧ gP v (gN v q 1) 0 ≤ m - 10 ∧ m - 10 < gP v (gN v q 2) 0 := by
  unfold gbM stM stQ gb
  rw [if_neg (by omega), if_pos (show m < 24 by omega), if_neg (show ¬ m < 10 by omega), if_neg (show ¬ m < 10 by omega), if_pos h.2]
  exact decide_eq_true_iff
theorem gM_d {v : eg_v} {q m : Int} (h : 17 ≤ m ∧ m < 24) : gbM v q m = true ↔ (gN v q 1 ≠ -1 ∧ gN v q 2 ≠ -1) ∧ gP v (gN v q 2) 0 ≤ m - 17 ∧ m - 17 < gP v (gN v q 1) 0 := by
  unfold gbM stM stQ gb
  rw [if_neg (by omega), if_pos (show m < 24 by omega), if_neg (show ¬ m < 10 by omega), if_neg (show ¬ m < 10 by omega), if_neg (show ¬ m < 17 by omega), if_pos h.2]
  exact decide_eq_true_iff
theorem gM_k {v : eg_v} {q m : Int} (h : 24 ≤ m ∧ m < 30) : gbM v q m = true ↔ gN v q 2 = -1 ∧ gN v q 0 = m - 24 := by
  unfold gbM stM gb
  rw [if_neg (by omega), if_neg (show ¬ m < 24 by omega), if_pos h.2, if_neg (by omega), if_neg (by omega), if_neg (by omega), if_neg (by omega), if_pos (by omega), show (34 + 2 * (m - 24) - 34) / 2 = m - 24 by omega]
  exact decide_eq_true_iff
theorem gM_n {v : eg_v} {q m : Int} (h : 30 ≤ m ∧ m < 36) : gbM v q m = true ↔ gN v q 1 = -1 ∧ gN v q 0 = m - 30 := by
  unfold gbM stM gb
  rw [if_neg (by omega), if_neg (show ¬ m < 24 by omega), if_neg (show ¬ m < 30 by omega), if_neg (by omega), if_neg (by omega), if_neg (by omega), if_neg (by omega), if_neg (by omega), show (35 + 2 * (m - 30) - 34) / 2 = m - 30 by omega]
  exact decide_eq_true_iff
set_option maxHeartbeats 1600000 in
theorem c_goesBy {k : eg_K} {z : eg_Z} {X : eg_M} {n : Nat} {v : eg_v} (hN : nw z v) {B : Int} (hv : VV B v) {r m : Int} (h0 : 0 ≤ r) (h1 : r < v 3) (hm : 0 ≤ m ∧ m < 36) : eg_P k gX9_goesBy 1 0 0 [vR k 202, vI r, vI m] n (enc k z X) (eg_f (some (vI (bi (gbM v r m = true)))) n (enc k z X)) := by
  refine eg_P.of (by decide) (Nat.le_of_ble_eq_true rfl) ?_
  show eg_E k gX9_goesBy 1 0 0 n (enc k z X) [vR k 202, vI r, vI m, vU, vU, vU, vU, vU] [] 0 _
  have o1 := hv.N h0 h1
  simp only [okN, isIn, isOut] at o1
  obtain ⟨oa, ob, oc, od⟩ := o1
  have q := hv.r.2
  have pf : gN v r 1 ≠ -1 → (0 ≤ gN v r 1 ∧ gN v r 1 < v 1) ∧ 0 ≤ gP v (gN v r 1) 0 ∧ gP v (gN v r 1) 0 < v 0 := fun e => by
    rcases ob with ob | ob
    · exact absurd ob e
    · exact ⟨⟨ob.1, ob.2.1⟩, (hv.P ob.1 ob.2.1).1⟩
  have pt : gN v r 2 ≠ -1 → (0 ≤ gN v r 2 ∧ gN v r 2 < v 1) ∧ 0 ≤ gP v (gN v r 2) 0 ∧ gP v (gN v r 2) 0 < v 0 := fun e => by
    rcases oc with oc | oc
    · exact absurd oc e
    · exact ⟨⟨oc.1, oc.2.1⟩, (hv.P oc.1 oc.2.1).1⟩
  have b1 : -1 ≤ gN v r 1 ∧ gN v r 1 < 10 := by
    by_cases e : gN v r 1 = -1
    · omega
    · have := pf e; omega
  have b2 : -1 ≤ gN v r 2 ∧ gN v r 2 < 10 := by
    by_cases e : gN v r 2 = -1
    · omega
    · have := pt e; omega
  clear ob oc od
  refine eg_al_n dX9_goesBy_0 rfl rfl ?_
  refine eg_iload_n dX9_goesBy_1 rfl ?_
  refine eg_iconst dX9_goesBy_2 ?_
  refine eg_Vf2 cs_X9_259 dX9_goesBy_3 (c_nom hN (by omega) (by omega) (by omega) (by omega)) (by first | exact er202 | exact er203 | exact er204 | exact er205 | exact er206 | exact er207 | exact er208 | exact er209 | exact er210 | exact er211 | exact er212 | exact er213 | exact er214 | exact er215) rfl (Nat.le_of_ble_eq_true rfl) (by decide) ?_
  refine eg_istore_n dX9_goesBy_6 rfl rfl rfl ?_
  refine eg_al_n dX9_goesBy_7 rfl rfl ?_
  refine eg_iload_n dX9_goesBy_8 rfl ?_
  refine eg_iconst dX9_goesBy_9 ?_
  refine eg_Vf2 cs_X9_259 dX9_goesBy_10 (c_nom hN (by omega) (by omega) (by omega) (by omega)) (by first | exact er202 | exact er203 | exact er204 | exact er205 | exact er206 | exact er207 | exact er208 | exact er209 | exact er210 | exact er211 | exact er212 | exact er213 | exact er214 | exact er215) rfl (Nat.le_of_ble_eq_true rfl) (by decide) ?_
  refine eg_istore dX9_goesBy_13 rfl rfl rfl ?_
  refine eg_iload_n dX9_goesBy_15 rfl ?_
  refine eg_bipush dX9_goesBy_16 (by decide) ?_
  refine eg_icmp_ge 38 dX9_goesBy_18 ⟨by omega, by omega⟩ ⟨by omega, by omega⟩ rfl (fun h18 => ?_) (fun h18 => ?_)
  · refine eg_iload_n dX9_goesBy_38 rfl ?_
    refine eg_bipush dX9_goesBy_39 (by decide) ?_
    refine eg_icmp_lt 68 dX9_goesBy_41 ⟨by omega, by omega⟩ ⟨by omega, by omega⟩ rfl (fun h41 => ?_) (fun h41 => ?_)
    · refine eg_iload_n dX9_goesBy_68 rfl ?_
      refine eg_bipush dX9_goesBy_69 (by decide) ?_
      refine eg_icmp_lt 99 dX9_goesBy_71 ⟨by omega, by omega⟩ ⟨by omega, by omega⟩ rfl (fun h71 => ?_) (fun h71 => ?_)
      · refine eg_iload_n dX9_goesBy_99 rfl ?_
        refine eg_iconst dX9_goesBy_100 ?_
        refine eg_icmp_eq 110 dX9_goesBy_101 ⟨by omega, by omega⟩ ⟨by omega, by omega⟩ rfl (fun h101 => ?_) (fun h101 => ?_)
        · refine eg_iconst dX9_goesBy_110 ?_
          refine eg_ireturn dX9_goesBy_111 rfl rfl ?_
          refine ⟨congrArg (fun q => some (vI q)) ?_, rfl, rfl⟩
          unfold bi
          clear q
          by_cases t7 : m < 17
          · first | (exfalso; omega) | rw [if_pos ((gM_u (v := v) (q := r) (m := m) ⟨by omega, by omega⟩).mpr (by omega))] | rw [if_neg (fun hh => by have h5 := (gM_u (v := v) (q := r) (m := m) ⟨by omega, by omega⟩).mp hh; omega)]
          · first | (exfalso; omega) | rw [if_pos ((gM_d (v := v) (q := r) (m := m) ⟨by omega, by omega⟩).mpr (by omega))] | rw [if_neg (fun hh => by have h5 := (gM_d (v := v) (q := r) (m := m) ⟨by omega, by omega⟩).mp hh; omega)]
        · refine eg_iload dX9_goesBy_104 rfl ?_
          refine eg_iconst dX9_goesBy_106 ?_
          refine eg_icmp_ne 112 dX9_goesBy_107 ⟨by omega, by omega⟩ ⟨by omega, by omega⟩ rfl (fun h107 => ?_) (fun h107 => ?_)
          · have p1 := pf (by omega)
            have p2 := pt (by omega)
            refine eg_al_n dX9_goesBy_112 rfl rfl ?_
            refine eg_iload_n dX9_goesBy_113 rfl ?_
            refine eg_iconst dX9_goesBy_114 ?_
            refine eg_Vf2 cs_X9_189 dX9_goesBy_115 (c_pointOf hN (by omega) (by omega) (by omega) (by omega)) (by first | exact er202 | exact er203 | exact er204 | exact er205 | exact er206 | exact er207 | exact er208 | exact er209 | exact er210 | exact er211 | exact er212 | exact er213 | exact er214 | exact er215) rfl (Nat.le_of_ble_eq_true rfl) (by decide) ?_
            have p1 := pf (by omega)
            refine eg_istore dX9_goesBy_118 rfl rfl rfl ?_
            refine eg_al_n dX9_goesBy_120 rfl rfl ?_
            refine eg_iload dX9_goesBy_121 rfl ?_
            refine eg_iconst dX9_goesBy_123 ?_
            refine eg_Vf2 cs_X9_189 dX9_goesBy_124 (c_pointOf hN (by omega) (by omega) (by omega) (by omega)) (by first | exact er202 | exact er203 | exact er204 | exact er205 | exact er206 | exact er207 | exact er208 | exact er209 | exact er210 | exact er211 | exact er212 | exact er213 | exact er214 | exact er215) rfl (Nat.le_of_ble_eq_true rfl) (by decide) ?_
            have p2 := pt (by omega)
            refine eg_istore dX9_goesBy_127 rfl rfl rfl ?_
            refine eg_iload_n dX9_goesBy_129 rfl ?_
            refine eg_bipush dX9_goesBy_130 (by decide) ?_
            refine eg_icmp_ge 142 dX9_goesBy_132 ⟨by omega, by omega⟩ ⟨by omega, by omega⟩ rfl (fun h132 => ?_) (fun h132 => ?_)
            · refine eg_iload_n dX9_goesBy_142 rfl ?_
              refine eg_bipush dX9_goesBy_143 (by decide) ?_
              refine eg_isub dX9_goesBy_145 ?_
              refine eg_istore dX9_goesBy_146 rfl rfl rfl ?_
              refine eg_iload_n dX9_goesBy_148 rfl ?_
              refine eg_bipush dX9_goesBy_149 (by decide) ?_
              refine eg_icmp_ge 176 dX9_goesBy_151 ⟨by omega, by omega⟩ ⟨by omega, by omega⟩ rfl (fun h151 => ?_) (fun h151 => ?_)
              · refine eg_iload dX9_goesBy_176 rfl ?_
                refine eg_iload dX9_goesBy_178 rfl ?_
                refine eg_icmp_gt 194 dX9_goesBy_180 ⟨by omega, by omega⟩ ⟨by omega, by omega⟩ rfl (fun h180 => ?_) (fun h180 => ?_)
                · refine eg_iconst dX9_goesBy_194 ?_
                  refine eg_ireturn dX9_goesBy_195 rfl rfl ?_
                  refine ⟨congrArg (fun q => some (vI q)) ?_, rfl, rfl⟩
                  unfold bi
                  clear q
                  by_cases t7 : m < 17
                  · first | (exfalso; omega) | rw [if_pos ((gM_u (v := v) (q := r) (m := m) ⟨by omega, by omega⟩).mpr (by omega))] | rw [if_neg (fun hh => by have h5 := (gM_u (v := v) (q := r) (m := m) ⟨by omega, by omega⟩).mp hh; omega)]
                  · first | (exfalso; omega) | rw [if_pos ((gM_d (v := v) (q := r) (m := m) ⟨by omega, by omega⟩).mpr (by omega))] | rw [if_neg (fun hh => by have h5 := (gM_d (v := v) (q := r) (m := m) ⟨by omega, by omega⟩).mp hh; omega)]
                · refine eg_iload dX9_goesBy_183 rfl ?_
                  refine eg_iload dX9_goesBy_185 rfl ?_
                  refine eg_icmp_ge 194 dX9_goesBy_187 ⟨by omega, by omega⟩ ⟨by omega, by omega⟩ rfl (fun h187 => ?_) (fun h187 => ?_)
                  · refine eg_iconst dX9_goesBy_194 ?_
                    refine eg_ireturn dX9_goesBy_195 rfl rfl ?_
                    refine ⟨congrArg (fun q => some (vI q)) ?_, rfl, rfl⟩
                    unfold bi
                    clear q
                    by_cases t7 : m < 17
                    · first | (exfalso; omega) | rw [if_pos ((gM_u (v := v) (q := r) (m := m) ⟨by omega, by omega⟩).mpr (by omega))] | rw [if_neg (fun hh => by have h5 := (gM_u (v := v) (q := r) (m := m) ⟨by omega, by omega⟩).mp hh; omega)]
                    · first | (exfalso; omega) | rw [if_pos ((gM_d (v := v) (q := r) (m := m) ⟨by omega, by omega⟩).mpr (by omega))] | rw [if_neg (fun hh => by have h5 := (gM_d (v := v) (q := r) (m := m) ⟨by omega, by omega⟩).mp hh; omega)]
                  · refine eg_iconst dX9_goesBy_190 ?_
                    refine eg_goto 195 dX9_goesBy_191 rfl ?_
                    refine eg_ireturn dX9_goesBy_195 rfl rfl ?_
                    refine ⟨congrArg (fun q => some (vI q)) ?_, rfl, rfl⟩
                    unfold bi
                    clear q
                    by_cases t7 : m < 17
                    · first | (exfalso; omega) | rw [if_pos ((gM_u (v := v) (q := r) (m := m) ⟨by omega, by omega⟩).mpr (by omega))] | rw [if_neg (fun hh => by have h5 := (gM_u (v := v) (q := r) (m := m) ⟨by omega, by omega⟩).mp hh; omega)]
                    · first | (exfalso; omega) | rw [if_pos ((gM_d (v := v) (q := r) (m := m) ⟨by omega, by omega⟩).mpr (by omega))] | rw [if_neg (fun hh => by have h5 := (gM_d (v := v) (q := r) (m := m) ⟨by omega, by omega⟩).mp hh; omega)]
              · refine eg_iload dX9_goesBy_154 rfl ?_
                refine eg_iload dX9_goesBy_156 rfl ?_
                refine eg_icmp_gt 172 dX9_goesBy_158 ⟨by omega, by omega⟩ ⟨by omega, by omega⟩ rfl (fun h158 => ?_) (fun h158 => ?_)
                · refine eg_iconst dX9_goesBy_172 ?_
                  refine eg_goto 195 dX9_goesBy_173 rfl ?_
                  refine eg_ireturn dX9_goesBy_195 rfl rfl ?_
                  refine ⟨congrArg (fun q => some (vI q)) ?_, rfl, rfl⟩
                  unfold bi
                  clear q
                  by_cases t7 : m < 17
                  · first | (exfalso; omega) | rw [if_pos ((gM_u (v := v) (q := r) (m := m) ⟨by omega, by omega⟩).mpr (by omega))] | rw [if_neg (fun hh => by have h5 := (gM_u (v := v) (q := r) (m := m) ⟨by omega, by omega⟩).mp hh; omega)]
                  · first | (exfalso; omega) | rw [if_pos ((gM_d (v := v) (q := r) (m := m) ⟨by omega, by omega⟩).mpr (by omega))] | rw [if_neg (fun hh => by have h5 := (gM_d (v := v) (q := r) (m := m) ⟨by omega, by omega⟩).mp hh; omega)]
                · refine eg_iload dX9_goesBy_161 rfl ?_
                  refine eg_iload dX9_goesBy_163 rfl ?_
                  refine eg_icmp_ge 172 dX9_goesBy_165 ⟨by omega, by omega⟩ ⟨by omega, by omega⟩ rfl (fun h165 => ?_) (fun h165 => ?_)
                  · refine eg_iconst dX9_goesBy_172 ?_
                    refine eg_goto 195 dX9_goesBy_173 rfl ?_
                    refine eg_ireturn dX9_goesBy_195 rfl rfl ?_
                    refine ⟨congrArg (fun q => some (vI q)) ?_, rfl, rfl⟩
                    unfold bi
                    clear q
                    by_cases t7 : m < 17
                    · first | (exfalso; omega) | rw [if_pos ((gM_u (v := v) (q := r) (m := m) ⟨by omega, by omega⟩).mpr (by omega))] | rw [if_neg (fun hh => by have h5 := (gM_u (v := v) (q := r) (m := m) ⟨by omega, by omega⟩).mp hh; omega)]
                    · first | (exfalso; omega) | rw [if_pos ((gM_d (v := v) (q := r) (m := m) ⟨by omega, by omega⟩).mpr (by omega))] | rw [if_neg (fun hh => by have h5 := (gM_d (v := v) (q := r) (m := m) ⟨by omega, by omega⟩).mp hh; omega)]
                  · refine eg_iconst dX9_goesBy_168 ?_
                    refine eg_goto 195 dX9_goesBy_169 rfl ?_
                    refine eg_ireturn dX9_goesBy_195 rfl rfl ?_
                    refine ⟨congrArg (fun q => some (vI q)) ?_, rfl, rfl⟩
                    unfold bi
                    clear q
                    by_cases t7 : m < 17
                    · first | (exfalso; omega) | rw [if_pos ((gM_u (v := v) (q := r) (m := m) ⟨by omega, by omega⟩).mpr (by omega))] | rw [if_neg (fun hh => by have h5 := (gM_u (v := v) (q := r) (m := m) ⟨by omega, by omega⟩).mp hh; omega)]
                    · first | (exfalso; omega) | rw [if_pos ((gM_d (v := v) (q := r) (m := m) ⟨by omega, by omega⟩).mpr (by omega))] | rw [if_neg (fun hh => by have h5 := (gM_d (v := v) (q := r) (m := m) ⟨by omega, by omega⟩).mp hh; omega)]
            · refine eg_iload_n dX9_goesBy_135 rfl ?_
              refine eg_bipush dX9_goesBy_136 (by decide) ?_
              refine eg_isub dX9_goesBy_138 ?_
              refine eg_goto 146 dX9_goesBy_139 rfl ?_
              refine eg_istore dX9_goesBy_146 rfl rfl rfl ?_
              refine eg_iload_n dX9_goesBy_148 rfl ?_
              refine eg_bipush dX9_goesBy_149 (by decide) ?_
              refine eg_icmp_ge 176 dX9_goesBy_151 ⟨by omega, by omega⟩ ⟨by omega, by omega⟩ rfl (fun h151 => ?_) (fun h151 => ?_)
              · refine eg_iload dX9_goesBy_176 rfl ?_
                refine eg_iload dX9_goesBy_178 rfl ?_
                refine eg_icmp_gt 194 dX9_goesBy_180 ⟨by omega, by omega⟩ ⟨by omega, by omega⟩ rfl (fun h180 => ?_) (fun h180 => ?_)
                · refine eg_iconst dX9_goesBy_194 ?_
                  refine eg_ireturn dX9_goesBy_195 rfl rfl ?_
                  refine ⟨congrArg (fun q => some (vI q)) ?_, rfl, rfl⟩
                  unfold bi
                  clear q
                  by_cases t7 : m < 17
                  · first | (exfalso; omega) | rw [if_pos ((gM_u (v := v) (q := r) (m := m) ⟨by omega, by omega⟩).mpr (by omega))] | rw [if_neg (fun hh => by have h5 := (gM_u (v := v) (q := r) (m := m) ⟨by omega, by omega⟩).mp hh; omega)]
                  · first | (exfalso; omega) | rw [if_pos ((gM_d (v := v) (q := r) (m := m) ⟨by omega, by omega⟩).mpr (by omega))] | rw [if_neg (fun hh => by have h5 := (gM_d (v := v) (q := r) (m := m) ⟨by omega, by omega⟩).mp hh; omega)]
                · refine eg_iload dX9_goesBy_183 rfl ?_
                  refine eg_iload dX9_goesBy_185 rfl ?_
                  refine eg_icmp_ge 194 dX9_goesBy_187 ⟨by omega, by omega⟩ ⟨by omega, by omega⟩ rfl (fun h187 => ?_) (fun h187 => ?_)
                  · refine eg_iconst dX9_goesBy_194 ?_
                    refine eg_ireturn dX9_goesBy_195 rfl rfl ?_
                    refine ⟨congrArg (fun q => some (vI q)) ?_, rfl, rfl⟩
                    unfold bi
                    clear q
                    by_cases t7 : m < 17
                    · first | (exfalso; omega) | rw [if_pos ((gM_u (v := v) (q := r) (m := m) ⟨by omega, by omega⟩).mpr (by omega))] | rw [if_neg (fun hh => by have h5 := (gM_u (v := v) (q := r) (m := m) ⟨by omega, by omega⟩).mp hh; omega)]
                    · first | (exfalso; omega) | rw [if_pos ((gM_d (v := v) (q := r) (m := m) ⟨by omega, by omega⟩).mpr (by omega))] | rw [if_neg (fun hh => by have h5 := (gM_d (v := v) (q := r) (m := m) ⟨by omega, by omega⟩).mp hh; omega)]
                  · refine eg_iconst dX9_goesBy_190 ?_
                    refine eg_goto 195 dX9_goesBy_191 rfl ?_
                    refine eg_ireturn dX9_goesBy_195 rfl rfl ?_
                    refine ⟨congrArg (fun q => some (vI q)) ?_, rfl, rfl⟩
                    unfold bi
                    clear q
                    by_cases t7 : m < 17
                    · first | (exfalso; omega) | rw [if_pos ((gM_u (v := v) (q := r) (m := m) ⟨by omega, by omega⟩).mpr (by omega))] | rw [if_neg (fun hh => by have h5 := (gM_u (v := v) (q := r) (m := m) ⟨by omega, by omega⟩).mp hh; omega)]
                    · first | (exfalso; omega) | rw [if_pos ((gM_d (v := v) (q := r) (m := m) ⟨by omega, by omega⟩).mpr (by omega))] | rw [if_neg (fun hh => by have h5 := (gM_d (v := v) (q := r) (m := m) ⟨by omega, by omega⟩).mp hh; omega)]
              · refine eg_iload dX9_goesBy_154 rfl ?_
                refine eg_iload dX9_goesBy_156 rfl ?_
                refine eg_icmp_gt 172 dX9_goesBy_158 ⟨by omega, by omega⟩ ⟨by omega, by omega⟩ rfl (fun h158 => ?_) (fun h158 => ?_)
                · refine eg_iconst dX9_goesBy_172 ?_
                  refine eg_goto 195 dX9_goesBy_173 rfl ?_
                  refine eg_ireturn dX9_goesBy_195 rfl rfl ?_
                  refine ⟨congrArg (fun q => some (vI q)) ?_, rfl, rfl⟩
                  unfold bi
                  clear q
                  by_cases t7 : m < 17
                  · first | (exfalso; omega) | rw [if_pos ((gM_u (v := v) (q := r) (m := m) ⟨by omega, by omega⟩).mpr (by omega))] | rw [if_neg (fun hh => by have h5 := (gM_u (v := v) (q := r) (m := m) ⟨by omega, by omega⟩).mp hh; omega)]
                  · first | (exfalso; omega) | rw [if_pos ((gM_d (v := v) (q := r) (m := m) ⟨by omega, by omega⟩).mpr (by omega))] | rw [if_neg (fun hh => by have h5 := (gM_d (v := v) (q := r) (m := m) ⟨by omega, by omega⟩).mp hh; omega)]
                · refine eg_iload dX9_goesBy_161 rfl ?_
                  refine eg_iload dX9_goesBy_163 rfl ?_
                  refine eg_icmp_ge 172 dX9_goesBy_165 ⟨by omega, by omega⟩ ⟨by omega, by omega⟩ rfl (fun h165 => ?_) (fun h165 => ?_)
                  · refine eg_iconst dX9_goesBy_172 ?_
                    refine eg_goto 195 dX9_goesBy_173 rfl ?_
                    refine eg_ireturn dX9_goesBy_195 rfl rfl ?_
                    refine ⟨congrArg (fun q => some (vI q)) ?_, rfl, rfl⟩
                    unfold bi
                    clear q
                    by_cases t7 : m < 17
                    · first | (exfalso; omega) | rw [if_pos ((gM_u (v := v) (q := r) (m := m) ⟨by omega, by omega⟩).mpr (by omega))] | rw [if_neg (fun hh => by have h5 := (gM_u (v := v) (q := r) (m := m) ⟨by omega, by omega⟩).mp hh; omega)]
                    · first | (exfalso; omega) | rw [if_pos ((gM_d (v := v) (q := r) (m := m) ⟨by omega, by omega⟩).mpr (by omega))] | rw [if_neg (fun hh => by have h5 := (gM_d (v := v) (q := r) (m := m) ⟨by omega, by omega⟩).mp hh; omega)]
                  · refine eg_iconst dX9_goesBy_168 ?_
                    refine eg_goto 195 dX9_goesBy_169 rfl ?_
                    refine eg_ireturn dX9_goesBy_195 rfl rfl ?_
                    refine ⟨congrArg (fun q => some (vI q)) ?_, rfl, rfl⟩
                    unfold bi
                    clear q
                    by_cases t7 : m < 17
                    · first | (exfalso; omega) | rw [if_pos ((gM_u (v := v) (q := r) (m := m) ⟨by omega, by omega⟩).mpr (by omega))] | rw [if_neg (fun hh => by have h5 := (gM_u (v := v) (q := r) (m := m) ⟨by omega, by omega⟩).mp hh; omega)]
                    · first | (exfalso; omega) | rw [if_pos ((gM_d (v := v) (q := r) (m := m) ⟨by omega, by omega⟩).mpr (by omega))] | rw [if_neg (fun hh => by have h5 := (gM_d (v := v) (q := r) (m := m) ⟨by omega, by omega⟩).mp hh; omega)]
          · refine eg_iconst dX9_goesBy_110 ?_
            refine eg_ireturn dX9_goesBy_111 rfl rfl ?_
            refine ⟨congrArg (fun q => some (vI q)) ?_, rfl, rfl⟩
            unfold bi
            clear q
            by_cases t7 : m < 17
            · first | (exfalso; omega) | rw [if_pos ((gM_u (v := v) (q := r) (m := m) ⟨by omega, by omega⟩).mpr (by omega))] | rw [if_neg (fun hh => by have h5 := (gM_u (v := v) (q := r) (m := m) ⟨by omega, by omega⟩).mp hh; omega)]
            · first | (exfalso; omega) | rw [if_pos ((gM_d (v := v) (q := r) (m := m) ⟨by omega, by omega⟩).mpr (by omega))] | rw [if_neg (fun hh => by have h5 := (gM_d (v := v) (q := r) (m := m) ⟨by omega, by omega⟩).mp hh; omega)]
      · refine eg_iload dX9_goesBy_74 rfl ?_
        refine eg_iconst dX9_goesBy_76 ?_
        refine eg_icmp_ne 97 dX9_goesBy_77 ⟨by omega, by omega⟩ ⟨by omega, by omega⟩ rfl (fun h77 => ?_) (fun h77 => ?_)
        · refine eg_iconst dX9_goesBy_97 ?_
          refine eg_ireturn dX9_goesBy_98 rfl rfl ?_
          refine ⟨congrArg (fun q => some (vI q)) ?_, rfl, rfl⟩
          unfold bi
          clear q
          first | (exfalso; omega) | rw [if_pos ((gM_k (v := v) (q := r) (m := m) ⟨by omega, by omega⟩).mpr (by omega))] | rw [if_neg (fun hh => by have h5 := (gM_k (v := v) (q := r) (m := m) ⟨by omega, by omega⟩).mp hh; omega)]
        · refine eg_al_n dX9_goesBy_80 rfl rfl ?_
          refine eg_iload_n dX9_goesBy_81 rfl ?_
          refine eg_iconst dX9_goesBy_82 ?_
          refine eg_Vf2 cs_X9_259 dX9_goesBy_83 (c_nom hN (by omega) (by omega) (by omega) (by omega)) (by first | exact er202 | exact er203 | exact er204 | exact er205 | exact er206 | exact er207 | exact er208 | exact er209 | exact er210 | exact er211 | exact er212 | exact er213 | exact er214 | exact er215) rfl (Nat.le_of_ble_eq_true rfl) (by decide) ?_
          refine eg_iload_n dX9_goesBy_86 rfl ?_
          refine eg_bipush dX9_goesBy_87 (by decide) ?_
          refine eg_isub dX9_goesBy_89 ?_
          refine eg_icmp_ne 97 dX9_goesBy_90 ⟨by omega, by omega⟩ ⟨by omega, by omega⟩ rfl (fun h90 => ?_) (fun h90 => ?_)
          · refine eg_iconst dX9_goesBy_97 ?_
            refine eg_ireturn dX9_goesBy_98 rfl rfl ?_
            refine ⟨congrArg (fun q => some (vI q)) ?_, rfl, rfl⟩
            unfold bi
            clear q
            first | (exfalso; omega) | rw [if_pos ((gM_k (v := v) (q := r) (m := m) ⟨by omega, by omega⟩).mpr (by omega))] | rw [if_neg (fun hh => by have h5 := (gM_k (v := v) (q := r) (m := m) ⟨by omega, by omega⟩).mp hh; omega)]
          · refine eg_iconst dX9_goesBy_93 ?_
            refine eg_goto 98 dX9_goesBy_94 rfl ?_
            refine eg_ireturn dX9_goesBy_98 rfl rfl ?_
            refine ⟨congrArg (fun q => some (vI q)) ?_, rfl, rfl⟩
            unfold bi
            clear q
            first | (exfalso; omega) | rw [if_pos ((gM_k (v := v) (q := r) (m := m) ⟨by omega, by omega⟩).mpr (by omega))] | rw [if_neg (fun hh => by have h5 := (gM_k (v := v) (q := r) (m := m) ⟨by omega, by omega⟩).mp hh; omega)]
    · refine eg_iload_n dX9_goesBy_44 rfl ?_
      refine eg_iconst dX9_goesBy_45 ?_
      refine eg_icmp_ne 66 dX9_goesBy_46 ⟨by omega, by omega⟩ ⟨by omega, by omega⟩ rfl (fun h46 => ?_) (fun h46 => ?_)
      · refine eg_iconst dX9_goesBy_66 ?_
        refine eg_ireturn dX9_goesBy_67 rfl rfl ?_
        refine ⟨congrArg (fun q => some (vI q)) ?_, rfl, rfl⟩
        unfold bi
        clear q
        first | (exfalso; omega) | rw [if_pos ((gM_n (v := v) (q := r) (m := m) ⟨by omega, by omega⟩).mpr (by omega))] | rw [if_neg (fun hh => by have h5 := (gM_n (v := v) (q := r) (m := m) ⟨by omega, by omega⟩).mp hh; omega)]
      · refine eg_al_n dX9_goesBy_49 rfl rfl ?_
        refine eg_iload_n dX9_goesBy_50 rfl ?_
        refine eg_iconst dX9_goesBy_51 ?_
        refine eg_Vf2 cs_X9_259 dX9_goesBy_52 (c_nom hN (by omega) (by omega) (by omega) (by omega)) (by first | exact er202 | exact er203 | exact er204 | exact er205 | exact er206 | exact er207 | exact er208 | exact er209 | exact er210 | exact er211 | exact er212 | exact er213 | exact er214 | exact er215) rfl (Nat.le_of_ble_eq_true rfl) (by decide) ?_
        refine eg_iload_n dX9_goesBy_55 rfl ?_
        refine eg_bipush dX9_goesBy_56 (by decide) ?_
        refine eg_isub dX9_goesBy_58 ?_
        refine eg_icmp_ne 66 dX9_goesBy_59 ⟨by omega, by omega⟩ ⟨by omega, by omega⟩ rfl (fun h59 => ?_) (fun h59 => ?_)
        · refine eg_iconst dX9_goesBy_66 ?_
          refine eg_ireturn dX9_goesBy_67 rfl rfl ?_
          refine ⟨congrArg (fun q => some (vI q)) ?_, rfl, rfl⟩
          unfold bi
          clear q
          first | (exfalso; omega) | rw [if_pos ((gM_n (v := v) (q := r) (m := m) ⟨by omega, by omega⟩).mpr (by omega))] | rw [if_neg (fun hh => by have h5 := (gM_n (v := v) (q := r) (m := m) ⟨by omega, by omega⟩).mp hh; omega)]
        · refine eg_iconst dX9_goesBy_62 ?_
          refine eg_goto 67 dX9_goesBy_63 rfl ?_
          refine eg_ireturn dX9_goesBy_67 rfl rfl ?_
          refine ⟨congrArg (fun q => some (vI q)) ?_, rfl, rfl⟩
          unfold bi
          clear q
          first | (exfalso; omega) | rw [if_pos ((gM_n (v := v) (q := r) (m := m) ⟨by omega, by omega⟩).mpr (by omega))] | rw [if_neg (fun hh => by have h5 := (gM_n (v := v) (q := r) (m := m) ⟨by omega, by omega⟩).mp hh; omega)]
  · refine eg_iload_n dX9_goesBy_21 rfl ?_
    refine eg_iload_n dX9_goesBy_22 rfl ?_
    refine eg_icmp_eq 32 dX9_goesBy_23 ⟨by omega, by omega⟩ ⟨by omega, by omega⟩ rfl (fun h23 => ?_) (fun h23 => ?_)
    · refine eg_iconst dX9_goesBy_32 ?_
      refine eg_goto 37 dX9_goesBy_33 rfl ?_
      refine eg_ireturn dX9_goesBy_37 rfl rfl ?_
      refine ⟨congrArg (fun q => some (vI q)) ?_, rfl, rfl⟩
      unfold bi
      clear q
      first | (exfalso; omega) | rw [if_pos ((gM_p (v := v) (q := r) (m := m) (by omega)).mpr (by omega))] | rw [if_neg (fun hh => by have h5 := (gM_p (v := v) (q := r) (m := m) (by omega)).mp hh; omega)]
    · refine eg_iload_n dX9_goesBy_26 rfl ?_
      refine eg_iload dX9_goesBy_27 rfl ?_
      refine eg_icmp_ne 36 dX9_goesBy_29 ⟨by omega, by omega⟩ ⟨by omega, by omega⟩ rfl (fun h29 => ?_) (fun h29 => ?_)
      · refine eg_iconst dX9_goesBy_36 ?_
        refine eg_ireturn dX9_goesBy_37 rfl rfl ?_
        refine ⟨congrArg (fun q => some (vI q)) ?_, rfl, rfl⟩
        unfold bi
        clear q
        first | (exfalso; omega) | rw [if_pos ((gM_p (v := v) (q := r) (m := m) (by omega)).mpr (by omega))] | rw [if_neg (fun hh => by have h5 := (gM_p (v := v) (q := r) (m := m) (by omega)).mp hh; omega)]
      · refine eg_iconst dX9_goesBy_32 ?_
        refine eg_goto 37 dX9_goesBy_33 rfl ?_
        refine eg_ireturn dX9_goesBy_37 rfl rfl ?_
        refine ⟨congrArg (fun q => some (vI q)) ?_, rfl, rfl⟩
        unfold bi
        clear q
        first | (exfalso; omega) | rw [if_pos ((gM_p (v := v) (q := r) (m := m) (by omega)).mpr (by omega))] | rw [if_neg (fun hh => by have h5 := (gM_p (v := v) (q := r) (m := m) (by omega)).mp hh; omega)]
theorem c_codeOf {k : eg_K} {z : eg_Z} {X : eg_M} {n : Nat} {v : eg_v} (hN : nw z v) {B : Int} (hv : VV B v) {m : Int} (hm : 0 ≤ m ∧ m < 36) (hi : m < 10 → m < v 1) : eg_P k gX9_codeOf 1 0 0 [vR k 202, vI m] n (enc k z X) (eg_f (some (vI (cdC (stM v m)))) n (enc k z X)) := by
  refine eg_P.of (by decide) (Nat.le_of_ble_eq_true rfl) ?_
  show eg_E k gX9_codeOf 1 0 0 n (enc k z X) [vR k 202, vI m] [] 0 _
  have q := hv.r.2
  refine eg_iload_n dX9_codeOf_0 rfl ?_
  refine eg_bipush dX9_codeOf_1 (by decide) ?_
  refine eg_icmp_ge 25 dX9_codeOf_3 ⟨by omega, by omega⟩ ⟨by omega, by omega⟩ rfl (fun h3 => ?_) (fun h3 => ?_)
  · refine eg_iload_n dX9_codeOf_25 rfl ?_
    refine eg_bipush dX9_codeOf_26 (by decide) ?_
    refine eg_icmp_ge 42 dX9_codeOf_28 ⟨by omega, by omega⟩ ⟨by omega, by omega⟩ rfl (fun h28 => ?_) (fun h28 => ?_)
    · refine eg_iload_n dX9_codeOf_42 rfl ?_
      refine eg_bipush dX9_codeOf_43 (by decide) ?_
      refine eg_icmp_ge 59 dX9_codeOf_45 ⟨by omega, by omega⟩ ⟨by omega, by omega⟩ rfl (fun h45 => ?_) (fun h45 => ?_)
      · refine eg_sipush dX9_codeOf_59 (by decide) ?_
        refine eg_ireturn dX9_codeOf_62 rfl rfl ?_
        refine ⟨congrArg (fun q => some (vI q)) ?_, rfl, rfl⟩
        unfold cdC stM stQ
        repeat (first | rw [if_pos (by omega)] | rw [if_neg (by omega)])
        all_goals omega
      · refine eg_sipush dX9_codeOf_48 (by decide) ?_
        refine eg_iload_n dX9_codeOf_51 rfl ?_
        refine eg_iadd dX9_codeOf_52 ?_
        refine eg_bipush dX9_codeOf_53 (by decide) ?_
        refine eg_isub dX9_codeOf_55 ?_
        refine eg_goto 62 dX9_codeOf_56 rfl ?_
        refine eg_ireturn dX9_codeOf_62 rfl rfl ?_
        refine ⟨congrArg (fun q => some (vI q)) ?_, rfl, rfl⟩
        unfold cdC stM stQ
        repeat (first | rw [if_pos (by omega)] | rw [if_neg (by omega)])
        all_goals omega
    · refine eg_sipush dX9_codeOf_31 (by decide) ?_
      refine eg_iload_n dX9_codeOf_34 rfl ?_
      refine eg_iadd dX9_codeOf_35 ?_
      refine eg_bipush dX9_codeOf_36 (by decide) ?_
      refine eg_isub dX9_codeOf_38 ?_
      refine eg_goto 62 dX9_codeOf_39 rfl ?_
      refine eg_ireturn dX9_codeOf_62 rfl rfl ?_
      refine ⟨congrArg (fun q => some (vI q)) ?_, rfl, rfl⟩
      unfold cdC stM stQ
      repeat (first | rw [if_pos (by omega)] | rw [if_neg (by omega)])
      all_goals omega
  · refine eg_al_n dX9_codeOf_6 rfl rfl ?_
    refine eg_iload_n dX9_codeOf_7 rfl ?_
    refine eg_iconst dX9_codeOf_8 ?_
    refine eg_Vf2 cs_X9_189 dX9_codeOf_9 (c_pointOf hN (by omega) (by omega) (by omega) (by omega)) (by first | exact er202 | exact er203 | exact er204 | exact er205 | exact er206 | exact er207 | exact er208 | exact er209 | exact er210 | exact er211 | exact er212 | exact er213 | exact er214 | exact er215) rfl (Nat.le_of_ble_eq_true rfl) (by decide) ?_
    have op := hv.P (p := m) (by omega) (by omega)
    unfold okP at op
    refine eg_iconst dX9_codeOf_12 ?_
    refine eg_icmp_ne 21 dX9_codeOf_13 ⟨by omega, by omega⟩ ⟨by omega, by omega⟩ rfl (fun h13 => ?_) (fun h13 => ?_)
    · refine eg_sipush dX9_codeOf_21 (by decide) ?_
      refine eg_ireturn dX9_codeOf_24 rfl rfl ?_
      refine ⟨congrArg (fun q => some (vI q)) ?_, rfl, rfl⟩
      unfold cdC stM stQ
      repeat (first | rw [if_pos (by omega)] | rw [if_neg (by omega)])
      all_goals omega
    · refine eg_bipush dX9_codeOf_16 (by decide) ?_
      refine eg_goto 24 dX9_codeOf_18 rfl ?_
      refine eg_ireturn dX9_codeOf_24 rfl rfl ?_
      refine ⟨congrArg (fun q => some (vI q)) ?_, rfl, rfl⟩
      unfold cdC stM stQ
      repeat (first | rw [if_pos (by omega)] | rw [if_neg (by omega)])
      all_goals omega
