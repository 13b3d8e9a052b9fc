/-! THE REFERENCE'S METHODS, over the same numbers. nw: its row holds v. -/
def nw (z : eg_Z) (v : eg_v) : Prop := ∀ i : Nat, i < 220 → z 203 i = v i
theorem nw_i {z : eg_Z} {v : eg_v} (h : nw z v) {i : Int} (h1 : i < 220) : z 203 i.toNat = v i.toNat := h _ (by omega)
theorem nw_c {z z' : eg_Z} {v : eg_v} (e : z' 203 = z 203) (h : nw z v) : nw z' v := fun i hi => by rw [e]; exact h i hi
theorem eg_ldcw {k : eg_K} {g : eg_G} {d bc bs n : Nat} {M : eg_M} {ls st : List Value} {pc : Nat} {Q : eg_Q} {x : Int} {idx : Nat} (hw : Cond.constant g.1.cls idx (Int32.ofInt x) ∈ eg_T) (hd : decode g.2.1 pc = .ok (.ldc_w idx, 3)) (h : eg_E k g d bc bs n (M) ls (vI x :: st) (pc + 3) Q) : eg_E k g d bc bs n (M) ls (st) (pc) Q := by
  intro p e R s m args below meth c H locs cells slots sl Z C hW hz hl hL hc hs hR
  exact lv_ldcw C.1 C.2.1 C.2.2.2.2.1 (C.2.2.2.2.2.1 _ hw) hd (h p e R s m args below meth c H locs cells slots sl Z C hW hz hl hL hc hs hR)
theorem c_in {k : eg_K} {M : eg_M} {n : Nat} {x y w : Int} (r_x : lR x) (r_y : lR y) (r_w : lR w) : eg_P k gX9_in 0 0 0 [vL x, vL y, vL w] n (M) (eg_f (some (vI (bi (y ≤ x ∧ x ≤ w)))) n (M)) := by
  refine eg_P.of (by decide) (Nat.le_of_ble_eq_true rfl) ?_
  show eg_E k gX9_in 0 0 0 n (M) [vL x, vU, vL y, vU, vL w, vU] [] 0 _
  have r_x1 := r_x.1; have r_x2 := r_x.2; have r_y1 := r_y.1; have r_y2 := r_y.2; have r_w1 := r_w.1; have r_w2 := r_w.2
  refine eg_lload_n dX9_in_0 rfl ?_
  refine eg_lload_n dX9_in_1 rfl ?_
  refine eg_lc_lt 17 dX9_in_2 dX9_in_3 ⟨by omega, by omega⟩ ⟨by omega, by omega⟩ rfl (fun h2 => ?_) (fun h2 => ?_)
  · refine eg_iconst dX9_in_17 ?_
    refine eg_ireturn dX9_in_18 rfl rfl ?_
    exact ⟨congrArg (fun q => some (vI q)) (by unfold bi; first | (exfalso; omega) | rw [if_pos (by omega)] | rw [if_neg (by omega)]), rfl, rfl⟩
  · refine eg_lload_n dX9_in_6 rfl ?_
    refine eg_lload dX9_in_7 rfl ?_
    refine eg_lc_gt 17 dX9_in_9 dX9_in_10 ⟨by omega, by omega⟩ ⟨by omega, by omega⟩ rfl (fun h9 => ?_) (fun h9 => ?_)
    · refine eg_iconst dX9_in_17 ?_
      refine eg_ireturn dX9_in_18 rfl rfl ?_
      exact ⟨congrArg (fun q => some (vI q)) (by unfold bi; first | (exfalso; omega) | rw [if_pos (by omega)] | rw [if_neg (by omega)]), rfl, rfl⟩
    · refine eg_iconst dX9_in_13 ?_
      refine eg_goto 18 dX9_in_14 rfl ?_
      refine eg_ireturn dX9_in_18 rfl rfl ?_
      exact ⟨congrArg (fun q => some (vI q)) (by unfold bi; first | (exfalso; omega) | rw [if_pos (by omega)] | rw [if_neg (by omega)]), rfl, rfl⟩
theorem c_truth {k : eg_K} {M : eg_M} {n : Nat} {x : Int} (hx : x = 0 ∨ x = 1) : eg_P k gX9_truth 0 0 0 [vI x] n (M) (eg_f (some (vI x)) n (M)) := by
  refine eg_P.of (by decide) (Nat.le_of_ble_eq_true rfl) ?_
  show eg_E k gX9_truth 0 0 0 n (M) [vI x] [] 0 _
  refine eg_iload_n dX9_truth_0 rfl ?_
  refine eg_if_eq 8 dX9_truth_1 ⟨by omega, by omega⟩ rfl (fun h1 => ?_) (fun h1 => ?_)
  · refine eg_iconst dX9_truth_8 ?_
    refine eg_ireturn dX9_truth_9 rfl rfl ?_
    exact ⟨congrArg (fun q => some (vI q)) (by omega), rfl, rfl⟩
  · refine eg_iconst dX9_truth_4 ?_
    refine eg_goto 9 dX9_truth_5 rfl ?_
    refine eg_ireturn dX9_truth_9 rfl rfl ?_
    exact ⟨congrArg (fun q => some (vI q)) (by omega), rfl, rfl⟩
theorem c_many {k : eg_K} {z : eg_Z} {X : eg_M} {n : Nat} {v : eg_v} (hN : nw z v) {w : Int} (h0 : 0 ≤ w) (h1 : w < 220) : eg_P k gX9_many 0 0 0 [vR k 202, vI w] n (enc k z X) (eg_f (some (vI (v w.toNat))) n (enc k z X)) := by
  refine eg_P.of (by decide) (Nat.le_of_ble_eq_true rfl) ?_
  show eg_E k gX9_many 0 0 0 n (enc k z X) [vR k 202, vI w] [] 0 _
  refine eg_al_n dX9_many_0 rfl rfl ?_
  refine eg_get fl_X9_9 dX9_many_1 (by first | exact er202 | exact er203 | exact er204 | exact er205 | exact er206 | exact er207 | exact er208 | exact er209 | exact er210 | exact er211 | exact er212 | exact er213 | exact er214 | exact er215) rfl ?_
  refine eg_iload_n dX9_many_4 rfl ?_
  refine eg_lald dX9_many_5 (by first | exact er202 | exact er203 | exact er204 | exact er205 | exact er206 | exact er207 | exact er208 | exact er209 | exact er210 | exact er211 | exact er212 | exact er213 | exact er214 | exact er215) (by omega) (by omega) (by decide) ?_
  refine eg_l2i dX9_many_6 ?_
  refine eg_ireturn dX9_many_7 rfl rfl ?_
  exact ⟨congrArg (fun q => some (vI q)) (nw_i hN h1), rfl, rfl⟩
theorem many_0 {k : eg_K} {z : eg_Z} {X : eg_M} {n : Nat} {v : eg_v} (hN : nw z v) : eg_P k gX9_many 0 0 0 [vR k 202, vI 0] n (enc k z X) (eg_f (some (vI (v 0))) n (enc k z X)) := c_many hN (w := 0) (by decide) (by decide)
theorem many_1 {k : eg_K} {z : eg_Z} {X : eg_M} {n : Nat} {v : eg_v} (hN : nw z v) : eg_P k gX9_many 0 0 0 [vR k 202, vI 1] n (enc k z X) (eg_f (some (vI (v 1))) n (enc k z X)) := c_many hN (w := 1) (by decide) (by decide)
theorem many_2 {k : eg_K} {z : eg_Z} {X : eg_M} {n : Nat} {v : eg_v} (hN : nw z v) : eg_P k gX9_many 0 0 0 [vR k 202, vI 2] n (enc k z X) (eg_f (some (vI (v 2))) n (enc k z X)) := c_many hN (w := 2) (by decide) (by decide)
theorem many_3 {k : eg_K} {z : eg_Z} {X : eg_M} {n : Nat} {v : eg_v} (hN : nw z v) : eg_P k gX9_many 0 0 0 [vR k 202, vI 3] n (enc k z X) (eg_f (some (vI (v 3))) n (enc k z X)) := c_many hN (w := 3) (by decide) (by decide)
theorem many_4 {k : eg_K} {z : eg_Z} {X : eg_M} {n : Nat} {v : eg_v} (hN : nw z v) : eg_P k gX9_many 0 0 0 [vR k 202, vI 4] n (enc k z X) (eg_f (some (vI (v 4))) n (enc k z X)) := c_many hN (w := 4) (by decide) (by decide)
theorem many_5 {k : eg_K} {z : eg_Z} {X : eg_M} {n : Nat} {v : eg_v} (hN : nw z v) : eg_P k gX9_many 0 0 0 [vR k 202, vI 5] n (enc k z X) (eg_f (some (vI (v 5))) n (enc k z X)) := c_many hN (w := 5) (by decide) (by decide)
theorem many_6 {k : eg_K} {z : eg_Z} {X : eg_M} {n : Nat} {v : eg_v} (hN : nw z v) : eg_P k gX9_many 0 0 0 [vR k 202, vI 6] n (enc k z X) (eg_f (some (vI (v 6))) n (enc k z X)) := c_many hN (w := 6) (by decide) (by decide)
theorem c_seg {k : eg_K} {z : eg_Z} {X : eg_M} {n : Nat} {v : eg_v} (hN : nw z v) {i c : Int} (h0 : 0 ≤ i) (h1 : i < 7) (h2 : 0 ≤ c) (h3 : c < 2) : eg_P k gX9_seg 0 0 0 [vR k 202, vI i, vI c] n (enc k z X) (eg_f (some (vI (gS v i c))) n (enc k z X)) := by
  refine eg_P.of (by decide) (Nat.le_of_ble_eq_true rfl) ?_
  show eg_E k gX9_seg 0 0 0 n (enc k z X) [vR k 202, vI i, vI c] [] 0 _
  refine eg_al_n dX9_seg_0 rfl rfl ?_
  refine eg_get fl_X9_9 dX9_seg_1 (by first | exact er202 | exact er203 | exact er204 | exact er205 | exact er206 | exact er207 | exact er208 | exact er209 | exact er210 | exact er211 | exact er212 | exact er213 | exact er214 | exact er215) rfl ?_
  refine eg_bipush dX9_seg_4 (by decide) ?_
  refine eg_iconst dX9_seg_6 ?_
  refine eg_iload_n dX9_seg_7 rfl ?_
  refine eg_imul dX9_seg_8 ?_
  refine eg_iadd dX9_seg_9 ?_
  refine eg_iload_n dX9_seg_10 rfl ?_
  refine eg_iadd dX9_seg_11 ?_
  refine eg_lald dX9_seg_12 (by first | exact er202 | exact er203 | exact er204 | exact er205 | exact er206 | exact er207 | exact er208 | exact er209 | exact er210 | exact er211 | exact er212 | exact er213 | exact er214 | exact er215) (by omega) (by omega) (by decide) ?_
  refine eg_l2i dX9_seg_13 ?_
  refine eg_ireturn dX9_seg_14 rfl rfl ?_
  exact ⟨congrArg (fun q => some (vI q)) (nw_i hN (by omega)), rfl, rfl⟩
theorem c_pointOf {k : eg_K} {z : eg_Z} {X : eg_M} {n : Nat} {v : eg_v} (hN : nw z v) {i c : Int} (h0 : 0 ≤ i) (h1 : i < 10) (h2 : 0 ≤ c) (h3 : c < 4) : eg_P k gX9_pointOf 0 0 0 [vR k 202, vI i, vI c] n (enc k z X) (eg_f (some (vI (gP v i c))) n (enc k z X)) := by
  refine eg_P.of (by decide) (Nat.le_of_ble_eq_true rfl) ?_
  show eg_E k gX9_pointOf 0 0 0 n (enc k z X) [vR k 202, vI i, vI c] [] 0 _
  refine eg_al_n dX9_pointOf_0 rfl rfl ?_
  refine eg_get fl_X9_9 dX9_pointOf_1 (by first | exact er202 | exact er203 | exact er204 | exact er205 | exact er206 | exact er207 | exact er208 | exact er209 | exact er210 | exact er211 | exact er212 | exact er213 | exact er214 | exact er215) rfl ?_
  refine eg_bipush dX9_pointOf_4 (by decide) ?_
  refine eg_iconst dX9_pointOf_6 ?_
  refine eg_iload_n dX9_pointOf_7 rfl ?_
  refine eg_imul dX9_pointOf_8 ?_
  refine eg_iadd dX9_pointOf_9 ?_
  refine eg_iload_n dX9_pointOf_10 rfl ?_
  refine eg_iadd dX9_pointOf_11 ?_
  refine eg_lald dX9_pointOf_12 (by first | exact er202 | exact er203 | exact er204 | exact er205 | exact er206 | exact er207 | exact er208 | exact er209 | exact er210 | exact er211 | exact er212 | exact er213 | exact er214 | exact er215) (by omega) (by omega) (by decide) ?_
  refine eg_l2i dX9_pointOf_13 ?_
  refine eg_ireturn dX9_pointOf_14 rfl rfl ?_
  exact ⟨congrArg (fun q => some (vI q)) (nw_i hN (by omega)), rfl, rfl⟩
theorem c_ship {k : eg_K} {z : eg_Z} {X : eg_M} {n : Nat} {v : eg_v} (hN : nw z v) {i c : Int} (h0 : 0 ≤ i) (h1 : i < 6) (h2 : 0 ≤ c) (h3 : c < 7) : eg_P k gX9_ship 0 0 0 [vR k 202, vI i, vI c] n (enc k z X) (eg_f (some (vL (gH v i c))) n (enc k z X)) := by
  refine eg_P.of (by decide) (Nat.le_of_ble_eq_true rfl) ?_
  show eg_E k gX9_ship 0 0 0 n (enc k z X) [vR k 202, vI i, vI c] [] 0 _
  refine eg_al_n dX9_ship_0 rfl rfl ?_
  refine eg_get fl_X9_9 dX9_ship_1 (by first | exact er202 | exact er203 | exact er204 | exact er205 | exact er206 | exact er207 | exact er208 | exact er209 | exact er210 | exact er211 | exact er212 | exact er213 | exact er214 | exact er215) rfl ?_
  refine eg_bipush dX9_ship_4 (by decide) ?_
  refine eg_bipush dX9_ship_6 (by decide) ?_
  refine eg_iload_n dX9_ship_8 rfl ?_
  refine eg_imul dX9_ship_9 ?_
  refine eg_iadd dX9_ship_10 ?_
  refine eg_iload_n dX9_ship_11 rfl ?_
  refine eg_iadd dX9_ship_12 ?_
  refine eg_lald dX9_ship_13 (by first | exact er202 | exact er203 | exact er204 | exact er205 | exact er206 | exact er207 | exact er208 | exact er209 | exact er210 | exact er211 | exact er212 | exact er213 | exact er214 | exact er215) (by omega) (by omega) (by decide) ?_
  refine eg_lreturn dX9_ship_14 rfl ?_
  exact ⟨congrArg (fun q => some (vL q)) (nw_i hN (by omega)), rfl, rfl⟩
theorem c_nom {k : eg_K} {z : eg_Z} {X : eg_M} {n : Nat} {v : eg_v} (hN : nw z v) {i c : Int} (h0 : 0 ≤ i) (h1 : i < 16) (h2 : 0 ≤ c) (h3 : c < 4) : eg_P k gX9_nom 0 0 0 [vR k 202, vI i, vI c] n (enc k z X) (eg_f (some (vI (gN v i c))) n (enc k z X)) := by
  refine eg_P.of (by decide) (Nat.le_of_ble_eq_true rfl) ?_
  show eg_E k gX9_nom 0 0 0 n (enc k z X) [vR k 202, vI i, vI c] [] 0 _
  refine eg_al_n dX9_nom_0 rfl rfl ?_
  refine eg_get fl_X9_9 dX9_nom_1 (by first | exact er202 | exact er203 | exact er204 | exact er205 | exact er206 | exact er207 | exact er208 | exact er209 | exact er210 | exact er211 | exact er212 | exact er213 | exact er214 | exact er215) rfl ?_
  refine eg_bipush dX9_nom_4 (by decide) ?_
  refine eg_iconst dX9_nom_6 ?_
  refine eg_iload_n dX9_nom_7 rfl ?_
  refine eg_imul dX9_nom_8 ?_
  refine eg_iadd dX9_nom_9 ?_
  refine eg_iload_n dX9_nom_10 rfl ?_
  refine eg_iadd dX9_nom_11 ?_
  refine eg_lald dX9_nom_12 (by first | exact er202 | exact er203 | exact er204 | exact er205 | exact er206 | exact er207 | exact er208 | exact er209 | exact er210 | exact er211 | exact er212 | exact er213 | exact er214 | exact er215) (by omega) (by omega) (by decide) ?_
  refine eg_l2i dX9_nom_13 ?_
  refine eg_ireturn dX9_nom_14 rfl rfl ?_
  exact ⟨congrArg (fun q => some (vI q)) (nw_i hN (by omega)), rfl, rfl⟩
theorem c_isHub {k : eg_K} {z : eg_Z} {X : eg_M} {n : Nat} {v : eg_v} (hN : nw z v) {B : Int} (hv : VV B v) {a : Int} (r_a : iR a) : eg_P k gX9_isHub 1 0 0 [vR k 202, vI a] n (enc k z X) (eg_f (some (vI (bi (0 ≤ a ∧ a < v 0)))) n (enc k z X)) := by
  refine eg_P.of (by decide) (Nat.le_of_ble_eq_true rfl) ?_
  show eg_E k gX9_isHub 1 0 0 n (enc k z X) [vR k 202, vI a] [] 0 _
  have q := hv.r.2
  have r_a1 := r_a.1; have r_a2 := r_a.2
  refine eg_iload_n dX9_isHub_0 rfl ?_
  refine eg_i2l dX9_isHub_1 ⟨by omega, by omega⟩ ?_
  refine eg_lconst dX9_isHub_2 ?_
  refine eg_al_n dX9_isHub_3 rfl rfl ?_
  refine eg_get fl_X9_9 dX9_isHub_4 (by first | exact er202 | exact er203 | exact er204 | exact er205 | exact er206 | exact er207 | exact er208 | exact er209 | exact er210 | exact er211 | exact er212 | exact er213 | exact er214 | exact er215) rfl ?_
  refine eg_iconst dX9_isHub_7 ?_
  refine eg_lald dX9_isHub_8 (by first | exact er202 | exact er203 | exact er204 | exact er205 | exact er206 | exact er207 | exact er208 | exact er209 | exact er210 | exact er211 | exact er212 | exact er213 | exact er214 | exact er215) (by omega) (by omega) (by decide) ?_
  rw [show z 203 (((0 : Int)).toNat) = v 0 from hN 0 (by decide)]
  refine eg_lconst dX9_isHub_9 ?_
  refine eg_lsub dX9_isHub_10 ?_
  refine eg_Sf3 cs_X9_81 dX9_isHub_11 (c_in ⟨by omega, by omega⟩ ⟨by omega, by omega⟩ ⟨by omega, by omega⟩) (Nat.le_of_ble_eq_true rfl) (by decide) ?_
  refine eg_ireturn dX9_isHub_14 rfl (by first | rfl | exact bi_nar _ | (unfold bi; split <;> rfl)) ?_
  exact ⟨congrArg (fun q => some (vI q)) (by unfold bi; split <;> split <;> first | rfl | (exfalso; omega)), rfl, rfl⟩
theorem c_isSegment {k : eg_K} {z : eg_Z} {X : eg_M} {n : Nat} {v : eg_v} (hN : nw z v) {B : Int} (hv : VV B v) {a : Int} (r_a : iR a) : eg_P k gX9_isSegment 1 0 0 [vR k 202, vI a] n (enc k z X) (eg_f (some (vI (bi (0 ≤ a ∧ a < segs v)))) n (enc k z X)) := by
  refine eg_P.of (by decide) (Nat.le_of_ble_eq_true rfl) ?_
  show eg_E k gX9_isSegment 1 0 0 n (enc k z X) [vR k 202, vI a] [] 0 _
  have q := hv.r.2
  have r_a1 := r_a.1; have r_a2 := r_a.2
  refine eg_iload_n dX9_isSegment_0 rfl ?_
  refine eg_i2l dX9_isSegment_1 ⟨by omega, by omega⟩ ?_
  refine eg_lconst dX9_isSegment_2 ?_
  refine eg_al_n dX9_isSegment_3 rfl rfl ?_
  refine eg_get fl_X9_9 dX9_isSegment_4 (by first | exact er202 | exact er203 | exact er204 | exact er205 | exact er206 | exact er207 | exact er208 | exact er209 | exact er210 | exact er211 | exact er212 | exact er213 | exact er214 | exact er215) rfl ?_
  refine eg_iconst dX9_isSegment_7 ?_
  refine eg_lald dX9_isSegment_8 (by first | exact er202 | exact er203 | exact er204 | exact er205 | exact er206 | exact er207 | exact er208 | exact er209 | exact er210 | exact er211 | exact er212 | exact er213 | exact er214 | exact er215) (by omega) (by omega) (by decide) ?_
  rw [show z 203 (((0 : Int)).toNat) = v 0 from hN 0 (by decide)]
  refine eg_ldc2 kw_X9_183 dX9_isSegment_9 ?_
  refine eg_lsub dX9_isSegment_12 ?_
  refine eg_Sf3 cs_X9_81 dX9_isSegment_13 (c_in ⟨by omega, by omega⟩ ⟨by omega, by omega⟩ ⟨by omega, by omega⟩) (Nat.le_of_ble_eq_true rfl) (by decide) ?_
  refine eg_ireturn dX9_isSegment_16 rfl (by first | rfl | exact bi_nar _ | (unfold bi; split <;> rfl)) ?_
  exact ⟨congrArg (fun q => some (vI q)) (by unfold bi; split <;> split <;> first | rfl | (exfalso; omega)), rfl, rfl⟩
theorem c_isPoint {k : eg_K} {z : eg_Z} {X : eg_M} {n : Nat} {v : eg_v} (hN : nw z v) {B : Int} (hv : VV B v) {a : Int} (r_a : iR a) : eg_P k gX9_isPoint 1 0 0 [vR k 202, vI a] n (enc k z X) (eg_f (some (vI (bi (0 ≤ a ∧ a < v 1)))) n (enc k z X)) := by
  refine eg_P.of (by decide) (Nat.le_of_ble_eq_true rfl) ?_
  show eg_E k gX9_isPoint 1 0 0 n (enc k z X) [vR k 202, vI a] [] 0 _
  have q := hv.r.2
  have r_a1 := r_a.1; have r_a2 := r_a.2
  refine eg_iload_n dX9_isPoint_0 rfl ?_
  refine eg_i2l dX9_isPoint_1 ⟨by omega, by omega⟩ ?_
  refine eg_lconst dX9_isPoint_2 ?_
  refine eg_al_n dX9_isPoint_3 rfl rfl ?_
  refine eg_get fl_X9_9 dX9_isPoint_4 (by first | exact er202 | exact er203 | exact er204 | exact er205 | exact er206 | exact er207 | exact er208 | exact er209 | exact er210 | exact er211 | exact er212 | exact er213 | exact er214 | exact er215) rfl ?_
  refine eg_iconst dX9_isPoint_7 ?_
  refine eg_lald dX9_isPoint_8 (by first | exact er202 | exact er203 | exact er204 | exact er205 | exact er206 | exact er207 | exact er208 | exact er209 | exact er210 | exact er211 | exact er212 | exact er213 | exact er214 | exact er215) (by omega) (by omega) (by decide) ?_
  rw [show z 203 (((1 : Int)).toNat) = v 1 from hN 1 (by decide)]
  refine eg_lconst dX9_isPoint_9 ?_
  refine eg_lsub dX9_isPoint_10 ?_
  refine eg_Sf3 cs_X9_81 dX9_isPoint_11 (c_in ⟨by omega, by omega⟩ ⟨by omega, by omega⟩ ⟨by omega, by omega⟩) (Nat.le_of_ble_eq_true rfl) (by decide) ?_
  refine eg_ireturn dX9_isPoint_14 rfl (by first | rfl | exact bi_nar _ | (unfold bi; split <;> rfl)) ?_
  exact ⟨congrArg (fun q => some (vI q)) (by unfold bi; split <;> split <;> first | rfl | (exfalso; omega)), rfl, rfl⟩
theorem c_isShipper {k : eg_K} {z : eg_Z} {X : eg_M} {n : Nat} {v : eg_v} (hN : nw z v) {B : Int} (hv : VV B v) {a : Int} (r_a : iR a) : eg_P k gX9_isShipper 1 0 0 [vR k 202, vI a] n (enc k z X) (eg_f (some (vI (bi (0 ≤ a ∧ a < v 2)))) n (enc k z X)) := by
  refine eg_P.of (by decide) (Nat.le_of_ble_eq_true rfl) ?_
  show eg_E k gX9_isShipper 1 0 0 n (enc k z X) [vR k 202, vI a] [] 0 _
  have q := hv.r.2
  have r_a1 := r_a.1; have r_a2 := r_a.2
  refine eg_iload_n dX9_isShipper_0 rfl ?_
  refine eg_i2l dX9_isShipper_1 ⟨by omega, by omega⟩ ?_
  refine eg_lconst dX9_isShipper_2 ?_
  refine eg_al_n dX9_isShipper_3 rfl rfl ?_
  refine eg_get fl_X9_9 dX9_isShipper_4 (by first | exact er202 | exact er203 | exact er204 | exact er205 | exact er206 | exact er207 | exact er208 | exact er209 | exact er210 | exact er211 | exact er212 | exact er213 | exact er214 | exact er215) rfl ?_
  refine eg_iconst dX9_isShipper_7 ?_
  refine eg_lald dX9_isShipper_8 (by first | exact er202 | exact er203 | exact er204 | exact er205 | exact er206 | exact er207 | exact er208 | exact er209 | exact er210 | exact er211 | exact er212 | exact er213 | exact er214 | exact er215) (by omega) (by omega) (by decide) ?_
  rw [show z 203 (((2 : Int)).toNat) = v 2 from hN 2 (by decide)]
  refine eg_lconst dX9_isShipper_9 ?_
  refine eg_lsub dX9_isShipper_10 ?_
  refine eg_Sf3 cs_X9_81 dX9_isShipper_11 (c_in ⟨by omega, by omega⟩ ⟨by omega, by omega⟩ ⟨by omega, by omega⟩) (Nat.le_of_ble_eq_true rfl) (by decide) ?_
  refine eg_ireturn dX9_isShipper_14 rfl (by first | rfl | exact bi_nar _ | (unfold bi; split <;> rfl)) ?_
  exact ⟨congrArg (fun q => some (vI q)) (by unfold bi; split <;> split <;> first | rfl | (exfalso; omega)), rfl, rfl⟩
theorem c_isNom {k : eg_K} {z : eg_Z} {X : eg_M} {n : Nat} {v : eg_v} (hN : nw z v) {B : Int} (hv : VV B v) {a : Int} (r_a : iR a) : eg_P k gX9_isNom 1 0 0 [vR k 202, vI a] n (enc k z X) (eg_f (some (vI (bi (0 ≤ a ∧ a < v 3)))) n (enc k z X)) := by
  refine eg_P.of (by decide) (Nat.le_of_ble_eq_true rfl) ?_
  show eg_E k gX9_isNom 1 0 0 n (enc k z X) [vR k 202, vI a] [] 0 _
  have q := hv.r.2
  have r_a1 := r_a.1; have r_a2 := r_a.2
  refine eg_iload_n dX9_isNom_0 rfl ?_
  refine eg_i2l dX9_isNom_1 ⟨by omega, by omega⟩ ?_
  refine eg_lconst dX9_isNom_2 ?_
  refine eg_al_n dX9_isNom_3 rfl rfl ?_
  refine eg_get fl_X9_9 dX9_isNom_4 (by first | exact er202 | exact er203 | exact er204 | exact er205 | exact er206 | exact er207 | exact er208 | exact er209 | exact er210 | exact er211 | exact er212 | exact er213 | exact er214 | exact er215) rfl ?_
  refine eg_iconst dX9_isNom_7 ?_
  refine eg_lald dX9_isNom_8 (by first | exact er202 | exact er203 | exact er204 | exact er205 | exact er206 | exact er207 | exact er208 | exact er209 | exact er210 | exact er211 | exact er212 | exact er213 | exact er214 | exact er215) (by omega) (by omega) (by decide) ?_
  rw [show z 203 (((3 : Int)).toNat) = v 3 from hN 3 (by decide)]
  refine eg_lconst dX9_isNom_9 ?_
  refine eg_lsub dX9_isNom_10 ?_
  refine eg_Sf3 cs_X9_81 dX9_isNom_11 (c_in ⟨by omega, by omega⟩ ⟨by omega, by omega⟩ ⟨by omega, by omega⟩) (Nat.le_of_ble_eq_true rfl) (by decide) ?_
  refine eg_ireturn dX9_isNom_14 rfl (by first | rfl | exact bi_nar _ | (unfold bi; split <;> rfl)) ?_
  exact ⟨congrArg (fun q => some (vI q)) (by unfold bi; split <;> split <;> first | rfl | (exfalso; omega)), rfl, rfl⟩
theorem c_hasPipe {k : eg_K} {z : eg_Z} {X : eg_M} {n : Nat} {v : eg_v} (hN : nw z v) {B : Int} (hv : VV B v) : eg_P k gX9_hasPipe 0 0 0 [vR k 202] n (enc k z X) (eg_f (some (vI (bi (0 < v 0)))) n (enc k z X)) := by
  refine eg_P.of (by decide) (Nat.le_of_ble_eq_true rfl) ?_
  show eg_E k gX9_hasPipe 0 0 0 n (enc k z X) [vR k 202] [] 0 _
  have q := hv.r.2
  refine eg_al_n dX9_hasPipe_0 rfl rfl ?_
  refine eg_get fl_X9_9 dX9_hasPipe_1 (by first | exact er202 | exact er203 | exact er204 | exact er205 | exact er206 | exact er207 | exact er208 | exact er209 | exact er210 | exact er211 | exact er212 | exact er213 | exact er214 | exact er215) rfl ?_
  refine eg_iconst dX9_hasPipe_4 ?_
  refine eg_lald dX9_hasPipe_5 (by first | exact er202 | exact er203 | exact er204 | exact er205 | exact er206 | exact er207 | exact er208 | exact er209 | exact er210 | exact er211 | exact er212 | exact er213 | exact er214 | exact er215) (by omega) (by omega) (by decide) ?_
  rw [show z 203 (((0 : Int)).toNat) = v 0 from hN 0 (by decide)]
  refine eg_lconst dX9_hasPipe_6 ?_
  refine eg_lc_le 15 dX9_hasPipe_7 dX9_hasPipe_8 ⟨by omega, by omega⟩ ⟨by omega, by omega⟩ rfl (fun h7 => ?_) (fun h7 => ?_)
  · refine eg_iconst dX9_hasPipe_15 ?_
    refine eg_ireturn dX9_hasPipe_16 rfl rfl ?_
    exact ⟨congrArg (fun q => some (vI q)) (by unfold bi; first | (exfalso; omega) | rw [if_pos (by omega)] | rw [if_neg (by omega)]), rfl, rfl⟩
  · refine eg_iconst dX9_hasPipe_11 ?_
    refine eg_goto 16 dX9_hasPipe_12 rfl ?_
    refine eg_ireturn dX9_hasPipe_16 rfl rfl ?_
    exact ⟨congrArg (fun q => some (vI q)) (by unfold bi; first | (exfalso; omega) | rw [if_pos (by omega)] | rw [if_neg (by omega)]), rfl, rfl⟩
theorem c_isPointOf {k : eg_K} {z : eg_Z} {X : eg_M} {n : Nat} {v : eg_v} (hN : nw z v) {B : Int} (hv : VV B v) {a c : Int} (r_a : iR a) (r_c : iR c) : eg_P k gX9_isPointOf 2 0 0 [vR k 202, vI a, vI c] n (enc k z X) (eg_f (some (vI (bi (0 ≤ a ∧ a < v 1 ∧ gP v a 1 = c)))) n (enc k z X)) := by
  refine eg_P.of (by decide) (Nat.le_of_ble_eq_true rfl) ?_
  show eg_E k gX9_isPointOf 2 0 0 n (enc k z X) [vR k 202, vI a, vI c] [] 0 _
  have q := hv.r.2
  have r_a1 := r_a.1; have r_a2 := r_a.2; have r_c1 := r_c.1; have r_c2 := r_c.2
  refine eg_al_n dX9_isPointOf_0 rfl rfl ?_
  refine eg_iload_n dX9_isPointOf_1 rfl ?_
  refine eg_Vf1 cs_X9_185 dX9_isPointOf_2 (c_isPoint hN hv r_a) (by first | exact er202 | exact er203 | exact er204 | exact er205 | exact er206 | exact er207 | exact er208 | exact er209 | exact er210 | exact er211 | exact er212 | exact er213 | exact er214 | exact er215) rfl (Nat.le_of_ble_eq_true rfl) (by decide) ?_
  refine eg_bi_eq 22 dX9_isPointOf_5 rfl (fun h5 => ?_) (fun h5 => ?_)
  · refine eg_iconst dX9_isPointOf_22 ?_
    refine eg_ireturn dX9_isPointOf_23 rfl rfl ?_
    exact ⟨congrArg (fun q => some (vI q)) (by unfold bi; first | (exfalso; omega) | rw [if_pos (by omega)] | rw [if_neg (by omega)]), rfl, rfl⟩
  · refine eg_al_n dX9_isPointOf_8 rfl rfl ?_
    refine eg_iload_n dX9_isPointOf_9 rfl ?_
    refine eg_iconst dX9_isPointOf_10 ?_
    refine eg_Vf2 cs_X9_189 dX9_isPointOf_11 (c_pointOf hN (by omega) (by omega) (by omega) (by omega)) (by first | exact er202 | exact er203 | exact er204 | exact er205 | exact er206 | exact er207 | exact er208 | exact er209 | exact er210 | exact er211 | exact er212 | exact er213 | exact er214 | exact er215) rfl (Nat.le_of_ble_eq_true rfl) (by decide) ?_
    have o1 := hv.P (p := a) (by omega) (by omega); unfold okP at o1
    refine eg_iload_n dX9_isPointOf_14 rfl ?_
    refine eg_icmp_ne 22 dX9_isPointOf_15 ⟨by omega, by omega⟩ ⟨by omega, by omega⟩ rfl (fun h15 => ?_) (fun h15 => ?_)
    · refine eg_iconst dX9_isPointOf_22 ?_
      refine eg_ireturn dX9_isPointOf_23 rfl rfl ?_
      exact ⟨congrArg (fun q => some (vI q)) (by unfold bi; first | (exfalso; omega) | rw [if_pos (by omega)] | rw [if_neg (by omega)]), rfl, rfl⟩
    · refine eg_iconst dX9_isPointOf_18 ?_
      refine eg_goto 23 dX9_isPointOf_19 rfl ?_
      refine eg_ireturn dX9_isPointOf_23 rfl rfl ?_
      exact ⟨congrArg (fun q => some (vI q)) (by unfold bi; first | (exfalso; omega) | rw [if_pos (by omega)] | rw [if_neg (by omega)]), rfl, rfl⟩
theorem c_isOne {k : eg_K} {z : eg_Z} {X : eg_M} {n : Nat} {v : eg_v} (hN : nw z v) {B : Int} (hv : VV B v) {a b : Int} (r_a : iR a) (r_b : iR b) : eg_P k gX9_isOne 2 0 0 [vR k 202, vI a, vI b] n (enc k z X) (eg_f (some (vI (bi ((a = 0 ∧ 0 ≤ b ∧ b < v 1) ∨ (a = 1 ∧ 0 ≤ b ∧ b < segs v))))) n (enc k z X)) := by
  refine eg_P.of (by decide) (Nat.le_of_ble_eq_true rfl) ?_
  show eg_E k gX9_isOne 2 0 0 n (enc k z X) [vR k 202, vI a, vI b] [] 0 _
  have q := hv.r.2
  have r_a1 := r_a.1; have r_a2 := r_a.2; have r_b1 := r_b.1; have r_b2 := r_b.2
  refine eg_iload_n dX9_isOne_0 rfl ?_
  refine eg_if_ne 12 dX9_isOne_1 ⟨by omega, by omega⟩ rfl (fun h1 => ?_) (fun h1 => ?_)
  · refine eg_iload_n dX9_isOne_12 rfl ?_
    refine eg_iconst dX9_isOne_13 ?_
    refine eg_icmp_ne 29 dX9_isOne_14 ⟨by omega, by omega⟩ ⟨by omega, by omega⟩ rfl (fun h14 => ?_) (fun h14 => ?_)
    · refine eg_iconst dX9_isOne_29 ?_
      refine eg_ireturn dX9_isOne_30 rfl rfl ?_
      exact ⟨congrArg (fun q => some (vI q)) (by unfold bi; first | (exfalso; omega) | rw [if_pos (by omega)] | rw [if_neg (by omega)]), rfl, rfl⟩
    · refine eg_al_n dX9_isOne_17 rfl rfl ?_
      refine eg_iload_n dX9_isOne_18 rfl ?_
      refine eg_Vf1 cs_X9_192 dX9_isOne_19 (c_isSegment hN hv r_b) (by first | exact er202 | exact er203 | exact er204 | exact er205 | exact er206 | exact er207 | exact er208 | exact er209 | exact er210 | exact er211 | exact er212 | exact er213 | exact er214 | exact er215) rfl (Nat.le_of_ble_eq_true rfl) (by decide) ?_
      refine eg_bi_eq 29 dX9_isOne_22 rfl (fun h22 => ?_) (fun h22 => ?_)
      · refine eg_iconst dX9_isOne_29 ?_
        refine eg_ireturn dX9_isOne_30 rfl rfl ?_
        exact ⟨congrArg (fun q => some (vI q)) (by unfold bi; first | (exfalso; omega) | rw [if_pos (by omega)] | rw [if_neg (by omega)]), rfl, rfl⟩
      · refine eg_iconst dX9_isOne_25 ?_
        refine eg_goto 30 dX9_isOne_26 rfl ?_
        refine eg_ireturn dX9_isOne_30 rfl rfl ?_
        exact ⟨congrArg (fun q => some (vI q)) (by unfold bi; first | (exfalso; omega) | rw [if_pos (by omega)] | rw [if_neg (by omega)]), rfl, rfl⟩
  · refine eg_al_n dX9_isOne_4 rfl rfl ?_
    refine eg_iload_n dX9_isOne_5 rfl ?_
    refine eg_Vf1 cs_X9_185 dX9_isOne_6 (c_isPoint hN hv r_b) (by first | exact er202 | exact er203 | exact er204 | exact er205 | exact er206 | exact er207 | exact er208 | exact er209 | exact er210 | exact er211 | exact er212 | exact er213 | exact er214 | exact er215) rfl (Nat.le_of_ble_eq_true rfl) (by decide) ?_
    refine eg_bi_ne 25 dX9_isOne_9 rfl (fun h9 => ?_) (fun h9 => ?_)
    · refine eg_iconst dX9_isOne_25 ?_
      refine eg_goto 30 dX9_isOne_26 rfl ?_
      refine eg_ireturn dX9_isOne_30 rfl rfl ?_
      exact ⟨congrArg (fun q => some (vI q)) (by unfold bi; first | (exfalso; omega) | rw [if_pos (by omega)] | rw [if_neg (by omega)]), rfl, rfl⟩
    · refine eg_iload_n dX9_isOne_12 rfl ?_
      refine eg_iconst dX9_isOne_13 ?_
      refine eg_icmp_ne 29 dX9_isOne_14 ⟨by omega, by omega⟩ ⟨by omega, by omega⟩ rfl (fun h14 => ?_) (fun h14 => ?_)
      · refine eg_iconst dX9_isOne_29 ?_
        refine eg_ireturn dX9_isOne_30 rfl rfl ?_
        exact ⟨congrArg (fun q => some (vI q)) (by unfold bi; first | (exfalso; omega) | rw [if_pos (by omega)] | rw [if_neg (by omega)]), rfl, rfl⟩
      · refine eg_al_n dX9_isOne_17 rfl rfl ?_
        refine eg_iload_n dX9_isOne_18 rfl ?_
        refine eg_Vf1 cs_X9_192 dX9_isOne_19 (c_isSegment hN hv r_b) (by first | exact er202 | exact er203 | exact er204 | exact er205 | exact er206 | exact er207 | exact er208 | exact er209 | exact er210 | exact er211 | exact er212 | exact er213 | exact er214 | exact er215) rfl (Nat.le_of_ble_eq_true rfl) (by decide) ?_
        refine eg_bi_eq 29 dX9_isOne_22 rfl (fun h22 => ?_) (fun h22 => ?_)
        · refine eg_iconst dX9_isOne_29 ?_
          refine eg_ireturn dX9_isOne_30 rfl rfl ?_
          exact ⟨congrArg (fun q => some (vI q)) (by unfold bi; first | (exfalso; omega) | rw [if_pos (by omega)] | rw [if_neg (by omega)]), rfl, rfl⟩
        · refine eg_iconst dX9_isOne_25 ?_
          refine eg_goto 30 dX9_isOne_26 rfl ?_
          refine eg_ireturn dX9_isOne_30 rfl rfl ?_
          exact ⟨congrArg (fun q => some (vI q)) (by unfold bi; first | (exfalso; omega) | rw [if_pos (by omega)] | rw [if_neg (by omega)]), rfl, rfl⟩
theorem c_canNominate {k : eg_K} {z : eg_Z} {X : eg_M} {n : Nat} {v : eg_v} (hN : nw z v) {B : Int} (hv : VV B v) {a b c d : Int} (r_a : iR a) (r_b : iR b) (r_c : iR c) (r_d : iR d) : eg_P k gX9_canNominate 3 0 0 [vR k 202, vI a, vI b, vI c, vI d] n (enc k z X) (eg_f (some (vI (bi (alB v a b c d = true)))) n (enc k z X)) := by
  refine eg_P.of (by decide) (Nat.le_of_ble_eq_true rfl) ?_
  show eg_E k gX9_canNominate 3 0 0 n (enc k z X) [vR k 202, vI a, vI b, vI c, vI d, vU] [] 0 _
  have q := hv.r.2
  have r_a1 := r_a.1; have r_a2 := r_a.2; have r_b1 := r_b.1; have r_b2 := r_b.2; have r_c1 := r_c.1; have r_c2 := r_c.2; have r_d1 := r_d.1; have r_d2 := r_d.2
  rw [show bi (alB v a b c d = true) = _ from bi_d]
  refine eg_iload_n dX9_canNominate_0 rfl ?_
  refine eg_iconst dX9_canNominate_1 ?_
  refine eg_icmp_eq 14 dX9_canNominate_2 ⟨by omega, by omega⟩ ⟨by omega, by omega⟩ rfl (fun h2 => ?_) (fun h2 => ?_)
  · refine eg_iload_n dX9_canNominate_14 rfl ?_
    refine eg_iconst dX9_canNominate_15 ?_
    refine eg_icmp_eq 28 dX9_canNominate_16 ⟨by omega, by omega⟩ ⟨by omega, by omega⟩ rfl (fun h16 => ?_) (fun h16 => ?_)
    · refine eg_iload_n dX9_canNominate_28 rfl ?_
      refine eg_iconst dX9_canNominate_29 ?_
      refine eg_icmp_ne 38 dX9_canNominate_30 ⟨by omega, by omega⟩ ⟨by omega, by omega⟩ rfl (fun h30 => ?_) (fun h30 => ?_)
      · refine eg_iconst dX9_canNominate_38 ?_
        refine eg_goto 43 dX9_canNominate_39 rfl ?_
        refine eg_istore dX9_canNominate_43 rfl rfl rfl ?_
        refine eg_al_n dX9_canNominate_45 rfl rfl ?_
        refine eg_iload_n dX9_canNominate_46 rfl ?_
        refine eg_Vf1 cs_X9_199 dX9_canNominate_47 (c_isShipper hN hv r_a) (by first | exact er202 | exact er203 | exact er204 | exact er205 | exact er206 | exact er207 | exact er208 | exact er209 | exact er210 | exact er211 | exact er212 | exact er213 | exact er214 | exact er215) rfl (Nat.le_of_ble_eq_true rfl) (by decide) ?_
        refine eg_bi_eq 75 dX9_canNominate_50 rfl (fun h50 => ?_) (fun h50 => ?_)
        · refine eg_iconst dX9_canNominate_75 ?_
          refine eg_ireturn dX9_canNominate_76 rfl rfl ?_
          exact ⟨congrArg (fun q => some (vI q)) (by unfold bi; first | (exfalso; omega) | rw [if_pos (by omega)] | rw [if_neg (by omega)]), rfl, rfl⟩
        · refine eg_iload dX9_canNominate_53 rfl ?_
          refine eg_if_eq 75 dX9_canNominate_55 ⟨by omega, by omega⟩ rfl (fun h55 => ?_) (fun h55 => ?_)
          · refine eg_iconst dX9_canNominate_75 ?_
            refine eg_ireturn dX9_canNominate_76 rfl rfl ?_
            exact ⟨congrArg (fun q => some (vI q)) (by unfold bi; first | (exfalso; omega) | rw [if_pos (by omega)] | rw [if_neg (by omega)]), rfl, rfl⟩
          · refine eg_iload dX9_canNominate_58 rfl ?_
            refine eg_i2l dX9_canNominate_60 ⟨by omega, by omega⟩ ?_
            refine eg_lconst dX9_canNominate_61 ?_
            refine eg_ldc2 kw_X9_167 dX9_canNominate_62 ?_
            refine eg_Sf3 cs_X9_81 dX9_canNominate_65 (c_in ⟨by omega, by omega⟩ ⟨by omega, by omega⟩ ⟨by omega, by omega⟩) (Nat.le_of_ble_eq_true rfl) (by decide) ?_
            refine eg_bi_eq 75 dX9_canNominate_68 rfl (fun h68 => ?_) (fun h68 => ?_)
            · refine eg_iconst dX9_canNominate_75 ?_
              refine eg_ireturn dX9_canNominate_76 rfl rfl ?_
              exact ⟨congrArg (fun q => some (vI q)) (by unfold bi; first | (exfalso; omega) | rw [if_pos (by omega)] | rw [if_neg (by omega)]), rfl, rfl⟩
            · refine eg_iconst dX9_canNominate_71 ?_
              refine eg_goto 76 dX9_canNominate_72 rfl ?_
              refine eg_ireturn dX9_canNominate_76 rfl rfl ?_
              exact ⟨congrArg (fun q => some (vI q)) (by unfold bi; first | (exfalso; omega) | rw [if_pos (by omega)] | rw [if_neg (by omega)]), rfl, rfl⟩
      · refine eg_iload_n dX9_canNominate_33 rfl ?_
        refine eg_iconst dX9_canNominate_34 ?_
        refine eg_icmp_eq 42 dX9_canNominate_35 ⟨by omega, by omega⟩ ⟨by omega, by omega⟩ rfl (fun h35 => ?_) (fun h35 => ?_)
        · refine eg_iconst dX9_canNominate_42 ?_
          refine eg_istore dX9_canNominate_43 rfl rfl rfl ?_
          refine eg_al_n dX9_canNominate_45 rfl rfl ?_
          refine eg_iload_n dX9_canNominate_46 rfl ?_
          refine eg_Vf1 cs_X9_199 dX9_canNominate_47 (c_isShipper hN hv r_a) (by first | exact er202 | exact er203 | exact er204 | exact er205 | exact er206 | exact er207 | exact er208 | exact er209 | exact er210 | exact er211 | exact er212 | exact er213 | exact er214 | exact er215) rfl (Nat.le_of_ble_eq_true rfl) (by decide) ?_
          refine eg_bi_eq 75 dX9_canNominate_50 rfl (fun h50 => ?_) (fun h50 => ?_)
          · refine eg_iconst dX9_canNominate_75 ?_
            refine eg_ireturn dX9_canNominate_76 rfl rfl ?_
            exact ⟨congrArg (fun q => some (vI q)) (by unfold bi; first | (exfalso; omega) | rw [if_pos (by omega)] | rw [if_neg (by omega)]), rfl, rfl⟩
          · refine eg_iload dX9_canNominate_53 rfl ?_
            refine eg_if_eq 75 dX9_canNominate_55 ⟨by omega, by omega⟩ rfl (fun h55 => ?_) (fun h55 => ?_)
            · refine eg_iconst dX9_canNominate_75 ?_
              refine eg_ireturn dX9_canNominate_76 rfl rfl ?_
              exact ⟨congrArg (fun q => some (vI q)) (by unfold bi; first | (exfalso; omega) | rw [if_pos (by omega)] | rw [if_neg (by omega)]), rfl, rfl⟩
            · refine eg_iload dX9_canNominate_58 rfl ?_
              refine eg_i2l dX9_canNominate_60 ⟨by omega, by omega⟩ ?_
              refine eg_lconst dX9_canNominate_61 ?_
              refine eg_ldc2 kw_X9_167 dX9_canNominate_62 ?_
              refine eg_Sf3 cs_X9_81 dX9_canNominate_65 (c_in ⟨by omega, by omega⟩ ⟨by omega, by omega⟩ ⟨by omega, by omega⟩) (Nat.le_of_ble_eq_true rfl) (by decide) ?_
              refine eg_bi_eq 75 dX9_canNominate_68 rfl (fun h68 => ?_) (fun h68 => ?_)
              · refine eg_iconst dX9_canNominate_75 ?_
                refine eg_ireturn dX9_canNominate_76 rfl rfl ?_
                exact ⟨congrArg (fun q => some (vI q)) (by unfold bi; first | (exfalso; omega) | rw [if_pos (by omega)] | rw [if_neg (by omega)]), rfl, rfl⟩
              · refine eg_iconst dX9_canNominate_71 ?_
                refine eg_goto 76 dX9_canNominate_72 rfl ?_
                refine eg_ireturn dX9_canNominate_76 rfl rfl ?_
                exact ⟨congrArg (fun q => some (vI q)) (by unfold bi; first | (exfalso; omega) | rw [if_pos (by omega)] | rw [if_neg (by omega)]), rfl, rfl⟩
        · refine eg_iconst dX9_canNominate_38 ?_
          refine eg_goto 43 dX9_canNominate_39 rfl ?_
          refine eg_istore dX9_canNominate_43 rfl rfl rfl ?_
          refine eg_al_n dX9_canNominate_45 rfl rfl ?_
          refine eg_iload_n dX9_canNominate_46 rfl ?_
          refine eg_Vf1 cs_X9_199 dX9_canNominate_47 (c_isShipper hN hv r_a) (by first | exact er202 | exact er203 | exact er204 | exact er205 | exact er206 | exact er207 | exact er208 | exact er209 | exact er210 | exact er211 | exact er212 | exact er213 | exact er214 | exact er215) rfl (Nat.le_of_ble_eq_true rfl) (by decide) ?_
          refine eg_bi_eq 75 dX9_canNominate_50 rfl (fun h50 => ?_) (fun h50 => ?_)
          · refine eg_iconst dX9_canNominate_75 ?_
            refine eg_ireturn dX9_canNominate_76 rfl rfl ?_
            exact ⟨congrArg (fun q => some (vI q)) (by unfold bi; first | (exfalso; omega) | rw [if_pos (by omega)] | rw [if_neg (by omega)]), rfl, rfl⟩
          · refine eg_iload dX9_canNominate_53 rfl ?_
            refine eg_if_eq 75 dX9_canNominate_55 ⟨by omega, by omega⟩ rfl (fun h55 => ?_) (fun h55 => ?_)
            · refine eg_iconst dX9_canNominate_75 ?_
              refine eg_ireturn dX9_canNominate_76 rfl rfl ?_
              exact ⟨congrArg (fun q => some (vI q)) (by unfold bi; first | (exfalso; omega) | rw [if_pos (by omega)] | rw [if_neg (by omega)]), rfl, rfl⟩
            · refine eg_iload dX9_canNominate_58 rfl ?_
              refine eg_i2l dX9_canNominate_60 ⟨by omega, by omega⟩ ?_
              refine eg_lconst dX9_canNominate_61 ?_
              refine eg_ldc2 kw_X9_167 dX9_canNominate_62 ?_
              refine eg_Sf3 cs_X9_81 dX9_canNominate_65 (c_in ⟨by omega, by omega⟩ ⟨by omega, by omega⟩ ⟨by omega, by omega⟩) (Nat.le_of_ble_eq_true rfl) (by decide) ?_
              refine eg_bi_eq 75 dX9_canNominate_68 rfl (fun h68 => ?_) (fun h68 => ?_)
              · refine eg_iconst dX9_canNominate_75 ?_
                refine eg_ireturn dX9_canNominate_76 rfl rfl ?_
                exact ⟨congrArg (fun q => some (vI q)) (by unfold bi; first | (exfalso; omega) | rw [if_pos (by omega)] | rw [if_neg (by omega)]), rfl, rfl⟩
              · refine eg_iconst dX9_canNominate_71 ?_
                refine eg_goto 76 dX9_canNominate_72 rfl ?_
                refine eg_ireturn dX9_canNominate_76 rfl rfl ?_
                exact ⟨congrArg (fun q => some (vI q)) (by unfold bi; first | (exfalso; omega) | rw [if_pos (by omega)] | rw [if_neg (by omega)]), rfl, rfl⟩
    · refine eg_al_n dX9_canNominate_19 rfl rfl ?_
      refine eg_iload_n dX9_canNominate_20 rfl ?_
      refine eg_iconst dX9_canNominate_21 ?_
      refine eg_Vf2 cs_X9_195 dX9_canNominate_22 (c_isPointOf hN hv r_c ⟨by omega, by omega⟩) (by first | exact er202 | exact er203 | exact er204 | exact er205 | exact er206 | exact er207 | exact er208 | exact er209 | exact er210 | exact er211 | exact er212 | exact er213 | exact er214 | exact er215) rfl (Nat.le_of_ble_eq_true rfl) (by decide) ?_
      refine eg_bi_eq 42 dX9_canNominate_25 rfl (fun h25 => ?_) (fun h25 => ?_)
      · refine eg_iconst dX9_canNominate_42 ?_
        refine eg_istore dX9_canNominate_43 rfl rfl rfl ?_
        refine eg_al_n dX9_canNominate_45 rfl rfl ?_
        refine eg_iload_n dX9_canNominate_46 rfl ?_
        refine eg_Vf1 cs_X9_199 dX9_canNominate_47 (c_isShipper hN hv r_a) (by first | exact er202 | exact er203 | exact er204 | exact er205 | exact er206 | exact er207 | exact er208 | exact er209 | exact er210 | exact er211 | exact er212 | exact er213 | exact er214 | exact er215) rfl (Nat.le_of_ble_eq_true rfl) (by decide) ?_
        refine eg_bi_eq 75 dX9_canNominate_50 rfl (fun h50 => ?_) (fun h50 => ?_)
        · refine eg_iconst dX9_canNominate_75 ?_
          refine eg_ireturn dX9_canNominate_76 rfl rfl ?_
          exact ⟨congrArg (fun q => some (vI q)) (by unfold bi; first | (exfalso; omega) | rw [if_pos (by omega)] | rw [if_neg (by omega)]), rfl, rfl⟩
        · refine eg_iload dX9_canNominate_53 rfl ?_
          refine eg_if_eq 75 dX9_canNominate_55 ⟨by omega, by omega⟩ rfl (fun h55 => ?_) (fun h55 => ?_)
          · refine eg_iconst dX9_canNominate_75 ?_
            refine eg_ireturn dX9_canNominate_76 rfl rfl ?_
            exact ⟨congrArg (fun q => some (vI q)) (by unfold bi; first | (exfalso; omega) | rw [if_pos (by omega)] | rw [if_neg (by omega)]), rfl, rfl⟩
          · refine eg_iload dX9_canNominate_58 rfl ?_
            refine eg_i2l dX9_canNominate_60 ⟨by omega, by omega⟩ ?_
            refine eg_lconst dX9_canNominate_61 ?_
            refine eg_ldc2 kw_X9_167 dX9_canNominate_62 ?_
            refine eg_Sf3 cs_X9_81 dX9_canNominate_65 (c_in ⟨by omega, by omega⟩ ⟨by omega, by omega⟩ ⟨by omega, by omega⟩) (Nat.le_of_ble_eq_true rfl) (by decide) ?_
            refine eg_bi_eq 75 dX9_canNominate_68 rfl (fun h68 => ?_) (fun h68 => ?_)
            · refine eg_iconst dX9_canNominate_75 ?_
              refine eg_ireturn dX9_canNominate_76 rfl rfl ?_
              exact ⟨congrArg (fun q => some (vI q)) (by unfold bi; first | (exfalso; omega) | rw [if_pos (by omega)] | rw [if_neg (by omega)]), rfl, rfl⟩
            · refine eg_iconst dX9_canNominate_71 ?_
              refine eg_goto 76 dX9_canNominate_72 rfl ?_
              refine eg_ireturn dX9_canNominate_76 rfl rfl ?_
              exact ⟨congrArg (fun q => some (vI q)) (by unfold bi; first | (exfalso; omega) | rw [if_pos (by omega)] | rw [if_neg (by omega)]), rfl, rfl⟩
      · refine eg_iload_n dX9_canNominate_28 rfl ?_
        refine eg_iconst dX9_canNominate_29 ?_
        refine eg_icmp_ne 38 dX9_canNominate_30 ⟨by omega, by omega⟩ ⟨by omega, by omega⟩ rfl (fun h30 => ?_) (fun h30 => ?_)
        · refine eg_iconst dX9_canNominate_38 ?_
          refine eg_goto 43 dX9_canNominate_39 rfl ?_
          refine eg_istore dX9_canNominate_43 rfl rfl rfl ?_
          refine eg_al_n dX9_canNominate_45 rfl rfl ?_
          refine eg_iload_n dX9_canNominate_46 rfl ?_
          refine eg_Vf1 cs_X9_199 dX9_canNominate_47 (c_isShipper hN hv r_a) (by first | exact er202 | exact er203 | exact er204 | exact er205 | exact er206 | exact er207 | exact er208 | exact er209 | exact er210 | exact er211 | exact er212 | exact er213 | exact er214 | exact er215) rfl (Nat.le_of_ble_eq_true rfl) (by decide) ?_
          refine eg_bi_eq 75 dX9_canNominate_50 rfl (fun h50 => ?_) (fun h50 => ?_)
          · refine eg_iconst dX9_canNominate_75 ?_
            refine eg_ireturn dX9_canNominate_76 rfl rfl ?_
            exact ⟨congrArg (fun q => some (vI q)) (by unfold bi; first | (exfalso; omega) | rw [if_pos (by omega)] | rw [if_neg (by omega)]), rfl, rfl⟩
          · refine eg_iload dX9_canNominate_53 rfl ?_
            refine eg_if_eq 75 dX9_canNominate_55 ⟨by omega, by omega⟩ rfl (fun h55 => ?_) (fun h55 => ?_)
            · refine eg_iconst dX9_canNominate_75 ?_
              refine eg_ireturn dX9_canNominate_76 rfl rfl ?_
              exact ⟨congrArg (fun q => some (vI q)) (by unfold bi; first | (exfalso; omega) | rw [if_pos (by omega)] | rw [if_neg (by omega)]), rfl, rfl⟩
            · refine eg_iload dX9_canNominate_58 rfl ?_
              refine eg_i2l dX9_canNominate_60 ⟨by omega, by omega⟩ ?_
              refine eg_lconst dX9_canNominate_61 ?_
              refine eg_ldc2 kw_X9_167 dX9_canNominate_62 ?_
              refine eg_Sf3 cs_X9_81 dX9_canNominate_65 (c_in ⟨by omega, by omega⟩ ⟨by omega, by omega⟩ ⟨by omega, by omega⟩) (Nat.le_of_ble_eq_true rfl) (by decide) ?_
              refine eg_bi_eq 75 dX9_canNominate_68 rfl (fun h68 => ?_) (fun h68 => ?_)
              · refine eg_iconst dX9_canNominate_75 ?_
                refine eg_ireturn dX9_canNominate_76 rfl rfl ?_
                exact ⟨congrArg (fun q => some (vI q)) (by unfold bi; first | (exfalso; omega) | rw [if_pos (by omega)] | rw [if_neg (by omega)]), rfl, rfl⟩
              · refine eg_iconst dX9_canNominate_71 ?_
                refine eg_goto 76 dX9_canNominate_72 rfl ?_
                refine eg_ireturn dX9_canNominate_76 rfl rfl ?_
                exact ⟨congrArg (fun q => some (vI q)) (by unfold bi; first | (exfalso; omega) | rw [if_pos (by omega)] | rw [if_neg (by omega)]), rfl, rfl⟩
        · refine eg_iload_n dX9_canNominate_33 rfl ?_
          refine eg_iconst dX9_canNominate_34 ?_
          refine eg_icmp_eq 42 dX9_canNominate_35 ⟨by omega, by omega⟩ ⟨by omega, by omega⟩ rfl (fun h35 => ?_) (fun h35 => ?_)
          · refine eg_iconst dX9_canNominate_42 ?_
            refine eg_istore dX9_canNominate_43 rfl rfl rfl ?_
            refine eg_al_n dX9_canNominate_45 rfl rfl ?_
            refine eg_iload_n dX9_canNominate_46 rfl ?_
            refine eg_Vf1 cs_X9_199 dX9_canNominate_47 (c_isShipper hN hv r_a) (by first | exact er202 | exact er203 | exact er204 | exact er205 | exact er206 | exact er207 | exact er208 | exact er209 | exact er210 | exact er211 | exact er212 | exact er213 | exact er214 | exact er215) rfl (Nat.le_of_ble_eq_true rfl) (by decide) ?_
            refine eg_bi_eq 75 dX9_canNominate_50 rfl (fun h50 => ?_) (fun h50 => ?_)
            · refine eg_iconst dX9_canNominate_75 ?_
              refine eg_ireturn dX9_canNominate_76 rfl rfl ?_
              exact ⟨congrArg (fun q => some (vI q)) (by unfold bi; first | (exfalso; omega) | rw [if_pos (by omega)] | rw [if_neg (by omega)]), rfl, rfl⟩
            · refine eg_iload dX9_canNominate_53 rfl ?_
              refine eg_if_eq 75 dX9_canNominate_55 ⟨by omega, by omega⟩ rfl (fun h55 => ?_) (fun h55 => ?_)
              · refine eg_iconst dX9_canNominate_75 ?_
                refine eg_ireturn dX9_canNominate_76 rfl rfl ?_
                exact ⟨congrArg (fun q => some (vI q)) (by unfold bi; first | (exfalso; omega) | rw [if_pos (by omega)] | rw [if_neg (by omega)]), rfl, rfl⟩
              · refine eg_iload dX9_canNominate_58 rfl ?_
                refine eg_i2l dX9_canNominate_60 ⟨by omega, by omega⟩ ?_
                refine eg_lconst dX9_canNominate_61 ?_
                refine eg_ldc2 kw_X9_167 dX9_canNominate_62 ?_
                refine eg_Sf3 cs_X9_81 dX9_canNominate_65 (c_in ⟨by omega, by omega⟩ ⟨by omega, by omega⟩ ⟨by omega, by omega⟩) (Nat.le_of_ble_eq_true rfl) (by decide) ?_
                refine eg_bi_eq 75 dX9_canNominate_68 rfl (fun h68 => ?_) (fun h68 => ?_)
                · refine eg_iconst dX9_canNominate_75 ?_
                  refine eg_ireturn dX9_canNominate_76 rfl rfl ?_
                  exact ⟨congrArg (fun q => some (vI q)) (by unfold bi; first | (exfalso; omega) | rw [if_pos (by omega)] | rw [if_neg (by omega)]), rfl, rfl⟩
                · refine eg_iconst dX9_canNominate_71 ?_
                  refine eg_goto 76 dX9_canNominate_72 rfl ?_
                  refine eg_ireturn dX9_canNominate_76 rfl rfl ?_
                  exact ⟨congrArg (fun q => some (vI q)) (by unfold bi; first | (exfalso; omega) | rw [if_pos (by omega)] | rw [if_neg (by omega)]), rfl, rfl⟩
          · refine eg_iconst dX9_canNominate_38 ?_
            refine eg_goto 43 dX9_canNominate_39 rfl ?_
            refine eg_istore dX9_canNominate_43 rfl rfl rfl ?_
            refine eg_al_n dX9_canNominate_45 rfl rfl ?_
            refine eg_iload_n dX9_canNominate_46 rfl ?_
            refine eg_Vf1 cs_X9_199 dX9_canNominate_47 (c_isShipper hN hv r_a) (by first | exact er202 | exact er203 | exact er204 | exact er205 | exact er206 | exact er207 | exact er208 | exact er209 | exact er210 | exact er211 | exact er212 | exact er213 | exact er214 | exact er215) rfl (Nat.le_of_ble_eq_true rfl) (by decide) ?_
            refine eg_bi_eq 75 dX9_canNominate_50 rfl (fun h50 => ?_) (fun h50 => ?_)
            · refine eg_iconst dX9_canNominate_75 ?_
              refine eg_ireturn dX9_canNominate_76 rfl rfl ?_
              exact ⟨congrArg (fun q => some (vI q)) (by unfold bi; first | (exfalso; omega) | rw [if_pos (by omega)] | rw [if_neg (by omega)]), rfl, rfl⟩
            · refine eg_iload dX9_canNominate_53 rfl ?_
              refine eg_if_eq 75 dX9_canNominate_55 ⟨by omega, by omega⟩ rfl (fun h55 => ?_) (fun h55 => ?_)
              · refine eg_iconst dX9_canNominate_75 ?_
                refine eg_ireturn dX9_canNominate_76 rfl rfl ?_
                exact ⟨congrArg (fun q => some (vI q)) (by unfold bi; first | (exfalso; omega) | rw [if_pos (by omega)] | rw [if_neg (by omega)]), rfl, rfl⟩
              · refine eg_iload dX9_canNominate_58 rfl ?_
                refine eg_i2l dX9_canNominate_60 ⟨by omega, by omega⟩ ?_
                refine eg_lconst dX9_canNominate_61 ?_
                refine eg_ldc2 kw_X9_167 dX9_canNominate_62 ?_
                refine eg_Sf3 cs_X9_81 dX9_canNominate_65 (c_in ⟨by omega, by omega⟩ ⟨by omega, by omega⟩ ⟨by omega, by omega⟩) (Nat.le_of_ble_eq_true rfl) (by decide) ?_
                refine eg_bi_eq 75 dX9_canNominate_68 rfl (fun h68 => ?_) (fun h68 => ?_)
                · refine eg_iconst dX9_canNominate_75 ?_
                  refine eg_ireturn dX9_canNominate_76 rfl rfl ?_
                  exact ⟨congrArg (fun q => some (vI q)) (by unfold bi; first | (exfalso; omega) | rw [if_pos (by omega)] | rw [if_neg (by omega)]), rfl, rfl⟩
                · refine eg_iconst dX9_canNominate_71 ?_
                  refine eg_goto 76 dX9_canNominate_72 rfl ?_
                  refine eg_ireturn dX9_canNominate_76 rfl rfl ?_
                  exact ⟨congrArg (fun q => some (vI q)) (by unfold bi; first | (exfalso; omega) | rw [if_pos (by omega)] | rw [if_neg (by omega)]), rfl, rfl⟩
  · refine eg_al_n dX9_canNominate_5 rfl rfl ?_
    refine eg_iload_n dX9_canNominate_6 rfl ?_
    refine eg_iconst dX9_canNominate_7 ?_
    refine eg_Vf2 cs_X9_195 dX9_canNominate_8 (c_isPointOf hN hv r_b ⟨by omega, by omega⟩) (by first | exact er202 | exact er203 | exact er204 | exact er205 | exact er206 | exact er207 | exact er208 | exact er209 | exact er210 | exact er211 | exact er212 | exact er213 | exact er214 | exact er215) rfl (Nat.le_of_ble_eq_true rfl) (by decide) ?_
    refine eg_bi_eq 42 dX9_canNominate_11 rfl (fun h11 => ?_) (fun h11 => ?_)
    · refine eg_iconst dX9_canNominate_42 ?_
      refine eg_istore dX9_canNominate_43 rfl rfl rfl ?_
      refine eg_al_n dX9_canNominate_45 rfl rfl ?_
      refine eg_iload_n dX9_canNominate_46 rfl ?_
      refine eg_Vf1 cs_X9_199 dX9_canNominate_47 (c_isShipper hN hv r_a) (by first | exact er202 | exact er203 | exact er204 | exact er205 | exact er206 | exact er207 | exact er208 | exact er209 | exact er210 | exact er211 | exact er212 | exact er213 | exact er214 | exact er215) rfl (Nat.le_of_ble_eq_true rfl) (by decide) ?_
      refine eg_bi_eq 75 dX9_canNominate_50 rfl (fun h50 => ?_) (fun h50 => ?_)
      · refine eg_iconst dX9_canNominate_75 ?_
        refine eg_ireturn dX9_canNominate_76 rfl rfl ?_
        exact ⟨congrArg (fun q => some (vI q)) (by unfold bi; first | (exfalso; omega) | rw [if_pos (by omega)] | rw [if_neg (by omega)]), rfl, rfl⟩
      · refine eg_iload dX9_canNominate_53 rfl ?_
        refine eg_if_eq 75 dX9_canNominate_55 ⟨by omega, by omega⟩ rfl (fun h55 => ?_) (fun h55 => ?_)
        · refine eg_iconst dX9_canNominate_75 ?_
          refine eg_ireturn dX9_canNominate_76 rfl rfl ?_
          exact ⟨congrArg (fun q => some (vI q)) (by unfold bi; first | (exfalso; omega) | rw [if_pos (by omega)] | rw [if_neg (by omega)]), rfl, rfl⟩
        · refine eg_iload dX9_canNominate_58 rfl ?_
          refine eg_i2l dX9_canNominate_60 ⟨by omega, by omega⟩ ?_
          refine eg_lconst dX9_canNominate_61 ?_
          refine eg_ldc2 kw_X9_167 dX9_canNominate_62 ?_
          refine eg_Sf3 cs_X9_81 dX9_canNominate_65 (c_in ⟨by omega, by omega⟩ ⟨by omega, by omega⟩ ⟨by omega, by omega⟩) (Nat.le_of_ble_eq_true rfl) (by decide) ?_
          refine eg_bi_eq 75 dX9_canNominate_68 rfl (fun h68 => ?_) (fun h68 => ?_)
          · refine eg_iconst dX9_canNominate_75 ?_
            refine eg_ireturn dX9_canNominate_76 rfl rfl ?_
            exact ⟨congrArg (fun q => some (vI q)) (by unfold bi; first | (exfalso; omega) | rw [if_pos (by omega)] | rw [if_neg (by omega)]), rfl, rfl⟩
          · refine eg_iconst dX9_canNominate_71 ?_
            refine eg_goto 76 dX9_canNominate_72 rfl ?_
            refine eg_ireturn dX9_canNominate_76 rfl rfl ?_
            exact ⟨congrArg (fun q => some (vI q)) (by unfold bi; first | (exfalso; omega) | rw [if_pos (by omega)] | rw [if_neg (by omega)]), rfl, rfl⟩
    · refine eg_iload_n dX9_canNominate_14 rfl ?_
      refine eg_iconst dX9_canNominate_15 ?_
      refine eg_icmp_eq 28 dX9_canNominate_16 ⟨by omega, by omega⟩ ⟨by omega, by omega⟩ rfl (fun h16 => ?_) (fun h16 => ?_)
      · refine eg_iload_n dX9_canNominate_28 rfl ?_
        refine eg_iconst dX9_canNominate_29 ?_
        refine eg_icmp_ne 38 dX9_canNominate_30 ⟨by omega, by omega⟩ ⟨by omega, by omega⟩ rfl (fun h30 => ?_) (fun h30 => ?_)
        · refine eg_iconst dX9_canNominate_38 ?_
          refine eg_goto 43 dX9_canNominate_39 rfl ?_
          refine eg_istore dX9_canNominate_43 rfl rfl rfl ?_
          refine eg_al_n dX9_canNominate_45 rfl rfl ?_
          refine eg_iload_n dX9_canNominate_46 rfl ?_
          refine eg_Vf1 cs_X9_199 dX9_canNominate_47 (c_isShipper hN hv r_a) (by first | exact er202 | exact er203 | exact er204 | exact er205 | exact er206 | exact er207 | exact er208 | exact er209 | exact er210 | exact er211 | exact er212 | exact er213 | exact er214 | exact er215) rfl (Nat.le_of_ble_eq_true rfl) (by decide) ?_
          refine eg_bi_eq 75 dX9_canNominate_50 rfl (fun h50 => ?_) (fun h50 => ?_)
          · refine eg_iconst dX9_canNominate_75 ?_
            refine eg_ireturn dX9_canNominate_76 rfl rfl ?_
            exact ⟨congrArg (fun q => some (vI q)) (by unfold bi; first | (exfalso; omega) | rw [if_pos (by omega)] | rw [if_neg (by omega)]), rfl, rfl⟩
          · refine eg_iload dX9_canNominate_53 rfl ?_
            refine eg_if_eq 75 dX9_canNominate_55 ⟨by omega, by omega⟩ rfl (fun h55 => ?_) (fun h55 => ?_)
            · refine eg_iconst dX9_canNominate_75 ?_
              refine eg_ireturn dX9_canNominate_76 rfl rfl ?_
              exact ⟨congrArg (fun q => some (vI q)) (by unfold bi; first | (exfalso; omega) | rw [if_pos (by omega)] | rw [if_neg (by omega)]), rfl, rfl⟩
            · refine eg_iload dX9_canNominate_58 rfl ?_
              refine eg_i2l dX9_canNominate_60 ⟨by omega, by omega⟩ ?_
              refine eg_lconst dX9_canNominate_61 ?_
              refine eg_ldc2 kw_X9_167 dX9_canNominate_62 ?_
              refine eg_Sf3 cs_X9_81 dX9_canNominate_65 (c_in ⟨by omega, by omega⟩ ⟨by omega, by omega⟩ ⟨by omega, by omega⟩) (Nat.le_of_ble_eq_true rfl) (by decide) ?_
              refine eg_bi_eq 75 dX9_canNominate_68 rfl (fun h68 => ?_) (fun h68 => ?_)
              · refine eg_iconst dX9_canNominate_75 ?_
                refine eg_ireturn dX9_canNominate_76 rfl rfl ?_
                exact ⟨congrArg (fun q => some (vI q)) (by unfold bi; first | (exfalso; omega) | rw [if_pos (by omega)] | rw [if_neg (by omega)]), rfl, rfl⟩
              · refine eg_iconst dX9_canNominate_71 ?_
                refine eg_goto 76 dX9_canNominate_72 rfl ?_
                refine eg_ireturn dX9_canNominate_76 rfl rfl ?_
                exact ⟨congrArg (fun q => some (vI q)) (by unfold bi; first | (exfalso; omega) | rw [if_pos (by omega)] | rw [if_neg (by omega)]), rfl, rfl⟩
        · refine eg_iload_n dX9_canNominate_33 rfl ?_
          refine eg_iconst dX9_canNominate_34 ?_
          refine eg_icmp_eq 42 dX9_canNominate_35 ⟨by omega, by omega⟩ ⟨by omega, by omega⟩ rfl (fun h35 => ?_) (fun h35 => ?_)
          · refine eg_iconst dX9_canNominate_42 ?_
            refine eg_istore dX9_canNominate_43 rfl rfl rfl ?_
            refine eg_al_n dX9_canNominate_45 rfl rfl ?_
            refine eg_iload_n dX9_canNominate_46 rfl ?_
            refine eg_Vf1 cs_X9_199 dX9_canNominate_47 (c_isShipper hN hv r_a) (by first | exact er202 | exact er203 | exact er204 | exact er205 | exact er206 | exact er207 | exact er208 | exact er209 | exact er210 | exact er211 | exact er212 | exact er213 | exact er214 | exact er215) rfl (Nat.le_of_ble_eq_true rfl) (by decide) ?_
            refine eg_bi_eq 75 dX9_canNominate_50 rfl (fun h50 => ?_) (fun h50 => ?_)
            · refine eg_iconst dX9_canNominate_75 ?_
              refine eg_ireturn dX9_canNominate_76 rfl rfl ?_
              exact ⟨congrArg (fun q => some (vI q)) (by unfold bi; first | (exfalso; omega) | rw [if_pos (by omega)] | rw [if_neg (by omega)]), rfl, rfl⟩
            · refine eg_iload dX9_canNominate_53 rfl ?_
              refine eg_if_eq 75 dX9_canNominate_55 ⟨by omega, by omega⟩ rfl (fun h55 => ?_) (fun h55 => ?_)
              · refine eg_iconst dX9_canNominate_75 ?_
                refine eg_ireturn dX9_canNominate_76 rfl rfl ?_
                exact ⟨congrArg (fun q => some (vI q)) (by unfold bi; first | (exfalso; omega) | rw [if_pos (by omega)] | rw [if_neg (by omega)]), rfl, rfl⟩
              · refine eg_iload dX9_canNominate_58 rfl ?_
                refine eg_i2l dX9_canNominate_60 ⟨by omega, by omega⟩ ?_
                refine eg_lconst dX9_canNominate_61 ?_
                refine eg_ldc2 kw_X9_167 dX9_canNominate_62 ?_
                refine eg_Sf3 cs_X9_81 dX9_canNominate_65 (c_in ⟨by omega, by omega⟩ ⟨by omega, by omega⟩ ⟨by omega, by omega⟩) (Nat.le_of_ble_eq_true rfl) (by decide) ?_
                refine eg_bi_eq 75 dX9_canNominate_68 rfl (fun h68 => ?_) (fun h68 => ?_)
                · refine eg_iconst dX9_canNominate_75 ?_
                  refine eg_ireturn dX9_canNominate_76 rfl rfl ?_
                  exact ⟨congrArg (fun q => some (vI q)) (by unfold bi; first | (exfalso; omega) | rw [if_pos (by omega)] | rw [if_neg (by omega)]), rfl, rfl⟩
                · refine eg_iconst dX9_canNominate_71 ?_
                  refine eg_goto 76 dX9_canNominate_72 rfl ?_
                  refine eg_ireturn dX9_canNominate_76 rfl rfl ?_
                  exact ⟨congrArg (fun q => some (vI q)) (by unfold bi; first | (exfalso; omega) | rw [if_pos (by omega)] | rw [if_neg (by omega)]), rfl, rfl⟩
          · refine eg_iconst dX9_canNominate_38 ?_
            refine eg_goto 43 dX9_canNominate_39 rfl ?_
            refine eg_istore dX9_canNominate_43 rfl rfl rfl ?_
            refine eg_al_n dX9_canNominate_45 rfl rfl ?_
            refine eg_iload_n dX9_canNominate_46 rfl ?_
            refine eg_Vf1 cs_X9_199 dX9_canNominate_47 (c_isShipper hN hv r_a) (by first | exact er202 | exact er203 | exact er204 | exact er205 | exact er206 | exact er207 | exact er208 | exact er209 | exact er210 | exact er211 | exact er212 | exact er213 | exact er214 | exact er215) rfl (Nat.le_of_ble_eq_true rfl) (by decide) ?_
            refine eg_bi_eq 75 dX9_canNominate_50 rfl (fun h50 => ?_) (fun h50 => ?_)
            · refine eg_iconst dX9_canNominate_75 ?_
              refine eg_ireturn dX9_canNominate_76 rfl rfl ?_
              exact ⟨congrArg (fun q => some (vI q)) (by unfold bi; first | (exfalso; omega) | rw [if_pos (by omega)] | rw [if_neg (by omega)]), rfl, rfl⟩
            · refine eg_iload dX9_canNominate_53 rfl ?_
              refine eg_if_eq 75 dX9_canNominate_55 ⟨by omega, by omega⟩ rfl (fun h55 => ?_) (fun h55 => ?_)
              · refine eg_iconst dX9_canNominate_75 ?_
                refine eg_ireturn dX9_canNominate_76 rfl rfl ?_
                exact ⟨congrArg (fun q => some (vI q)) (by unfold bi; first | (exfalso; omega) | rw [if_pos (by omega)] | rw [if_neg (by omega)]), rfl, rfl⟩
              · refine eg_iload dX9_canNominate_58 rfl ?_
                refine eg_i2l dX9_canNominate_60 ⟨by omega, by omega⟩ ?_
                refine eg_lconst dX9_canNominate_61 ?_
                refine eg_ldc2 kw_X9_167 dX9_canNominate_62 ?_
                refine eg_Sf3 cs_X9_81 dX9_canNominate_65 (c_in ⟨by omega, by omega⟩ ⟨by omega, by omega⟩ ⟨by omega, by omega⟩) (Nat.le_of_ble_eq_true rfl) (by decide) ?_
                refine eg_bi_eq 75 dX9_canNominate_68 rfl (fun h68 => ?_) (fun h68 => ?_)
                · refine eg_iconst dX9_canNominate_75 ?_
                  refine eg_ireturn dX9_canNominate_76 rfl rfl ?_
                  exact ⟨congrArg (fun q => some (vI q)) (by unfold bi; first | (exfalso; omega) | rw [if_pos (by omega)] | rw [if_neg (by omega)]), rfl, rfl⟩
                · refine eg_iconst dX9_canNominate_71 ?_
                  refine eg_goto 76 dX9_canNominate_72 rfl ?_
                  refine eg_ireturn dX9_canNominate_76 rfl rfl ?_
                  exact ⟨congrArg (fun q => some (vI q)) (by unfold bi; first | (exfalso; omega) | rw [if_pos (by omega)] | rw [if_neg (by omega)]), rfl, rfl⟩
      · refine eg_al_n dX9_canNominate_19 rfl rfl ?_
        refine eg_iload_n dX9_canNominate_20 rfl ?_
        refine eg_iconst dX9_canNominate_21 ?_
        refine eg_Vf2 cs_X9_195 dX9_canNominate_22 (c_isPointOf hN hv r_c ⟨by omega, by omega⟩) (by first | exact er202 | exact er203 | exact er204 | exact er205 | exact er206 | exact er207 | exact er208 | exact er209 | exact er210 | exact er211 | exact er212 | exact er213 | exact er214 | exact er215) rfl (Nat.le_of_ble_eq_true rfl) (by decide) ?_
        refine eg_bi_eq 42 dX9_canNominate_25 rfl (fun h25 => ?_) (fun h25 => ?_)
        · refine eg_iconst dX9_canNominate_42 ?_
          refine eg_istore dX9_canNominate_43 rfl rfl rfl ?_
          refine eg_al_n dX9_canNominate_45 rfl rfl ?_
          refine eg_iload_n dX9_canNominate_46 rfl ?_
          refine eg_Vf1 cs_X9_199 dX9_canNominate_47 (c_isShipper hN hv r_a) (by first | exact er202 | exact er203 | exact er204 | exact er205 | exact er206 | exact er207 | exact er208 | exact er209 | exact er210 | exact er211 | exact er212 | exact er213 | exact er214 | exact er215) rfl (Nat.le_of_ble_eq_true rfl) (by decide) ?_
          refine eg_bi_eq 75 dX9_canNominate_50 rfl (fun h50 => ?_) (fun h50 => ?_)
          · refine eg_iconst dX9_canNominate_75 ?_
            refine eg_ireturn dX9_canNominate_76 rfl rfl ?_
            exact ⟨congrArg (fun q => some (vI q)) (by unfold bi; first | (exfalso; omega) | rw [if_pos (by omega)] | rw [if_neg (by omega)]), rfl, rfl⟩
          · refine eg_iload dX9_canNominate_53 rfl ?_
            refine eg_if_eq 75 dX9_canNominate_55 ⟨by omega, by omega⟩ rfl (fun h55 => ?_) (fun h55 => ?_)
            · refine eg_iconst dX9_canNominate_75 ?_
              refine eg_ireturn dX9_canNominate_76 rfl rfl ?_
              exact ⟨congrArg (fun q => some (vI q)) (by unfold bi; first | (exfalso; omega) | rw [if_pos (by omega)] | rw [if_neg (by omega)]), rfl, rfl⟩
            · refine eg_iload dX9_canNominate_58 rfl ?_
              refine eg_i2l dX9_canNominate_60 ⟨by omega, by omega⟩ ?_
              refine eg_lconst dX9_canNominate_61 ?_
              refine eg_ldc2 kw_X9_167 dX9_canNominate_62 ?_
              refine eg_Sf3 cs_X9_81 dX9_canNominate_65 (c_in ⟨by omega, by omega⟩ ⟨by omega, by omega⟩ ⟨by omega, by omega⟩) (Nat.le_of_ble_eq_true rfl) (by decide) ?_
              refine eg_bi_eq 75 dX9_canNominate_68 rfl (fun h68 => ?_) (fun h68 => ?_)
              · refine eg_iconst dX9_canNominate_75 ?_
                refine eg_ireturn dX9_canNominate_76 rfl rfl ?_
                exact ⟨congrArg (fun q => some (vI q)) (by unfold bi; first | (exfalso; omega) | rw [if_pos (by omega)] | rw [if_neg (by omega)]), rfl, rfl⟩
              · refine eg_iconst dX9_canNominate_71 ?_
                refine eg_goto 76 dX9_canNominate_72 rfl ?_
                refine eg_ireturn dX9_canNominate_76 rfl rfl ?_
                exact ⟨congrArg (fun q => some (vI q)) (by unfold bi; first | (exfalso; omega) | rw [if_pos (by omega)] | rw [if_neg (by omega)]), rfl, rfl⟩
        · refine eg_iload_n dX9_canNominate_28 rfl ?_
          refine eg_iconst dX9_canNominate_29 ?_
          refine eg_icmp_ne 38 dX9_canNominate_30 ⟨by omega, by omega⟩ ⟨by omega, by omega⟩ rfl (fun h30 => ?_) (fun h30 => ?_)
          · refine eg_iconst dX9_canNominate_38 ?_
            refine eg_goto 43 dX9_canNominate_39 rfl ?_
            refine eg_istore dX9_canNominate_43 rfl rfl rfl ?_
            refine eg_al_n dX9_canNominate_45 rfl rfl ?_
            refine eg_iload_n dX9_canNominate_46 rfl ?_
            refine eg_Vf1 cs_X9_199 dX9_canNominate_47 (c_isShipper hN hv r_a) (by first | exact er202 | exact er203 | exact er204 | exact er205 | exact er206 | exact er207 | exact er208 | exact er209 | exact er210 | exact er211 | exact er212 | exact er213 | exact er214 | exact er215) rfl (Nat.le_of_ble_eq_true rfl) (by decide) ?_
            refine eg_bi_eq 75 dX9_canNominate_50 rfl (fun h50 => ?_) (fun h50 => ?_)
            · refine eg_iconst dX9_canNominate_75 ?_
              refine eg_ireturn dX9_canNominate_76 rfl rfl ?_
              exact ⟨congrArg (fun q => some (vI q)) (by unfold bi; first | (exfalso; omega) | rw [if_pos (by omega)] | rw [if_neg (by omega)]), rfl, rfl⟩
            · refine eg_iload dX9_canNominate_53 rfl ?_
              refine eg_if_eq 75 dX9_canNominate_55 ⟨by omega, by omega⟩ rfl (fun h55 => ?_) (fun h55 => ?_)
              · refine eg_iconst dX9_canNominate_75 ?_
                refine eg_ireturn dX9_canNominate_76 rfl rfl ?_
                exact ⟨congrArg (fun q => some (vI q)) (by unfold bi; first | (exfalso; omega) | rw [if_pos (by omega)] | rw [if_neg (by omega)]), rfl, rfl⟩
              · refine eg_iload dX9_canNominate_58 rfl ?_
                refine eg_i2l dX9_canNominate_60 ⟨by omega, by omega⟩ ?_
                refine eg_lconst dX9_canNominate_61 ?_
                refine eg_ldc2 kw_X9_167 dX9_canNominate_62 ?_
                refine eg_Sf3 cs_X9_81 dX9_canNominate_65 (c_in ⟨by omega, by omega⟩ ⟨by omega, by omega⟩ ⟨by omega, by omega⟩) (Nat.le_of_ble_eq_true rfl) (by decide) ?_
                refine eg_bi_eq 75 dX9_canNominate_68 rfl (fun h68 => ?_) (fun h68 => ?_)
                · refine eg_iconst dX9_canNominate_75 ?_
                  refine eg_ireturn dX9_canNominate_76 rfl rfl ?_
                  exact ⟨congrArg (fun q => some (vI q)) (by unfold bi; first | (exfalso; omega) | rw [if_pos (by omega)] | rw [if_neg (by omega)]), rfl, rfl⟩
                · refine eg_iconst dX9_canNominate_71 ?_
                  refine eg_goto 76 dX9_canNominate_72 rfl ?_
                  refine eg_ireturn dX9_canNominate_76 rfl rfl ?_
                  exact ⟨congrArg (fun q => some (vI q)) (by unfold bi; first | (exfalso; omega) | rw [if_pos (by omega)] | rw [if_neg (by omega)]), rfl, rfl⟩
          · refine eg_iload_n dX9_canNominate_33 rfl ?_
            refine eg_iconst dX9_canNominate_34 ?_
            refine eg_icmp_eq 42 dX9_canNominate_35 ⟨by omega, by omega⟩ ⟨by omega, by omega⟩ rfl (fun h35 => ?_) (fun h35 => ?_)
            · refine eg_iconst dX9_canNominate_42 ?_
              refine eg_istore dX9_canNominate_43 rfl rfl rfl ?_
              refine eg_al_n dX9_canNominate_45 rfl rfl ?_
              refine eg_iload_n dX9_canNominate_46 rfl ?_
              refine eg_Vf1 cs_X9_199 dX9_canNominate_47 (c_isShipper hN hv r_a) (by first | exact er202 | exact er203 | exact er204 | exact er205 | exact er206 | exact er207 | exact er208 | exact er209 | exact er210 | exact er211 | exact er212 | exact er213 | exact er214 | exact er215) rfl (Nat.le_of_ble_eq_true rfl) (by decide) ?_
              refine eg_bi_eq 75 dX9_canNominate_50 rfl (fun h50 => ?_) (fun h50 => ?_)
              · refine eg_iconst dX9_canNominate_75 ?_
                refine eg_ireturn dX9_canNominate_76 rfl rfl ?_
                exact ⟨congrArg (fun q => some (vI q)) (by unfold bi; first | (exfalso; omega) | rw [if_pos (by omega)] | rw [if_neg (by omega)]), rfl, rfl⟩
              · refine eg_iload dX9_canNominate_53 rfl ?_
                refine eg_if_eq 75 dX9_canNominate_55 ⟨by omega, by omega⟩ rfl (fun h55 => ?_) (fun h55 => ?_)
                · refine eg_iconst dX9_canNominate_75 ?_
                  refine eg_ireturn dX9_canNominate_76 rfl rfl ?_
                  exact ⟨congrArg (fun q => some (vI q)) (by unfold bi; first | (exfalso; omega) | rw [if_pos (by omega)] | rw [if_neg (by omega)]), rfl, rfl⟩
                · refine eg_iload dX9_canNominate_58 rfl ?_
                  refine eg_i2l dX9_canNominate_60 ⟨by omega, by omega⟩ ?_
                  refine eg_lconst dX9_canNominate_61 ?_
                  refine eg_ldc2 kw_X9_167 dX9_canNominate_62 ?_
                  refine eg_Sf3 cs_X9_81 dX9_canNominate_65 (c_in ⟨by omega, by omega⟩ ⟨by omega, by omega⟩ ⟨by omega, by omega⟩) (Nat.le_of_ble_eq_true rfl) (by decide) ?_
                  refine eg_bi_eq 75 dX9_canNominate_68 rfl (fun h68 => ?_) (fun h68 => ?_)
                  · refine eg_iconst dX9_canNominate_75 ?_
                    refine eg_ireturn dX9_canNominate_76 rfl rfl ?_
                    exact ⟨congrArg (fun q => some (vI q)) (by unfold bi; first | (exfalso; omega) | rw [if_pos (by omega)] | rw [if_neg (by omega)]), rfl, rfl⟩
                  · refine eg_iconst dX9_canNominate_71 ?_
                    refine eg_goto 76 dX9_canNominate_72 rfl ?_
                    refine eg_ireturn dX9_canNominate_76 rfl rfl ?_
                    exact ⟨congrArg (fun q => some (vI q)) (by unfold bi; first | (exfalso; omega) | rw [if_pos (by omega)] | rw [if_neg (by omega)]), rfl, rfl⟩
            · refine eg_iconst dX9_canNominate_38 ?_
              refine eg_goto 43 dX9_canNominate_39 rfl ?_
              refine eg_istore dX9_canNominate_43 rfl rfl rfl ?_
              refine eg_al_n dX9_canNominate_45 rfl rfl ?_
              refine eg_iload_n dX9_canNominate_46 rfl ?_
              refine eg_Vf1 cs_X9_199 dX9_canNominate_47 (c_isShipper hN hv r_a) (by first | exact er202 | exact er203 | exact er204 | exact er205 | exact er206 | exact er207 | exact er208 | exact er209 | exact er210 | exact er211 | exact er212 | exact er213 | exact er214 | exact er215) rfl (Nat.le_of_ble_eq_true rfl) (by decide) ?_
              refine eg_bi_eq 75 dX9_canNominate_50 rfl (fun h50 => ?_) (fun h50 => ?_)
              · refine eg_iconst dX9_canNominate_75 ?_
                refine eg_ireturn dX9_canNominate_76 rfl rfl ?_
                exact ⟨congrArg (fun q => some (vI q)) (by unfold bi; first | (exfalso; omega) | rw [if_pos (by omega)] | rw [if_neg (by omega)]), rfl, rfl⟩
              · refine eg_iload dX9_canNominate_53 rfl ?_
                refine eg_if_eq 75 dX9_canNominate_55 ⟨by omega, by omega⟩ rfl (fun h55 => ?_) (fun h55 => ?_)
                · refine eg_iconst dX9_canNominate_75 ?_
                  refine eg_ireturn dX9_canNominate_76 rfl rfl ?_
                  exact ⟨congrArg (fun q => some (vI q)) (by unfold bi; first | (exfalso; omega) | rw [if_pos (by omega)] | rw [if_neg (by omega)]), rfl, rfl⟩
                · refine eg_iload dX9_canNominate_58 rfl ?_
                  refine eg_i2l dX9_canNominate_60 ⟨by omega, by omega⟩ ?_
                  refine eg_lconst dX9_canNominate_61 ?_
                  refine eg_ldc2 kw_X9_167 dX9_canNominate_62 ?_
                  refine eg_Sf3 cs_X9_81 dX9_canNominate_65 (c_in ⟨by omega, by omega⟩ ⟨by omega, by omega⟩ ⟨by omega, by omega⟩) (Nat.le_of_ble_eq_true rfl) (by decide) ?_
                  refine eg_bi_eq 75 dX9_canNominate_68 rfl (fun h68 => ?_) (fun h68 => ?_)
                  · refine eg_iconst dX9_canNominate_75 ?_
                    refine eg_ireturn dX9_canNominate_76 rfl rfl ?_
                    exact ⟨congrArg (fun q => some (vI q)) (by unfold bi; first | (exfalso; omega) | rw [if_pos (by omega)] | rw [if_neg (by omega)]), rfl, rfl⟩
                  · refine eg_iconst dX9_canNominate_71 ?_
                    refine eg_goto 76 dX9_canNominate_72 rfl ?_
                    refine eg_ireturn dX9_canNominate_76 rfl rfl ?_
                    exact ⟨congrArg (fun q => some (vI q)) (by unfold bi; first | (exfalso; omega) | rw [if_pos (by omega)] | rw [if_neg (by omega)]), rfl, rfl⟩
theorem c_areShippers {k : eg_K} {z : eg_Z} {X : eg_M} {n : Nat} {v : eg_v} (hN : nw z v) {B : Int} (hv : VV B v) {a b x : Int} (r_a : iR a) (r_b : iR b) (r_x : iR x) : eg_P k gX9_areShippers 2 0 0 [vR k 202, vI a, vI b, vI x] n (enc k z X) (eg_f (some (vI (bi (dlB v a b x = true)))) n (enc k z X)) := by
  refine eg_P.of (by decide) (Nat.le_of_ble_eq_true rfl) ?_
  show eg_E k gX9_areShippers 2 0 0 n (enc k z X) [vR k 202, vI a, vI b, vI x] [] 0 _
  have q := hv.r.2
  have r_a1 := r_a.1; have r_a2 := r_a.2; have r_b1 := r_b.1; have r_b2 := r_b.2; have r_x1 := r_x.1; have r_x2 := r_x.2
  rw [show bi (dlB v a b x = true) = _ from bi_d]
  refine eg_al_n dX9_areShippers_0 rfl rfl ?_
  refine eg_iload_n dX9_areShippers_1 rfl ?_
  refine eg_Vf1 cs_X9_199 dX9_areShippers_2 (c_isShipper hN hv r_a) (by first | exact er202 | exact er203 | exact er204 | exact er205 | exact er206 | exact er207 | exact er208 | exact er209 | exact er210 | exact er211 | exact er212 | exact er213 | exact er214 | exact er215) rfl (Nat.le_of_ble_eq_true rfl) (by decide) ?_
  refine eg_bi_eq 37 dX9_areShippers_5 rfl (fun h5 => ?_) (fun h5 => ?_)
  · refine eg_iconst dX9_areShippers_37 ?_
    refine eg_ireturn dX9_areShippers_38 rfl rfl ?_
    exact ⟨congrArg (fun q => some (vI q)) (by unfold bi; first | (exfalso; omega) | rw [if_pos (by omega)] | rw [if_neg (by omega)]), rfl, rfl⟩
  · refine eg_al_n dX9_areShippers_8 rfl rfl ?_
    refine eg_iload_n dX9_areShippers_9 rfl ?_
    refine eg_Vf1 cs_X9_199 dX9_areShippers_10 (c_isShipper hN hv r_b) (by first | exact er202 | exact er203 | exact er204 | exact er205 | exact er206 | exact er207 | exact er208 | exact er209 | exact er210 | exact er211 | exact er212 | exact er213 | exact er214 | exact er215) rfl (Nat.le_of_ble_eq_true rfl) (by decide) ?_
    refine eg_bi_eq 37 dX9_areShippers_13 rfl (fun h13 => ?_) (fun h13 => ?_)
    · refine eg_iconst dX9_areShippers_37 ?_
      refine eg_ireturn dX9_areShippers_38 rfl rfl ?_
      exact ⟨congrArg (fun q => some (vI q)) (by unfold bi; first | (exfalso; omega) | rw [if_pos (by omega)] | rw [if_neg (by omega)]), rfl, rfl⟩
    · refine eg_iload_n dX9_areShippers_16 rfl ?_
      refine eg_iload_n dX9_areShippers_17 rfl ?_
      refine eg_icmp_eq 37 dX9_areShippers_18 ⟨by omega, by omega⟩ ⟨by omega, by omega⟩ rfl (fun h18 => ?_) (fun h18 => ?_)
      · refine eg_iconst dX9_areShippers_37 ?_
        refine eg_ireturn dX9_areShippers_38 rfl rfl ?_
        exact ⟨congrArg (fun q => some (vI q)) (by unfold bi; first | (exfalso; omega) | rw [if_pos (by omega)] | rw [if_neg (by omega)]), rfl, rfl⟩
      · refine eg_iload_n dX9_areShippers_21 rfl ?_
        refine eg_i2l dX9_areShippers_22 ⟨by omega, by omega⟩ ?_
        refine eg_lconst dX9_areShippers_23 ?_
        refine eg_ldc2 kw_X9_167 dX9_areShippers_24 ?_
        refine eg_Sf3 cs_X9_81 dX9_areShippers_27 (c_in ⟨by omega, by omega⟩ ⟨by omega, by omega⟩ ⟨by omega, by omega⟩) (Nat.le_of_ble_eq_true rfl) (by decide) ?_
        refine eg_bi_eq 37 dX9_areShippers_30 rfl (fun h30 => ?_) (fun h30 => ?_)
        · refine eg_iconst dX9_areShippers_37 ?_
          refine eg_ireturn dX9_areShippers_38 rfl rfl ?_
          exact ⟨congrArg (fun q => some (vI q)) (by unfold bi; first | (exfalso; omega) | rw [if_pos (by omega)] | rw [if_neg (by omega)]), rfl, rfl⟩
        · refine eg_iconst dX9_areShippers_33 ?_
          refine eg_goto 38 dX9_areShippers_34 rfl ?_
          refine eg_ireturn dX9_areShippers_38 rfl rfl ?_
          exact ⟨congrArg (fun q => some (vI q)) (by unfold bi; first | (exfalso; omega) | rw [if_pos (by omega)] | rw [if_neg (by omega)]), rfl, rfl⟩
theorem c_capPlace {k : eg_K} {M : eg_M} {n : Nat} {a b : Int} (r_a : iR a) : eg_P k gX9_capPlace 0 0 0 [vI a, vI b] n (M) (eg_f (some (vI (if a = 0 then 26 + 4 * b + 2 else 12 + 2 * b))) n (M)) := by
  refine eg_P.of (by decide) (Nat.le_of_ble_eq_true rfl) ?_
  show eg_E k gX9_capPlace 0 0 0 n (M) [vI a, vI b] [] 0 _
  have r_a1 := r_a.1; have r_a2 := r_a.2
  refine eg_iload_n dX9_capPlace_0 rfl ?_
  refine eg_if_ne 15 dX9_capPlace_1 ⟨by omega, by omega⟩ rfl (fun h1 => ?_) (fun h1 => ?_)
  · refine eg_bipush dX9_capPlace_15 (by decide) ?_
    refine eg_iconst dX9_capPlace_17 ?_
    refine eg_iload_n dX9_capPlace_18 rfl ?_
    refine eg_imul dX9_capPlace_19 ?_
    refine eg_iadd dX9_capPlace_20 ?_
    refine eg_ireturn dX9_capPlace_21 rfl rfl ?_
    exact ⟨congrArg (fun q => some (vI q)) (by first | rw [if_pos (by omega)] | rw [if_neg (by omega)]), rfl, rfl⟩
  · refine eg_bipush dX9_capPlace_4 (by decide) ?_
    refine eg_iconst dX9_capPlace_6 ?_
    refine eg_iload_n dX9_capPlace_7 rfl ?_
    refine eg_imul dX9_capPlace_8 ?_
    refine eg_iadd dX9_capPlace_9 ?_
    refine eg_iconst dX9_capPlace_10 ?_
    refine eg_iadd dX9_capPlace_11 ?_
    refine eg_goto 21 dX9_capPlace_12 rfl ?_
    refine eg_ireturn dX9_capPlace_21 rfl rfl ?_
    exact ⟨congrArg (fun q => some (vI q)) (by first | rw [if_pos (by omega)] | rw [if_neg (by omega)]), rfl, rfl⟩
/-- 220 numbers from the w-th place of one row come to the t-th of another -/
def cpR (f : Nat → Int) (w : Nat) (g : Nat → Int) (t m : Nat) : Nat → Int := fun i => if 220 * t ≤ i ∧ i < 220 * t + m then f (220 * w + (i - 220 * t)) else g i
theorem cpR_0 (f : Nat → Int) (w : Nat) (g : Nat → Int) (t : Nat) : cpR f w g t 0 = g := by funext i; unfold cpR; rw [if_neg (by omega)]
theorem cpR_s (f : Nat → Int) (w : Nat) (g : Nat → Int) (t m : Nat) : va_up (cpR f w g t m) (220 * t + m) (f (220 * w + m)) = cpR f w g t (m + 1) := by
  funext i
  by_cases h : i = 220 * t + m
  · subst h; rw [va_up_s]; unfold cpR; rw [if_pos (by omega), Nat.add_sub_cancel_left]
  · rw [va_up_n _ _ h]
    unfold cpR
    by_cases h2 : 220 * t ≤ i ∧ i < 220 * t + m
    · rw [if_pos h2, if_pos (by omega)]
    · rw [if_neg h2, if_neg (by omega)]
theorem cpR_i {f : Nat → Int} {w : Nat} {g : Nat → Int} {t i : Nat} (hi : i < 220) : cpR f w g t 220 (220 * t + i) = f (220 * w + i) := by unfold cpR; rw [if_pos (by omega), Nat.add_sub_cancel_left]
theorem cpR_o {f : Nat → Int} {w : Nat} {g : Nat → Int} {t i m : Nat} (hi : i < 220 * t ∨ 220 * t + m ≤ i) : cpR f w g t m i = g i := by unfold cpR; rw [if_neg (by omega)]
theorem c_moves {k : eg_K} {M : eg_M} {n a b la lb w t : Nat} {fa fb : Nat → Int} (hab : a ≠ b) (hA : M a = some (aL k la fa)) (hB : M b = some (aL k lb fb)) (h1 : 220 * w + 220 ≤ la) (h2 : 220 * t + 220 ≤ lb) (h3 : la ≤ 65536) (h4 : lb ≤ 65536) : eg_P k gX9_moves 0 0 0 [vR k a, vI (w : Int), vR k b, vI (t : Int)] n (M) (eg_f none n (va_up M b (some (aL k lb (cpR fa w fb t 220))))) := by
  refine eg_P.of (by decide) (Nat.le_of_ble_eq_true rfl) ?_
  show eg_E k gX9_moves 0 0 0 n (M) [vR k a, vI (w : Int), vR k b, vI (t : Int), vU] [] 0 _
  have L : ∀ (m : Nat) (i : Nat), i ≤ 220 → 220 - (i : Int) < (m : Int) → eg_E k gX9_moves 0 0 0 n (va_up M b (some (aL k lb (cpR fa w fb t i)))) [vR k a, vI (w : Int), vR k b, vI (t : Int), vI (i : Int)] [] 3 (eg_f none n (va_up M b (some (aL k lb (cpR fa w fb t 220))))) := by
    intro m
    induction m with
    | zero => intro i h1 hm; exfalso; omega
    | succ m ih =>
      intro i h1 hm
      refine eg_iload dX9_moves_3 rfl ?_
      refine eg_sipush dX9_moves_5 (by decide) ?_
      refine eg_icmp_ge 37 dX9_moves_8 ⟨by omega, by omega⟩ ⟨by omega, by omega⟩ rfl (fun h8 => ?_) (fun h8 => ?_)
      · refine eg_return dX9_moves_37 rfl ?_
        have e : i = 220 := by omega
        subst e
        exact ⟨rfl, rfl, rfl⟩
      · refine eg_al_n dX9_moves_11 rfl rfl ?_
        refine eg_sipush dX9_moves_12 (by decide) ?_
        refine eg_iload_n dX9_moves_15 rfl ?_
        refine eg_imul dX9_moves_16 ?_
        refine eg_iload dX9_moves_17 rfl ?_
        refine eg_iadd dX9_moves_19 ?_
        refine eg_al_n dX9_moves_20 rfl rfl ?_
        refine eg_sipush dX9_moves_21 (by decide) ?_
        refine eg_iload_n dX9_moves_24 rfl ?_
        refine eg_imul dX9_moves_25 ?_
        refine eg_iload dX9_moves_26 rfl ?_
        refine eg_iadd dX9_moves_28 ?_
        refine eg_lald dX9_moves_29 (by first | (rw [va_up_n _ _ hab]; exact hA) | (rw [va_up_s])) (by omega) (by omega) (by omega) ?_
        refine eg_last dX9_moves_30 (by first | (rw [va_up_n _ _ hab]; exact hA) | (rw [va_up_s])) (by omega) (by omega) (by omega) ?_
        rw [va_up2, show (220 * (t : Int) + (i : Int)).toNat = 220 * t + i by omega, show (220 * (w : Int) + (i : Int)).toNat = 220 * w + i by omega, cpR_s]
        refine eg_iinc dX9_moves_31 rfl rfl rfl ?_
        refine eg_goto 3 dX9_moves_34 rfl ?_
        exact ih (i + 1) (by omega) (by omega)
  refine eg_iconst dX9_moves_0 ?_
  refine eg_istore dX9_moves_1 rfl rfl rfl ?_
  have e : M = va_up M b (some (aL k lb (cpR fa w fb t 0))) := by
    rw [cpR_0]
    funext q
    by_cases hq : q = b
    · subst hq; rw [va_up_s]; exact hB
    · rw [va_up_n _ _ hq]
  refine eg_eqM e ?_
  exact L 221 0 (by omega) (by omega)
theorem c_movesD {k : eg_K} {M : eg_M} {n a la t : Nat} {fa : Nat → Int} (hA : M a = some (aL k la fa)) (h1 : 220 * (t + 1) + 220 ≤ la) (h3 : la ≤ 65536) : eg_P k gX9_moves 0 0 0 [vR k a, vI ((t : Int) + 1), vR k a, vI (t : Int)] n (M) (eg_f none n (va_up M a (some (aL k la (cpR fa (t + 1) fa t 220))))) := by
  refine eg_P.of (by decide) (Nat.le_of_ble_eq_true rfl) ?_
  show eg_E k gX9_moves 0 0 0 n (M) [vR k a, vI ((t : Int) + 1), vR k a, vI (t : Int), vU] [] 0 _
  have L : ∀ (m : Nat) (i : Nat), i ≤ 220 → 220 - (i : Int) < (m : Int) → eg_E k gX9_moves 0 0 0 n (va_up M a (some (aL k la (cpR fa (t + 1) fa t i)))) [vR k a, vI ((t : Int) + 1), vR k a, vI (t : Int), vI (i : Int)] [] 3 (eg_f none n (va_up M a (some (aL k la (cpR fa (t + 1) fa t 220))))) := by
    intro m
    induction m with
    | zero => intro i h1 hm; exfalso; omega
    | succ m ih =>
      intro i h1 hm
      refine eg_iload dX9_moves_3 rfl ?_
      refine eg_sipush dX9_moves_5 (by decide) ?_
      refine eg_icmp_ge 37 dX9_moves_8 ⟨by omega, by omega⟩ ⟨by omega, by omega⟩ rfl (fun h8 => ?_) (fun h8 => ?_)
      · refine eg_return dX9_moves_37 rfl ?_
        have e : i = 220 := by omega
        subst e
        exact ⟨rfl, rfl, rfl⟩
      · refine eg_al_n dX9_moves_11 rfl rfl ?_
        refine eg_sipush dX9_moves_12 (by decide) ?_
        refine eg_iload_n dX9_moves_15 rfl ?_
        refine eg_imul dX9_moves_16 ?_
        refine eg_iload dX9_moves_17 rfl ?_
        refine eg_iadd dX9_moves_19 ?_
        refine eg_al_n dX9_moves_20 rfl rfl ?_
        refine eg_sipush dX9_moves_21 (by decide) ?_
        refine eg_iload_n dX9_moves_24 rfl ?_
        refine eg_imul dX9_moves_25 ?_
        refine eg_iload dX9_moves_26 rfl ?_
        refine eg_iadd dX9_moves_28 ?_
        refine eg_lald dX9_moves_29 (by rw [va_up_s]) (by omega) (by omega) (by omega) ?_
        rw [show (220 * ((t : Int) + 1) + (i : Int)).toNat = 220 * (t + 1) + i by omega, cpR_o (f := fa) (t := t) (i := 220 * (t + 1) + i) (by omega)]
        refine eg_last dX9_moves_30 (by rw [va_up_s]) (by omega) (by omega) (by omega) ?_
        rw [va_up2, show (220 * (t : Int) + (i : Int)).toNat = 220 * t + i by omega, cpR_s]
        refine eg_iinc dX9_moves_31 rfl rfl rfl ?_
        refine eg_goto 3 dX9_moves_34 rfl ?_
        exact ih (i + 1) (by omega) (by omega)
  refine eg_iconst dX9_moves_0 ?_
  refine eg_istore dX9_moves_1 rfl rfl rfl ?_
  have e : M = va_up M a (some (aL k la (cpR fa (t + 1) fa t 0))) := by
    rw [cpR_0]
    funext q
    by_cases hq : q = a
    · subst hq; rw [va_up_s]; exact hA
    · rw [va_up_n _ _ hq]
  refine eg_eqM e ?_
  exact L 221 0 (by omega) (by omega)
theorem mv_203_205 {k : eg_K} {z : eg_Z} {X : eg_M} {n : Nat} : eg_P k gX9_moves 0 0 0 [vR k 203, vI 0, vR k 205, vI 0] n (enc k z X) (eg_f none n (enc k (va_up z 205 (cpR (z 203) 0 (z 205) 0 220)) X)) := by
  have h := c_moves (k := k) (M := enc k z X) (n := n) (a := 203) (b := 205) (w := 0) (t := 0) (by decide) er203 er205 (by decide) (by decide) (by decide) (by decide)
  rw [es205] at h
  exact h
theorem mv_205_203 {k : eg_K} {z : eg_Z} {X : eg_M} {n : Nat} : eg_P k gX9_moves 0 0 0 [vR k 205, vI 0, vR k 203, vI 0] n (enc k z X) (eg_f none n (enc k (va_up z 203 (cpR (z 205) 0 (z 203) 0 220)) X)) := by
  have h := c_moves (k := k) (M := enc k z X) (n := n) (a := 205) (b := 203) (w := 0) (t := 0) (by decide) er205 er203 (by decide) (by decide) (by decide) (by decide)
  rw [es203] at h
  exact h
theorem mv_204_203 {k : eg_K} {z : eg_Z} {X : eg_M} {n : Nat} : eg_P k gX9_moves 0 0 0 [vR k 204, vI 0, vR k 203, vI 0] n (enc k z X) (eg_f none n (enc k (va_up z 203 (cpR (z 204) 0 (z 203) 0 220)) X)) := by
  have h := c_moves (k := k) (M := enc k z X) (n := n) (a := 204) (b := 203) (w := 0) (t := 0) (by decide) er204 er203 (by decide) (by decide) (by decide) (by decide)
  rw [es203] at h
  exact h
theorem mv_k {k : eg_K} {z : eg_Z} {X : eg_M} {n : Nat} {t : Nat} (h : t < 10) : eg_P k gX9_moves 0 0 0 [vR k 203, vI 0, vR k 206, vI (t : Int)] n (enc k z X) (eg_f none n (enc k (va_up z 206 (cpR (z 203) 0 (z 206) t 220)) X)) := by
  have h := c_moves (k := k) (M := enc k z X) (n := n) (a := 203) (b := 206) (w := 0) (t := t) (by decide) er203 er206 (by decide) (by omega) (by decide) (by decide)
  rw [es206] at h
  exact h
theorem mv_u {k : eg_K} {z : eg_Z} {X : eg_M} {n : Nat} {t : Nat} (h : t < 10) : eg_P k gX9_moves 0 0 0 [vR k 206, vI (t : Int), vR k 203, vI 0] n (enc k z X) (eg_f none n (enc k (va_up z 203 (cpR (z 206) t (z 203) 0 220)) X)) := by
  have h := c_moves (k := k) (M := enc k z X) (n := n) (a := 206) (b := 203) (w := t) (t := 0) (by decide) er206 er203 (by omega) (by decide) (by decide) (by decide)
  rw [es203] at h
  exact h
theorem mv_sk {k : eg_K} {z : eg_Z} {X : eg_M} {n : Nat} {t : Nat} (h : t < 2) : eg_P k gX9_moves 0 0 0 [vR k 203, vI 0, vR k 207, vI (t : Int)] n (enc k z X) (eg_f none n (enc k (va_up z 207 (cpR (z 203) 0 (z 207) t 220)) X)) := by
  have h := c_moves (k := k) (M := enc k z X) (n := n) (a := 203) (b := 207) (w := 0) (t := t) (by decide) er203 er207 (by decide) (by omega) (by decide) (by decide)
  rw [es207] at h
  exact h
theorem mv_sb {k : eg_K} {z : eg_Z} {X : eg_M} {n : Nat} {t : Nat} (h : t < 2) : eg_P k gX9_moves 0 0 0 [vR k 207, vI (t : Int), vR k 203, vI 0] n (enc k z X) (eg_f none n (enc k (va_up z 203 (cpR (z 207) t (z 203) 0 220)) X)) := by
  have h := c_moves (k := k) (M := enc k z X) (n := n) (a := 207) (b := 203) (w := t) (t := 0) (by decide) er207 er203 (by omega) (by decide) (by decide) (by decide)
  rw [es203] at h
  exact h
theorem mv_d {k : eg_K} {z : eg_Z} {X : eg_M} {n : Nat} {t : Nat} (h : t < 9) : eg_P k gX9_moves 0 0 0 [vR k 206, vI ((t : Int) + 1), vR k 206, vI (t : Int)] n (enc k z X) (eg_f none n (enc k (va_up z 206 (cpR (z 206) (t + 1) (z 206) t 220)) X)) := by
  have h := c_movesD (k := k) (M := enc k z X) (n := n) (a := 206) (t := t) er206 (by omega) (by decide)
  rw [es206] at h
  exact h
