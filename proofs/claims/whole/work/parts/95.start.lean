/-! THE START -/
def fl_1 : List Cond := flatC (Jvm.Cond.and given_1 narrow_1)
def lit_b : List Nat := [215, 223, 234, 240, 247, 258, 265, 273, 281, 290, 364, 299, 311, 318, 326, 338, 347, 356, 384, 392, 401, 414, 423, 433, 443, 456, 374, 506, 515, 524, 467, 479, 486, 494, 532]
def lit_p : List Nat := [478, 571, 576, 586, 587, 592, 619, 620, 621, 1159, 1295, 1267, 1278, 1279, 1285, 1290, 1291, 1293, 1449, 1454, 1455, 1456, 1457, 1458, 1459, 1487, 1404, 1904, 1905, 1906, 1896, 1897, 1898, 1899, 1907]
def lit_t (i : Nat) : Term := match eg_lit[i]? with
  | some q => .string q.1 q.2.1
  | none => .string "" 0
def lit_v (i : Nat) : Term := .field (lit_t i) "java/lang/String" "value" "[B"
theorem lit_w0 : ∀ i, i < 35 → fl_1[lit_b.getD i 0]? = some (.exactly (lit_t i) "java/lang/String") := by decide +kernel
theorem lit_w1 : ∀ i, i < 35 → fl_1[lit_b.getD i 0 + 1]? = some (.eq (.field (lit_t i) "java/lang/String" "coder" "B") (.int 0)) := by decide +kernel
theorem lit_w2 : ∀ i, i < 35 → fl_1[lit_b.getD i 0 + 2]? = some (.arrayOf (lit_v i) .byte) := by decide +kernel
theorem lit_w3 : ∀ i, i < 35 → fl_1[lit_b.getD i 0 + 3]? = some (.eq (.length (lit_v i)) (.int (Int32.ofNat (eg_tx i).length))) := by decide +kernel
theorem lit_w4 : ∀ i, i < 35 → ∀ j, j < (eg_tx i).length → fl_1[lit_b.getD i 0 + 4 + j]? = some (.eq (.elem (lit_v i) (.int (Int32.ofNat j))) (.int (Int32.ofInt ((eg_tx i).getD j 0)))) := by decide +kernel
theorem lit_l : ∀ i, i < 35 → (eg_tx i).length < 10 := by decide +kernel
theorem lit_r : ∀ i, i < 35 → lw_tbl[lit_p.getD i 0]? = (eg_lit[i]?).map (fun q => Cond.stringRef q.1 q.2.1 q.2.2) := by decide +kernel
theorem dig_1 : ∀ j, j < 100 → fl_1[12 + j]? = some (.eq (.elem (.static "java/lang/Integer" "DigitOnes" "[B") (.int (Int32.ofNat j))) (.int (Int32.ofInt (48 + (j % 10 : Nat))))) := by decide +kernel
theorem dig_2 : ∀ j, j < 100 → fl_1[115 + j]? = some (.eq (.elem (.static "java/lang/Integer" "DigitTens" "[B") (.int (Int32.ofNat j))) (.int (Int32.ofInt (48 + (j / 10 : Nat))))) := by decide +kernel
theorem st_S {args : Array Value} {s : State} (hf : ∀ w ∈ fl_1, w.before args s = true) (hts : ∀ w ∈ lw_tbl, w.before args s = true) {A : Nat → Prop} (hA : ∀ a : Nat, a < s.heap.size → ¬ A a) : ∃ sK sV : Nat → Nat, ∀ i, i < 35 → va_O "java/lang/String" (sK i) A s s.heap ∧ va_OF "java/lang/String" "coder" "B" (.int 0) (sK i) A s s.heap ∧ va_OF "java/lang/String" "value" "[B" (.ref (sV i)) (sK i) A s s.heap ∧ va_T .byte (sV i) (eg_tx i).length (fun j => vI ((eg_tx i).getD j 0)) A s s.heap ∧ ∀ q, eg_lit[i]? = some q → vk_R q.1 q.2.1 q.2.2 (sK i) s := by
  have h0 : ∀ i : Nat, ∃ r : Nat × Nat, i < 35 → va_O "java/lang/String" r.1 A s s.heap ∧ va_OF "java/lang/String" "coder" "B" (.int 0) r.1 A s s.heap ∧ va_OF "java/lang/String" "value" "[B" (.ref r.2) r.1 A s s.heap ∧ va_T .byte r.2 (eg_tx i).length (fun j => vI ((eg_tx i).getD j 0)) A s s.heap ∧ ∀ q, eg_lit[i]? = some q → vk_R q.1 q.2.1 q.2.2 r.1 s := by
    intro i
    by_cases hi : i < 35
    · have m0 := hf _ (List.mem_of_getElem? (lit_w0 i hi))
      have m1 := hf _ (List.mem_of_getElem? (lit_w1 i hi))
      have m2 := hf _ (List.mem_of_getElem? (lit_w2 i hi))
      have m3 := hf _ (List.mem_of_getElem? (lit_w3 i hi))
      have m4 := fun j hj => hf _ (List.mem_of_getElem? (lit_w4 i hi j hj))
      obtain ⟨a, c, cA, kA, q1, q2, q3, q4, q5, q6, -⟩ := Cond.exactly_spec (args := args) (first := s) (o := none) (s := s) (idx := []) (t := lit_t i) (cls := "java/lang/String") m0
      obtain ⟨t, ht, hT⟩ := va_Tof (f := fun j => vI ((eg_tx i).getD j 0)) (A := A) (Nat.lt_trans (lit_l i hi) (by decide)) m2 (va_eqt m3) (fun j hj => va_eqt (m4 j hj)) hA
      refine ⟨(a, t), fun _ => ⟨⟨cA, q3, q5, by rw [q6]; exact q2, hA a (Array.getElem?_eq_some_iff.mp q3).1⟩, vk_OFof q1 (va_eqt m1) hA, vk_OFof q1 ht hA, hT, fun q hq => ?_⟩⟩
      have e : lit_t i = .string q.1 q.2.1 := by unfold lit_t; rw [hq]
      rw [e] at q1
      have e2 := lit_r i hi
      rw [hq] at e2
      exact vk_R.of (hts _ (List.mem_of_getElem? e2)) q1
    · exact ⟨(0, 0), fun h => absurd h hi⟩
  obtain ⟨ad, had⟩ := Classical.axiomOfChoice h0
  exact ⟨fun i => (ad i).1, fun i => (ad i).2, fun i hi => had i hi⟩
theorem st_T {args : Array Value} {s : State} (hts : ∀ w ∈ lw_tbl, w.before args s = true) : ∀ w ∈ eg_T, w.before args s = true := by
  intro w hw
  rcases List.mem_append.mp (List.mem_filter.mp hw).1 with h | h
  · exact hts w h
  · obtain ⟨cC, kC, hfc, -⟩ := Cond.instantiable_spec (hts (.instantiable "java/lang/StringBuilder" 4) (List.mem_of_getElem? (i := 345) (by decide +kernel)))
    simp only [eg_X0, List.map, List.mem_cons, List.mem_nil_iff, or_false] at h
    rcases h with rfl | rfl | rfl | rfl
    · exact eg_selU (y := ⟨"java/lang/AbstractStringBuilder", "ensureCapacityInternal", "(I)V"⟩) hfc ⟨by decide, by decide⟩ (hts (.sameMethod "java/lang/AbstractStringBuilder" "java/lang/AbstractStringBuilder" "ensureCapacityInternal" "(I)V") (List.mem_of_getElem? (i := 1913) (by decide +kernel))) (hts (.privateMethod ⟨"java/lang/AbstractStringBuilder", "ensureCapacityInternal", "(I)V"⟩) (List.mem_of_getElem? (i := 1112) (by decide +kernel))) (hts (.instanceMethod ⟨"java/lang/AbstractStringBuilder", "ensureCapacityInternal", "(I)V"⟩) (List.mem_of_getElem? (i := 1113) (by decide +kernel)))
    · exact eg_selU (y := ⟨"java/lang/AbstractStringBuilder", "newCapacity", "(I)I"⟩) hfc ⟨by decide, by decide⟩ (hts (.sameMethod "java/lang/AbstractStringBuilder" "java/lang/AbstractStringBuilder" "newCapacity" "(I)I") (List.mem_of_getElem? (i := 1914) (by decide +kernel))) (hts (.privateMethod ⟨"java/lang/AbstractStringBuilder", "newCapacity", "(I)I"⟩) (List.mem_of_getElem? (i := 1116) (by decide +kernel))) (hts (.instanceMethod ⟨"java/lang/AbstractStringBuilder", "newCapacity", "(I)I"⟩) (List.mem_of_getElem? (i := 1117) (by decide +kernel)))
    · exact eg_selU (y := ⟨"java/lang/AbstractStringBuilder", "putStringAt", "(ILjava/lang/String;)V"⟩) hfc ⟨by decide, by decide⟩ (hts (.sameMethod "java/lang/AbstractStringBuilder" "java/lang/AbstractStringBuilder" "putStringAt" "(ILjava/lang/String;)V") (List.mem_of_getElem? (i := 1917) (by decide +kernel))) (hts (.privateMethod ⟨"java/lang/AbstractStringBuilder", "putStringAt", "(ILjava/lang/String;)V"⟩) (List.mem_of_getElem? (i := 1188) (by decide +kernel))) (hts (.instanceMethod ⟨"java/lang/AbstractStringBuilder", "putStringAt", "(ILjava/lang/String;)V"⟩) (List.mem_of_getElem? (i := 1189) (by decide +kernel)))
    · exact eg_selU (y := ⟨"java/lang/AbstractStringBuilder", "inflateIfNeededFor", "(Ljava/lang/String;)V"⟩) hfc ⟨by decide, by decide⟩ (hts (.sameMethod "java/lang/AbstractStringBuilder" "java/lang/AbstractStringBuilder" "inflateIfNeededFor" "(Ljava/lang/String;)V") (List.mem_of_getElem? (i := 1918) (by decide +kernel))) (hts (.privateMethod ⟨"java/lang/AbstractStringBuilder", "inflateIfNeededFor", "(Ljava/lang/String;)V"⟩) (List.mem_of_getElem? (i := 1192) (by decide +kernel))) (hts (.instanceMethod ⟨"java/lang/AbstractStringBuilder", "inflateIfNeededFor", "(Ljava/lang/String;)V"⟩) (List.mem_of_getElem? (i := 1193) (by decide +kernel)))
theorem st_K {args : Array Value} {s : State} (hts : ∀ w ∈ lw_tbl, w.before args s = true) : ∃ (D : va_G) (B : Nat → ClassId), va_K D vwCl [(B 0, .int), (B 1, .long), (B 2, .byte), (B 3, .boolean), (B 4, .object "GasNominations$Pipe")] s := by
  have hT := st_T hts
  obtain ⟨c0, i0, hk0⟩ := u_known (C := RJ4) (T := TJ4) (N := 4) (n := 4) hT cl_J4.2.1 (hts (.instantiable RJ4 4) (List.mem_of_getElem? (i := 345) (by decide +kernel)))
  obtain ⟨c1, i1, hk1⟩ := u_known (C := RX0) (T := TX0) (N := 3) (n := 3) hT cl_X0.2.1 (hts (.instantiable RX0 3) (List.mem_of_getElem? (i := 274) (by decide +kernel)))
  obtain ⟨c2, i2, hk2⟩ := u_known (C := RX1) (T := TX1) (N := 3) (n := 3) hT cl_X1.2.1 (hts (.instantiable RX1 3) (List.mem_of_getElem? (i := 381) (by decide +kernel)))
  obtain ⟨c3, i3, hk3⟩ := u_known (C := RX2) (T := TX2) (N := 11) (n := 11) hT cl_X2.2.1 (hts (.instantiable RX2 11) (List.mem_of_getElem? (i := 138) (by decide +kernel)))
  obtain ⟨c4, i4, hk4⟩ := u_known (C := RX3) (T := TX3) (N := 6) (n := 6) hT cl_X3.2.1 (hts (.instantiable RX3 6) (List.mem_of_getElem? (i := 294) (by decide +kernel)))
  obtain ⟨c5, i5, hk5⟩ := u_known (C := RX4) (T := TX4) (N := 9) (n := 9) hT cl_X4.2.1 (hts (.instantiable RX4 9) (List.mem_of_getElem? (i := 237) (by decide +kernel)))
  obtain ⟨c6, i6, hk6⟩ := u_known (C := RX5) (T := TX5) (N := 4) (n := 4) hT cl_X5.2.1 (hts (.instantiable RX5 4) (List.mem_of_getElem? (i := 144) (by decide +kernel)))
  obtain ⟨c7, i7, hk7⟩ := u_known (C := RX6) (T := TX6) (N := 2) (n := 2) hT cl_X6.2.1 (hts (.instantiable RX6 2) (List.mem_of_getElem? (i := 300) (by decide +kernel)))
  obtain ⟨c8, i8, hk8⟩ := u_known (C := RX7) (T := TX7) (N := 1) (n := 1) hT cl_X7.2.1 (hts (.instantiable RX7 1) (List.mem_of_getElem? (i := 339) (by decide +kernel)))
  obtain ⟨c9, i9, hk9⟩ := u_known (C := RX8) (T := TX8) (N := 9) (n := 9) hT cl_X8.2.1 (hts (.instantiable RX8 9) (List.mem_of_getElem? (i := 130) (by decide +kernel)))
  obtain ⟨c10, i10, hk10⟩ := u_known (C := RX9) (T := TX9) (N := 21) (n := 21) hT cl_X9.2.1 (hts (.instantiable RX9 21) (List.mem_of_getElem? (i := 1318) (by decide +kernel)))
  obtain ⟨a0, k0, m0, u0, v0, w0⟩ := Cond.arrayClass_spec (hT _ ka_int)
  obtain ⟨a1, k1, m1, u1, v1, w1⟩ := Cond.arrayClass_spec (hT _ ka_long)
  obtain ⟨a2, k2, m2, u2, v2, w2⟩ := Cond.arrayClass_spec (hT _ ka_byte)
  obtain ⟨a3, k3, m3, u3, v3, w3⟩ := Cond.arrayClass_spec (hT _ ka_boolean)
  obtain ⟨m4, a4, k4, u4, -, v4, w4, x4⟩ := Cond.arrayOver_spec (hts (.arrayOver (.object "GasNominations$Pipe")) (List.mem_of_getElem? (i := 280) (by decide +kernel)))
  refine ⟨(fun j => [c0, c1, c2, c3, c4, c5, c6, c7, c8, c9, c10].getD j c0, fun j => [i0, i1, i2, i3, i4, i5, i6, i7, i8, i9, i10].getD j i0), fun j => [a0, a1, a2, a3, a4].getD j a0, fun c q hq => ?_, fun c q hq => ?_⟩
  · match c, hq with
    | 0, hq => cases hq; exact hk0
    | 1, hq => cases hq; exact hk1
    | 2, hq => cases hq; exact hk2
    | 3, hq => cases hq; exact hk3
    | 4, hq => cases hq; exact hk4
    | 5, hq => cases hq; exact hk5
    | 6, hq => cases hq; exact hk6
    | 7, hq => cases hq; exact hk7
    | 8, hq => cases hq; exact hk8
    | 9, hq => cases hq; exact hk9
    | 10, hq => cases hq; exact hk10
    | c + 11, hq => cases hq
  · match c, hq with
    | 0, hq => cases hq; exact ⟨fun n z => ⟨(fun k h => by cases h), k0, v0, m0, w0⟩, u0⟩
    | 1, hq => cases hq; exact ⟨fun n z => ⟨(fun k h => by cases h), k1, v1, m1, w1⟩, u1⟩
    | 2, hq => cases hq; exact ⟨fun n z => ⟨(fun k h => by cases h), k2, v2, m2, w2⟩, u2⟩
    | 3, hq => cases hq; exact ⟨fun n z => ⟨(fun k h => by cases h), k3, v3, m3, w3⟩, u3⟩
    | 4, hq => cases hq; exact ⟨fun n z => ⟨(fun k h => by cases h), k4, v4, m4, w4⟩, k4, m4, v4, w4, u4, x4⟩
    | c + 5, hq => cases hq
theorem st_N {args : Array Value} {s : State} (hts : ∀ w ∈ lw_tbl, w.before args s = true) : ∀ w ∈ eg_N, va_Nw w s := by
  intro w hw
  simp only [eg_N, List.mem_cons, List.mem_nil_iff, or_false] at hw
  rcases hw with rfl | rfl | rfl | rfl | rfl | rfl | rfl | rfl | rfl | rfl | rfl | rfl
  · exact va_Nw.of rfl (hts _ (List.mem_of_getElem? (i := 139) (by decide +kernel)))
  · exact va_Nw.of rfl (hts _ (List.mem_of_getElem? (i := 238) (by decide +kernel)))
  · exact va_Nw.of rfl (hts _ (List.mem_of_getElem? (i := 281) (by decide +kernel)))
  · exact va_Nw.of rfl (hts _ (List.mem_of_getElem? (i := 295) (by decide +kernel)))
  · exact va_Nw.of rfl (hts _ (List.mem_of_getElem? (i := 301) (by decide +kernel)))
  · exact va_Nw.of rfl (hts _ (List.mem_of_getElem? (i := 316) (by decide +kernel)))
  · exact va_Nw.of rfl (hts _ (List.mem_of_getElem? (i := 340) (by decide +kernel)))
  · exact va_Nw.of rfl (hts _ (List.mem_of_getElem? (i := 382) (by decide +kernel)))
  · exact va_Nw.of rfl (hts _ (List.mem_of_getElem? (i := 545) (by decide +kernel)))
  · exact va_Nw.of rfl (hts _ (List.mem_of_getElem? (i := 653) (by decide +kernel)))
  · exact va_Nw.of rfl (hts _ (List.mem_of_getElem? (i := 895) (by decide +kernel)))
  · exact va_Nw.of rfl (hts _ (List.mem_of_getElem? (i := 1072) (by decide +kernel)))
theorem st_V {args : Array Value} {s : State} {b L : Nat} {xs : Nat → Int32} (l : Launch) (hts : ∀ w ∈ lw_tbl, w.before args s = true) (hgv : (Jvm.Cond.and given_1 narrow_1).before args s = true) (hX : va_X b L xs s s.heap) (hbl : b < s.heap.size) : ∃ k : eg_K, eg_l k = l ∧ eg_H k = s.heap ∧ eg_sb k = b ∧ eg_sl k = L ∧ eg_V k s := by
  have hf : ∀ w ∈ fl_1, w.before args s = true := flat_of_before _ hgv
  have hA : ∀ a : Nat, a < s.heap.size → ¬ (fun q : Nat => s.heap.size ≤ q) a := fun a h => Nat.not_le.mpr h
  obtain ⟨D, B, hK⟩ := st_K hts
  obtain ⟨sK, sV, hS⟩ := st_S hf hts hA
  obtain ⟨t1, e1, hT1⟩ := va_Tof (tm := .static "java/lang/Integer" "DigitOnes" "[B") (ty := .byte) (N := 100) (f := fun j => vI (48 + (j % 10 : Nat))) (A := fun q : Nat => s.heap.size ≤ q) (by decide) (hf (.arrayOf (.static "java/lang/Integer" "DigitOnes" "[B") .byte) (List.mem_of_getElem? (i := 10) (by decide +kernel))) (va_eqt (hf (.eq (.length (.static "java/lang/Integer" "DigitOnes" "[B")) (.int (Int32.ofNat 100))) (List.mem_of_getElem? (i := 11) (by decide +kernel)))) (fun j hj => va_eqt (hf _ (List.mem_of_getElem? (dig_1 j hj)))) hA
  obtain ⟨t2, e2, hT2⟩ := va_Tof (tm := .static "java/lang/Integer" "DigitTens" "[B") (ty := .byte) (N := 100) (f := fun j => vI (48 + (j / 10 : Nat))) (A := fun q : Nat => s.heap.size ≤ q) (by decide) (hf (.arrayOf (.static "java/lang/Integer" "DigitTens" "[B") .byte) (List.mem_of_getElem? (i := 113) (by decide +kernel))) (va_eqt (hf (.eq (.length (.static "java/lang/Integer" "DigitTens" "[B")) (.int (Int32.ofNat 100))) (List.mem_of_getElem? (i := 114) (by decide +kernel)))) (fun j hj => va_eqt (hf _ (List.mem_of_getElem? (dig_2 j hj)))) hA
  have z1 := va_Zof (hts (.laysStatic "java/lang/String" "COMPACT_STRINGS" "Z") (List.mem_of_getElem? (i := 354) (by decide +kernel))) (hts (.initialized "java/lang/String") (List.mem_of_getElem? (i := 118) (by decide +kernel))) (va_eqt (hf (.eq (.static "java/lang/String" "COMPACT_STRINGS" "Z") (.int 1)) (List.mem_of_getElem? (i := 4) (by decide +kernel)))) hA
  have z2 := va_Zqof (hts (.laysStatic "jdk/internal/util/Preconditions" "SIOOBE_FORMATTER" "Ljava/util/function/BiFunction;") (List.mem_of_getElem? (i := 507) (by decide +kernel))) (hts (.initialized "jdk/internal/util/Preconditions") (List.mem_of_getElem? (i := 124) (by decide +kernel))) (hf (.isRef (.static "jdk/internal/util/Preconditions" "SIOOBE_FORMATTER" "Ljava/util/function/BiFunction;")) (List.mem_of_getElem? (i := 5) (by decide +kernel))) hA
  have z3 := va_Zref (hts (.laysStatic "java/lang/Integer" "DigitOnes" "[B") (List.mem_of_getElem? (i := 1252) (by decide +kernel))) (hts (.initialized "java/lang/Integer") (List.mem_of_getElem? (i := 127) (by decide +kernel))) e1 hA
  have z4 := va_Zref (hts (.laysStatic "java/lang/Integer" "DigitTens" "[B") (List.mem_of_getElem? (i := 1254) (by decide +kernel))) (hts (.initialized "java/lang/Integer") (List.mem_of_getElem? (i := 127) (by decide +kernel))) e2 hA
  exact ⟨(l, s.heap, D, B, sK, sV, t1, t2, b, L, xs), rfl, rfl, rfl, rfl, hK, st_N hts, hS, ⟨z1, z2, z3, hT1, z4, hT2, hX, hbl⟩, va_AO.of (hts (.arrayOver (.object "GasNominations$Pipe")) (List.mem_of_getElem? (i := 280) (by decide +kernel)))⟩
