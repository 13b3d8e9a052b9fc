/-! A SECOND-LEVEL LOGIC over the kit's W: memory is a function from cell numbers to cells, our cells lie one behind another from eg_B k on; nothing of the frame, heap, room and words is seen in a walk. -/
abbrev eg_K : Type := Launch × Heap × va_G × (Nat → ClassId) × (Nat → Nat) × (Nat → Nat) × Nat × Nat × Nat × Nat × (Nat → Int32)
def eg_l (k : eg_K) : Launch := k.1
def eg_H (k : eg_K) : Heap := k.2.1
def eg_B (k : eg_K) : Nat := k.2.1.size
def eg_D (k : eg_K) : va_G := k.2.2.1
def eg_A (k : eg_K) : Nat → ClassId := k.2.2.2.1
def eg_sK (k : eg_K) : Nat → Nat := k.2.2.2.2.1
def eg_sV (k : eg_K) : Nat → Nat := k.2.2.2.2.2.1
def eg_d1 (k : eg_K) : Nat := k.2.2.2.2.2.2.1
def eg_d2 (k : eg_K) : Nat := k.2.2.2.2.2.2.2.1
/-- the script: its cell, how long it is, what it holds -/
def eg_sb (k : eg_K) : Nat := k.2.2.2.2.2.2.2.2.1
def eg_sl (k : eg_K) : Nat := k.2.2.2.2.2.2.2.2.2.1
def eg_sx (k : eg_K) : Nat → Int32 := k.2.2.2.2.2.2.2.2.2.2
abbrev eg_M : Type := Nat → Option va_E
abbrev eg_Q : Type := Option Value → Nat → eg_M → Prop
def eg_tys (k : eg_K) : List (ClassId × FieldType) := [(eg_A k 0, .int), (eg_A k 1, .long), (eg_A k 2, .byte), (eg_A k 3, .boolean), (eg_A k 4, .object "GasNominations$Pipe")]
/-- values: ints and longs by the number that they stand for, our cells by their number -/
def vI (x : Int) : Value := .int (Int32.ofInt x)
def vL (x : Int) : Value := .long (Int64.ofInt x)
def vR (k : eg_K) (i : Nat) : Value := .ref (eg_B k + i)
def vU : Value := .retAddr 0
def aI (k : eg_K) (n : Nat) (f : Nat → Int) : va_E := .inl (eg_A k 0, n, .inl (fun j => Int32.ofInt (f j)))
def aL (k : eg_K) (n : Nat) (f : Nat → Int) : va_E := .inl (eg_A k 1, n, .inr (.inl (fun j => Int64.ofInt (f j))))
def aB (k : eg_K) (n : Nat) (f : Nat → Int) : va_E := .inl (eg_A k 2, n, .inl (fun j => Int32.ofInt (f j)))
def aZ (k : eg_K) (n : Nat) (f : Nat → Int) : va_E := .inl (eg_A k 3, n, .inl (fun j => Int32.ofInt (f j)))
def aP (k : eg_K) (n : Nat) (f : Nat → Option Nat) : va_E := .inl (eg_A k 4, n, .inr (.inr (.inr (.inr (fun j => (f j).map (fun i => eg_B k + i))))))
def oO (c : Nat) (fs : List Value) : va_E := .inr (c, fs)
/-- the world: n cells of ours, what they hold; below them nothing has changed -/
def eg_W (k : eg_K) (n : Nat) (M : eg_M) (H : Heap) : Prop := H.size = eg_B k + n ∧ (∀ q, q < eg_B k → H[q]? = (eg_H k)[q]?) ∧ ∀ i e, M i = some e → va_at (eg_D k) vwCl (eg_B k + i, e) H
/-- private methods of AbstractStringBuilder on a StringBuilder -/
def eg_X0 : List Cond := ([("ensureCapacityInternal", "(I)V"), ("newCapacity", "(I)I"), ("putStringAt", "(ILjava/lang/String;)V"), ("inflateIfNeededFor", "(Ljava/lang/String;)V")] : List (String × String)).map (fun q => Cond.selects "java/lang/StringBuilder" ⟨"java/lang/AbstractStringBuilder", q.1, q.2⟩ ⟨"java/lang/AbstractStringBuilder", q.1, q.2⟩)
/-- the words of the tables that hold at every start -/
def eg_T : List Cond := (lw_tbl ++ eg_X0).filter goodWord
def eg_N : List Cond := [.methodLinkNest "GasNominations" 11 ⟨"GasNominations$Pipe", "<init>", "()V"⟩ "GasNominations", .methodLinkNest "GasNominations" 21 ⟨"GasNominations$Schedule", "<init>", "()V"⟩ "GasNominations", .methodLinkNest "GasNominations$History" 24 ⟨"GasNominations$Pipe", "<init>", "()V"⟩ "GasNominations", .methodLinkNest "GasNominations" 43 ⟨"GasNominations$Reader", "<init>", "()V"⟩ "GasNominations", .methodLinkNest "GasNominations$Reader" 11 ⟨"GasNominations$Tape", "<init>", "()V"⟩ "GasNominations", .methodLinkNest "GasNominations$Reader" 20 ⟨"GasNominations$Pipe", "<init>", "()V"⟩ "GasNominations", .methodLinkNest "GasNominations" 50 ⟨"GasNominations$Writer", "<init>", "()V"⟩ "GasNominations", .methodLinkNest "GasNominations" 57 ⟨"GasNominations$Netting", "<init>", "()V"⟩ "GasNominations", .methodLinkNest "GasNominations$Reader" 83 ⟨"GasNominations", "within", "(III)Z"⟩ "GasNominations", .methodLinkNest "GasNominations$Pipe" 93 ⟨"GasNominations", "within", "(III)Z"⟩ "GasNominations", .methodLinkNest "GasNominations$Schedule" 128 ⟨"GasNominations", "within", "(III)Z"⟩ "GasNominations", .methodLinkNest "GasNominations$Netting" 61 ⟨"GasNominations", "within", "(III)Z"⟩ "GasNominations"]
/-- the literals: class, entry, text -/
def eg_lit : List (String × Nat × String) := [("GasNominations$Reader", 94, "hubs"), ("GasNominations$Reader", 118, "segment"), ("GasNominations$Reader", 123, "in"), ("GasNominations$Reader", 129, "out"), ("GasNominations$Reader", 131, "shipper"), ("GasNominations$Reader", 136, "nom"), ("GasNominations$Reader", 142, "park"), ("GasNominations$Reader", 144, "loan"), ("GasNominations$Reader", 146, "price"), ("GasNominations$Writer", 28, "hubs"), ("GasNominations$Writer", 53, "price"), ("GasNominations$Writer", 79, "segment"), ("GasNominations$Writer", 92, "in"), ("GasNominations$Writer", 94, "out"), ("GasNominations$Writer", 103, "shipper"), ("GasNominations$Writer", 108, "loan"), ("GasNominations$Writer", 110, "park"), ("GasNominations$Writer", 115, "nom"), ("GasNominationsModel", 129, "in"), ("GasNominationsModel", 134, "out"), ("GasNominationsModel", 136, "shipper"), ("GasNominationsModel", 138, "nom"), ("GasNominationsModel", 140, "park"), ("GasNominationsModel", 142, "loan"), ("GasNominationsModel", 144, "segment"), ("GasNominationsModel", 163, "price"), ("GasNominationsModel", 165, "hubs"), ("GasNominationsModel", 387, ";park"), ("GasNominationsModel", 389, ";loan"), ("GasNominationsModel", 391, ";nom"), ("GasNominationsModel", 400, ";segment"), ("GasNominationsModel", 402, ";in"), ("GasNominationsModel", 404, ";out"), ("GasNominationsModel", 406, ";shipper"), ("GasNominationsModel", 411, ";price")]
/-- a text's letters, as numbers -/
def eg_chs (t : String) : List Int := t.toList.map (fun c => (c.toNat : Int))
def eg_tx (i : Nat) : List Int := match eg_lit[i]? with
  | some q => eg_chs q.2.2
  | none => []
def eg_Up (k : eg_K) : Nat → Prop := fun q => eg_B k ≤ q
def eg_str (k : eg_K) (s : State) (i : Nat) : Prop :=
  va_O "java/lang/String" (eg_sK k i) (eg_Up k) s (eg_H k) ∧ va_OF "java/lang/String" "coder" "B" (.int 0) (eg_sK k i) (eg_Up k) s (eg_H k) ∧ va_OF "java/lang/String" "value" "[B" (.ref (eg_sV k i)) (eg_sK k i) (eg_Up k) s (eg_H k) ∧ va_T .byte (eg_sV k i) (eg_tx i).length (fun j => vI ((eg_tx i).getD j 0)) (eg_Up k) s (eg_H k) ∧ ∀ q, eg_lit[i]? = some q → vk_R q.1 q.2.1 q.2.2 (eg_sK k i) s
def eg_sta (k : eg_K) (s : State) : Prop :=
  va_Z "java/lang/String" "COMPACT_STRINGS" "Z" (.int 1) (eg_Up k) s (eg_H k) ∧ va_Zq "jdk/internal/util/Preconditions" "SIOOBE_FORMATTER" "Ljava/util/function/BiFunction;" (eg_Up k) s (eg_H k) ∧
  va_Z "java/lang/Integer" "DigitOnes" "[B" (.ref (eg_d1 k)) (eg_Up k) s (eg_H k) ∧ va_T .byte (eg_d1 k) 100 (fun j => vI (48 + (j % 10 : Nat))) (eg_Up k) s (eg_H k) ∧
  va_Z "java/lang/Integer" "DigitTens" "[B" (.ref (eg_d2 k)) (eg_Up k) s (eg_H k) ∧ va_T .byte (eg_d2 k) 100 (fun j => vI (48 + (j / 10 : Nat))) (eg_Up k) s (eg_H k) ∧
  va_X (eg_sb k) (eg_sl k) (eg_sx k) s (eg_H k) ∧ eg_sb k < eg_B k
def eg_V (k : eg_K) (s : State) : Prop := va_K (eg_D k) vwCl (eg_tys k) s ∧ (∀ w ∈ eg_N, va_Nw w s) ∧ (∀ i, i < 35 → eg_str k s i) ∧ eg_sta k s ∧ va_AO "GasNominations$Pipe" s
theorem eg_str.warm {k : eg_K} {s U : State} {i : Nat} (hW : s.WarmedH U.vm) (h : eg_str k s i) : eg_str k U i :=
  ⟨va_O.moved hW.alike h.1, va_OF.moved hW.alike h.2.1, va_OF.moved hW.alike h.2.2.1, va_T.moved hW.alike h.2.2.2.1, fun q hq => vk_R.warm hW (h.2.2.2.2 q hq)⟩
theorem eg_str.same {k : eg_K} {s U : State} {i : Nat} (hv : U.vm = s.vm) (h : eg_str k s i) : eg_str k U i := by
  have hA : s.vm.Alike U.vm := by rw [hv]; exact Vm.Alike.refl _
  exact ⟨va_O.moved hA h.1, va_OF.moved hA h.2.1, va_OF.moved hA h.2.2.1, va_T.moved hA h.2.2.2.1, fun q hq => vk_R.same hv (h.2.2.2.2 q hq)⟩
theorem eg_sta.moved {k : eg_K} {s U : State} (hA : s.vm.Alike U.vm) (h : eg_sta k s) : eg_sta k U :=
  ⟨va_Z.moved hA h.1, va_Zq.moved hA h.2.1, va_Z.moved hA h.2.2.1, va_T.moved hA h.2.2.2.1, va_Z.moved hA h.2.2.2.2.1, va_T.moved hA h.2.2.2.2.2.1, va_X.moved hA h.2.2.2.2.2.2.1, h.2.2.2.2.2.2.2⟩
theorem eg_N_warm {s U : State} (hW : s.WarmedH U.vm) (h : ∀ w ∈ eg_N, va_Nw w s) : ∀ w ∈ eg_N, va_Nw w U := by
  intro w hw
  have h1 := h w hw
  simp only [eg_N, List.mem_cons, List.mem_nil_iff, or_false] at hw
  rcases hw with rfl | rfl | rfl | rfl | rfl | rfl | rfl | rfl | rfl | rfl | rfl | rfl <;> exact va_Nw.warmM hW h1
theorem eg_N_same {s U : State} (hv : s.vm = U.vm) (h : ∀ w ∈ eg_N, va_Nw w s) : ∀ w ∈ eg_N, va_Nw w U := by
  intro w hw
  have h1 := h w hw
  simp only [eg_N, List.mem_cons, List.mem_nil_iff, or_false] at hw
  rcases hw with rfl | rfl | rfl | rfl | rfl | rfl | rfl | rfl | rfl | rfl | rfl | rfl <;> exact va_Nw.same rfl hv h1
theorem eg_V.warm {k : eg_K} {s U : State} (hW : s.WarmedH U.vm) (h : eg_V k s) : eg_V k U :=
  ⟨va_K.moved hW.alike h.1, eg_N_warm hW h.2.1, fun i hi => (h.2.2.1 i hi).warm hW, h.2.2.2.1.moved hW.alike, va_AO.moved hW.alike h.2.2.2.2⟩
theorem eg_V.same {k : eg_K} {s U : State} (hv : U.vm = s.vm) (h : eg_V k s) : eg_V k U := by
  have hA : s.vm.Alike U.vm := by rw [hv]; exact Vm.Alike.refl _
  exact ⟨va_K.moved hA h.1, eg_N_same hv.symm h.2.1, fun i hi => (h.2.2.1 i hi).same hv, h.2.2.2.1.moved hA, va_AO.moved hA h.2.2.2.2⟩
theorem eg_W.set {k : eg_K} {n : Nat} {M : eg_M} {H H1 : Heap} {i : Nat} {e : va_E} (h : eg_W k n M H) (hz : H1.size = H.size) (ho : ∀ q, q ≠ eg_B k + i → H1[q]? = H[q]?) (he : va_at (eg_D k) vwCl (eg_B k + i, e) H1) : eg_W k n (va_up M i (some e)) H1 := by
  refine ⟨by rw [hz]; exact h.1, fun q hq => by rw [ho q (by omega)]; exact h.2.1 q hq, fun j x hj => ?_⟩
  by_cases hji : j = i
  · subst hji
    simp only [va_up, if_true] at hj
    cases hj
    exact he
  · simp only [va_up, if_neg hji] at hj
    exact (h.2.2 j x hj).kept (ho _ (by show eg_B k + j ≠ _; omega))
theorem eg_W.push {k : eg_K} {n : Nat} {M : eg_M} {H H1 : Heap} {e : va_E} (h : eg_W k n M H) (hz : H1.size = H.size + 1) (ho : ∀ q, q < H.size → H1[q]? = H[q]?) (he : va_at (eg_D k) vwCl (eg_B k + n, e) H1) : eg_W k (n + 1) (va_up M n (some e)) H1 := by
  have h1 := h.1
  refine ⟨by rw [hz, h1]; omega, fun q hq => by rw [ho q (by omega)]; exact h.2.1 q hq, fun j x hj => ?_⟩
  by_cases hji : j = n
  · subst hji
    simp only [va_up, if_true] at hj
    cases hj
    exact he
  · simp only [va_up, if_neg hji] at hj
    have h2 := h.2.2 j x hj
    exact h2.kept (ho _ h2.lt)
/-- a method: its name, code, locals, what it returns -/
abbrev eg_G : Type := MethodName × ByteArray × Nat × Option FieldType
def eg_ws (g : eg_G) : List Cond := Cond.code g.1 g.2.1 g.2.2.1 g.2.2.2 :: eg_T
def eg_rm (d mc ms : Nat) : Room := { frames := d, cells := mc, slots := ms, locals := d * 100 }
/-- what is fixed while a method runs -/
def eg_C (k : eg_K) (g : eg_G) (d : Nat) (p : Program) (R : Room) (s : State) (m : MethodId) (args : Array Value) (meth : Method) (c : Code) : Prop :=
  p.tables.exec = Jvm.exec ∧ c.code = g.2.1 ∧ c.maxLocals = g.2.2.1 ∧ meth.name = g.1.name ∧ s.vm.findClass g.1.cls = some m.cls ∧ (∀ w ∈ eg_T, w.before args s = true) ∧ eg_V k s ∧ (eg_B k ≤ s.heap.size ∧ ∀ q, q < eg_B k → s.heap[q]? = (eg_H k)[q]?) ∧ d ≤ R.frames ∧ d * 100 ≤ R.locals
/-- the locals -/
def eg_un : Value → Bool
  | .retAddr _ => true
  | _ => false
def eg_L (sl : Array Slot) (nL : Nat) (ls : List Value) : Prop := ls.length = nL ∧ sl.size = nL ∧ lv_wf sl ∧ ∀ (i : Nat) (v : Value), ls[i]? = some v → eg_un v = false → sl[i]? = some (Slot.val v)
/-- an end: the instruction at pc returns r -/
def eg_rd (g : eg_G) (pc : Nat) (r : Option Value) : Prop :=
  (∃ v ty, r = some (.int v) ∧ decode g.2.1 pc = .ok (.ireturn, 1) ∧ g.2.2.2 = some ty ∧ narrow ty (.int v) = .int v) ∨ (∃ v, r = some (.long v) ∧ decode g.2.1 pc = .ok (.lreturn, 1) ∧ g.2.2.2 = some .long) ∨ (∃ a nm, r = some (.ref a) ∧ decode g.2.1 pc = .ok (.areturn, 1) ∧ g.2.2.2 = some nm ∧ ((∃ n, nm = .object n) ∨ ∃ t, nm = .array t)) ∨ (r = none ∧ decode g.2.1 pc = .ok (.return_, 1) ∧ g.2.2.2 = none)
/-- THE JUDGEMENT: from pc on, with these locals, stack and memory, the method comes to an end with Q; bc, bs: how many cells and slots it may still make -/
def eg_E (k : eg_K) (g : eg_G) (d bc bs n : Nat) (M : eg_M) (ls st : List Value) (pc : Nat) (Q : eg_Q) : Prop :=
  ∀ (p : Program) (e : Env) (R : Room) (s : State) (m : MethodId) (args : Array Value) (below : List Frame) (meth : Method) (c : Code) (H : Heap) (locs : List Loc) (cells slots : Nat) (sl : Array Slot) (Z : State → Prop),
    eg_C k g d p R s m args meth c → eg_W k n M H → s.heap.size ≤ H.size → (∀ q ∈ locs, eg_B k ≤ q.base) → eg_L sl g.2.2.1 ls → cells + bc ≤ R.cells → slots + bs ≤ R.slots →
    (∀ (H' : Heap) (locs' : List Loc) (sl' : Array Slot) (n' : Nat) (M' : eg_M) (r : Option Value) (pc' : Nat), eg_W k n' M' H' → s.heap.size ≤ H'.size → (∀ q ∈ locs', eg_B k ≤ q.base) → Q r n' M' → eg_rd g pc' r →
      W p (eg_l k) e R s m args below meth c H' locs' (cells + bc) (slots + bs) Z (F0 m pc' sl' r.toList)) →
    W p (eg_l k) e R s m args below meth c H locs cells slots Z (F0 m pc sl st)
/-- A CONTRACT -/
def eg_P (k : eg_K) (g : eg_G) (d mc ms : Nat) (as : List Value) (n : Nat) (M : eg_M) (Q : eg_Q) : Prop :=
  Met (eg_l k) g.1 (eg_ws g) (eg_rm d mc ms) (va_Pc as (fun U => eg_V k U ∧ eg_W k n M U.heap)) (fun _ st o t => st.heap.size ≤ t.heap.size ∧ ∃ r n' M', o = .returned r ∧ Q r n' M' ∧ eg_W k n' M' t.heap) mc ms (eg_Up k)
/-- the answer and the memory behind it are known -/
def eg_f (r : Option Value) (n : Nat) (M : eg_M) : eg_Q := fun a b c => a = r ∧ b = n ∧ c = M
