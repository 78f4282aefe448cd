/-! A METHOD: class, code, locals, what it answers, name; for the law: its script -/
abbrev MI : Type := String × ByteArray × Nat × Option FieldType × MethodName × Option (Nat × (Nat → Int))
def μo (μ : MI) : String := μ.1
def μc (μ : MI) : ByteArray := μ.2.1
def μn (μ : MI) : Nat := μ.2.2.1
def μr (μ : MI) : Option FieldType := μ.2.2.2.1
def μy (μ : MI) : MethodName := μ.2.2.2.2.1
def μs (μ : MI) : Option (Nat × (Nat → Int)) := μ.2.2.2.2.2
def kS (i : Nat) : Nat := SC + 2 * i + 1
def kB (i : Nat) : Nat := SC + 2 * i + 2
/-- what lies outside, as a method finds it -/
def Out (A : Nat → Prop) (ad : Nat → Nat) (S : Nat × (Nat → Int)) (s : State) : Prop :=
  va_T .int (ad SC) S.1 (fun j => .int (Int32.ofInt (S.2 j))) A s s.heap ∧ vk_S 24 litL litV (fun i => ad (kS i)) (fun i => ad (kB i)) A s s.heap ∧ (∀ i, i < 24 → vk_R RL (litP.getD i 0) (litT.getD i "") (ad (kS i)) s) ∧
  va_Z RJ0 "COMPACT_STRINGS" "Z" (.int 1) A s s.heap ∧ va_Z RJ6 "DigitOnes" "[B" (.ref (ad (SC + 49))) A s s.heap ∧ va_Z RJ6 "DigitTens" "[B" (.ref (ad (SC + 50))) A s s.heap ∧
  va_T .byte (ad (SC + 49)) 100 (fun j => .int (Int32.ofInt (outI (SC + 49) j))) A s s.heap ∧ va_T .byte (ad (SC + 50)) 100 (fun j => .int (Int32.ofInt (outI (SC + 50) j))) A s s.heap ∧
  ∃ x : Option Nat, (x = none ∨ x = some (SC + 51)) ∧ va_Z "jdk/internal/util/Preconditions" "SIOOBE_FORMATTER" "Ljava/util/function/BiFunction;" (va_rf (x.map ad)) A s s.heap
theorem isOut_kS {i : Nat} (h : i < 24) : isOut (kS i) := by unfold isOut kS; omega
theorem isOut_kB {i : Nat} (h : i < 24) : isOut (kB i) := by unfold isOut kB; omega
theorem isOut_SC : isOut SC := by unfold isOut; omega
theorem isOut_c (k : Nat) (h : k < 52) : isOut (SC + k) := by unfold isOut; omega
theorem vk_S.ext {N : Nat} {len : List Nat} {byt : List (List Int32)} {a1 a2 b1 b2 : Nat → Nat} {A : Nat → Prop} {U : State} {H : Heap} (h : vk_S N len byt a1 a2 A U H) (e1 : ∀ i, i < N → b1 i = a1 i) (e2 : ∀ i, i < N → b2 i = a2 i) : vk_S N len byt b1 b2 A U H :=
  ⟨fun i hi => by rw [e1 i hi, e2 i hi]; exact h.1 i hi, fun i j hi hj e => h.2 i j hi hj (by rw [← e1 i hi, ← e1 j hj]; exact e)⟩
theorem Out.ad {A : Nat → Prop} {ad ad' : Nat → Nat} {S : Nat × (Nat → Int)} {s : State} (h : Out A ad S s) (e : ∀ o, isOut o → ad' o = ad o) : Out A ad' S s := by
  obtain ⟨h1, h2, h3, h4, h5, h6, h7, h8, x, h9, h10⟩ := h
  have e49 := e _ (isOut_c 49 (by decide))
  have e50 := e _ (isOut_c 50 (by decide))
  refine ⟨by rw [e _ isOut_SC]; exact h1, h2.ext (fun i hi => e _ (isOut_kS hi)) (fun i hi => e _ (isOut_kB hi)), fun i hi => by rw [e _ (isOut_kS hi)]; exact h3 i hi, h4, by rw [e49]; exact h5, by rw [e50]; exact h6, by rw [e49]; exact h7, by rw [e50]; exact h8, x, h9, ?_⟩
  rcases h9 with rfl | rfl
  · exact h10
  · show va_Z _ _ _ (va_rf (some (ad' (SC + 51)))) A s s.heap
    rw [e _ (isOut_c 51 (by decide))]
    exact h10
/-- from a method to one that it calls -/
theorem Out.call {A B : Nat → Prop} {ad : Nat → Nat} {S : Nat × (Nat → Int)} {s U : State} {H : Heap} {locs : List Loc} (h : Out A ad S s) (hS : va_S A s.heap H locs) (hU : U.heap = H) (hW : s.WarmedH U.vm) (hAB : ∀ q, B q → A q) : Out B ad S U := by
  obtain ⟨h1, h2, h3, h4, h5, h6, h7, h8, x, h9, h10⟩ := h
  rw [← hU] at hS
  exact ⟨((h1.kept hS.2.1).moved hW.alike).narrow hAB, ((h2.kept hS.2.1).moved hW.alike).narrow hAB, fun i hi => (h3 i hi).warm hW, ((h4.kept hS.2.1).moved hW.alike).narrow hAB, ((h5.kept hS.2.1).moved hW.alike).narrow hAB, ((h6.kept hS.2.1).moved hW.alike).narrow hAB, ((h7.kept hS.2.1).moved hW.alike).narrow hAB, ((h8.kept hS.2.1).moved hW.alike).narrow hAB, x, h9, ((h10.kept hS.2.1).moved hW.alike).narrow hAB⟩
/-- the same at a state with this heap and these tables -/
theorem Out.same {A : Nat → Prop} {ad : Nat → Nat} {S : Nat × (Nat → Int)} {s U : State} (h : Out A ad S s) (hU : U.heap = s.heap) (hv : U.vm = s.vm) : Out A ad S U := by
  obtain ⟨h1, h2, h3, h4, h5, h6, h7, h8, x, h9, h10⟩ := h
  have al : s.vm.Alike U.vm := by rw [hv]; exact Vm.Alike.refl _
  unfold Out
  rw [hU]
  exact ⟨h1.moved al, h2.moved al, fun i hi => (h3 i hi).same hv, h4.moved al, h5.moved al, h6.moved al, h7.moved al, h8.moved al, x, h9, h10.moved al⟩
/-- what holds all through a method's body -/
def Cx (μ : MI) (p : Program) (s : State) (mm : MethodId) (args : Array Value) (meth : Method) (c : Code) : Prop :=
  p.tables.exec = Jvm.exec ∧ c.code = μc μ ∧ c.maxLocals = μn μ ∧ s.vm.findClass (μo μ) = some mm.cls ∧ (∀ w ∈ lwg, w.before args s = true) ∧ meth.sig.returnType = μr μ ∧ meth.locks = false ∧ meth.name = (μy μ).name
/-- the heap holds the memory m; since the method's start (memory m0) -/
def Rl (μ : MI) (G : AG) (s : State) (m0 m : Mem) (ad0 ad : Nat → Nat) (H : Heap) (locs : List Loc) : Prop :=
  va_P G.1 clsL (wsM G ad m) H ∧ va_D (Aof ad0 (mN m0) s.heap.size) (wsM G ad m) ∧ va_S (Aof ad0 (mN m0) s.heap.size) s.heap H locs ∧ okM m ∧ mN m0 ≤ mN m ∧ mZ m0 ≤ mZ m ∧ (∀ o, o < mN m0 ∨ isOut o → ad o = ad0 o) ∧ Out (Aof ad0 (mN m0) s.heap.size) ad (mS m) s ∧ mS m = mS m0
def rok (rt : Option FieldType) (r : Option AV) : Prop := match rt, r with
  | none, none => True
  | some .int, some (.inl _) => True
  | some .byte, some (.inl x) => x = 0
  | some .char, some (.inl x) => 0 ≤ x ∧ x < 128
  | some .boolean, some (.inl x) => x = 0 ∨ x = 1
  | some .long, some (.inr (.inl _)) => True
  | some (.object _), some (.inr (.inr _)) => True
  | some (.array _), some (.inr (.inr _)) => True
  | _, _ => False
def retI (r : Option AV) : Instr := match r with
  | none => .return_
  | some (.inl _) => .ireturn
  | some (.inr (.inl _)) => .lreturn
  | some (.inr (.inr _)) => .areturn
abbrev WT (p : Program) (l : Launch) (e : Env) (R : Room) (s : State) (mm : MethodId) (args : Array Value) (below : List Frame) (meth : Method) (c : Code) (m0 m : Mem) (H : Heap) (locs : List Loc) (Q : State → Prop) (pc : Nat) (la : Array Slot) (st : List Value) : Prop :=
  W p l e R s mm args below meth c H locs (mN m - mN m0) (mZ m - mZ m0) Q (F0 mm pc la st)
def RetOK (μ : MI) (post : Option AV → Mem → Prop) (p : Program) (l : Launch) (e : Env) (R : Room) (s : State) (mm : MethodId) (args : Array Value) (below : List Frame) (meth : Method) (c : Code) (G : AG) (m0 : Mem) (ad0 : Nat → Nat) (Q : State → Prop) : Prop :=
  ∀ (pc : Nat) (la : Array Slot) (r : Option AV) (m : Mem) (ad : Nat → Nat) (H : Heap) (locs : List Loc), decode (μc μ) pc = .ok (retI r, 1) → rok (μr μ) r → (∀ v, r = some v → okv (mN m) v) → Rl μ G s m0 m ad0 ad H locs → post r m →
    WT p l e R s mm args below meth c m0 m H locs Q pc la ((r.map (cv ad)).toList)
def RoomOK (R : Room) (F : Nat) (m0 : Mem) : Prop := F ≤ R.frames ∧ 41 * F ≤ R.locals ∧ R.cells = NN - mN m0 ∧ R.slots = ZZ - mZ m0
/-- THE WALK'S JUDGEMENT: from here the method comes to its end, with post -/
def V (μ : MI) (F : Nat) (m0 : Mem) (post : Option AV → Mem → Prop) (pc : Nat) (ls : AL) (st : List AV) (m : Mem) : Prop :=
  ∀ (p : Program) (l : Launch) (e : Env) (R : Room) (s : State) (mm : MethodId) (args : Array Value) (below : List Frame) (meth : Method) (c : Code) (G : AG) (ad0 ad : Nat → Nat) (H : Heap) (locs : List Loc) (la : Array Slot) (Q : State → Prop),
    Cx μ p s mm args meth c → Kn G s → RoomOK R F m0 → RetOK μ post p l e R s mm args below meth c G m0 ad0 Q → Rl μ G s m0 m ad0 ad H locs → (∀ q ∈ ls, okv (mN m) q.2) → (∀ v ∈ st, okv (mN m) v) → lv_has la (μn μ) (cvl ad ls) →
    WT p l e R s mm args below meth c m0 m H locs Q pc la (st.map (cv ad))
