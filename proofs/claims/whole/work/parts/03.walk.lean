/-! A METHOD: class, code, locals, what it answers, name; for the law: its script -/
abbrev MI : Type := String × ByteArray × Nat × Option FieldType × MethodName × Option (Nat × (Nat → Int))
def μo (μ : MI) : String := μ.1
def μc (μ : MI) : ByteArray := μ.2.1
def μn (μ : MI) : Nat := μ.2.2.1
def μr (μ : MI) : Option FieldType := μ.2.2.2.1
def μy (μ : MI) : MethodName := μ.2.2.2.2.1
def μs (μ : MI) : Option (Nat × (Nat → Int)) := μ.2.2.2.2.2
def scOK (sc : Option (Nat × (Nat → Int))) (A : Nat → Prop) (s : State) (ad : Nat → Nat) : Prop := match sc with
  | none => True
  | some (L, xs) => va_X (ad SC) L (fun j => Int32.ofInt (xs j)) s s.heap ∧ ad SC < s.heap.size ∧ ¬ A (ad SC) ∧ L < 2147483648 ∧ ∀ j, I32 (xs j)
/-- what holds all through a method's body -/
def Cx (μ : MI) (p : Program) (s : State) (mm : MethodId) (args : Array Value) (meth : Method) (c : Code) : Prop :=
  p.tables.exec = Jvm.exec ∧ c.code = μc μ ∧ c.maxLocals = μn μ ∧ s.vm.findClass (μo μ) = some mm.cls ∧ (∀ w ∈ lwg, w.before args s = true) ∧ meth.sig.returnType = μr μ ∧ meth.locks = false ∧ meth.name = (μy μ).name
/-- the heap holds the memory m; since the method's start (memory m0) -/
def Rl (μ : MI) (G : AG) (s : State) (m0 m : Mem) (ad0 ad : Nat → Nat) (H : Heap) (locs : List Loc) : Prop :=
  va_P G.1 clsL (wsM G ad m) H ∧ va_D (Aof ad0 (mN m0) s.heap.size) (wsM G ad m) ∧ va_S (Aof ad0 (mN m0) s.heap.size) s.heap H locs ∧ okM m ∧ mN m0 ≤ mN m ∧ mZ m0 ≤ mZ m ∧ (∀ o, o < mN m0 ∨ o = SC → ad o = ad0 o) ∧ scOK (μs μ) (Aof ad0 (mN m0) s.heap.size) s ad
def rok (rt : Option FieldType) (r : Option AV) : Prop := match rt, r with
  | none, none => True
  | some .int, some (.inl _) => True
  | some .boolean, some (.inl x) => x = 0 ∨ x = 1
  | some .long, some (.inr (.inl _)) => True
  | some (.object _), some (.inr (.inr _)) => True
  | some (.array _), some (.inr (.inr _)) => True
  | _, _ => False
def retI (r : Option AV) : Instr := match r with
  | none => .return_
  | some (.inl _) => .ireturn
  | some (.inr (.inl _)) => .lreturn
  | some (.inr (.inr _)) => .areturn
abbrev WT (p : Program) (l : Launch) (e : Env) (R : Room) (s : State) (mm : MethodId) (args : Array Value) (below : List Frame) (meth : Method) (c : Code) (m0 m : Mem) (H : Heap) (locs : List Loc) (Q : State → Prop) (pc : Nat) (la : Array Slot) (st : List Value) : Prop :=
  W p l e R s mm args below meth c H locs (mN m - mN m0) (mZ m - mZ m0) Q (F0 mm pc la st)
def RetOK (μ : MI) (post : Option AV → Mem → Prop) (p : Program) (l : Launch) (e : Env) (R : Room) (s : State) (mm : MethodId) (args : Array Value) (below : List Frame) (meth : Method) (c : Code) (G : AG) (m0 : Mem) (ad0 : Nat → Nat) (Q : State → Prop) : Prop :=
  ∀ (pc : Nat) (la : Array Slot) (r : Option AV) (m : Mem) (ad : Nat → Nat) (H : Heap) (locs : List Loc), decode (μc μ) pc = .ok (retI r, 1) → rok (μr μ) r → (∀ v, r = some v → okv (mN m) v) → Rl μ G s m0 m ad0 ad H locs → post r m →
    WT p l e R s mm args below meth c m0 m H locs Q pc la ((r.map (cv ad)).toList)
def RoomOK (R : Room) (F : Nat) (m0 : Mem) : Prop := F ≤ R.frames ∧ 41 * F ≤ R.locals ∧ R.cells = NN - mN m0 ∧ R.slots = ZZ - mZ m0
/-- THE WALK'S JUDGEMENT: from here the method comes to its end, with post -/
def V (μ : MI) (F : Nat) (m0 : Mem) (post : Option AV → Mem → Prop) (pc : Nat) (ls : AL) (st : List AV) (m : Mem) : Prop :=
  ∀ (p : Program) (l : Launch) (e : Env) (R : Room) (s : State) (mm : MethodId) (args : Array Value) (below : List Frame) (meth : Method) (c : Code) (G : AG) (ad0 ad : Nat → Nat) (H : Heap) (locs : List Loc) (la : Array Slot) (Q : State → Prop),
    Cx μ p s mm args meth c → Kn G s → RoomOK R F m0 → RetOK μ post p l e R s mm args below meth c G m0 ad0 Q → Rl μ G s m0 m ad0 ad H locs → (∀ q ∈ ls, okv (mN m) q.2) → (∀ v ∈ st, okv (mN m) v) → lv_has la (μn μ) (cvl ad ls) →
    WT p l e R s mm args below meth c m0 m H locs Q pc la (st.map (cv ad))
