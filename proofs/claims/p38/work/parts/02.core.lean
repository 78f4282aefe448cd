/-! THE ABSTRACT WORLD: objects have numbers 0, 1, ..; what they hold is a whole number (Int) or the number of another object, or none. A memory m: mT what it is and how many slots, mI the numbers, mR the references, mN how many objects, mZ how many slots all of them have; mS the law's script (its length, its numbers). -/
abbrev AV : Type := Int ⊕ Int ⊕ Option Nat
abbrev vi (x : Int) : AV := .inl x
abbrev vl (x : Int) : AV := .inr (.inl x)
abbrev vq (r : Option Nat) : AV := .inr (.inr r)
abbrev vr (o : Nat) : AV := vq (some o)
abbrev Mem : Type := (Nat → Nat × Nat) × (Nat → Nat → Int) × (Nat → Nat → Option Nat) × Nat × Nat × (Nat × (Nat → Int))
def mT (m : Mem) : Nat → Nat × Nat := m.1
def mI (m : Mem) : Nat → Nat → Int := m.2.1
def mR (m : Mem) : Nat → Nat → Option Nat := m.2.2.1
def mN (m : Mem) : Nat := m.2.2.2.1
def mZ (m : Mem) : Nat := m.2.2.2.2.1
def mS (m : Mem) : Nat × (Nat → Int) := m.2.2.2.2.2
def up2 {α : Type} (f : Nat → Nat → α) (o k : Nat) (v : α) : Nat → Nat → α := fun o' k' => if o' = o ∧ k' = k then v else f o' k'
def wI (m : Mem) (I : Nat → Nat → Int) : Mem := (m.1, I, m.2.2)
def wR (m : Mem) (R : Nat → Nat → Option Nat) : Mem := (m.1, m.2.1, R, m.2.2.2)
def setI (m : Mem) (o k : Nat) (v : Int) : Mem := wI m (up2 (mI m) o k v)
def setR (m : Mem) (o k : Nat) (v : Option Nat) : Mem := wR m (up2 (mR m) o k v)
def newO (m : Mem) (c n : Nat) : Mem := (fun o => if o = mN m then (c, n) else mT m o, fun o k => if o = mN m then 0 else mI m o k, fun o k => if o = mN m then none else mR m o k, mN m + 1, mZ m + n, mS m)
/-- the room of the whole run -/
def NN : Nat := 600000
def ZZ : Nat := 7302250
/-- what lies outside has numbers too: the law's script SC; String constant i: SC + 2 i + 1, its bytes SC + 2 i + 2; the rows of digits SC + 49, SC + 50; a formatter SC + 51 -/
def SC : Nat := 700000
def isOut (o : Nat) : Prop := SC ≤ o ∧ o < SC + 52
def litB : List (List Int) := [[120, 62, 48], [121, 60, 120, 124, 120, 61, 53], [112, 120, 60, 120], [99, 65, 60, 50, 38, 33, 120, 61, 51], [115, 66, 120, 62, 50, 124, 108, 65, 121, 60, 121], [102, 65, 120, 61, 120], [110, 120, 62, 120, 124, 99, 66, 62, 99, 65], [33, 40, 121, 62, 45, 50, 124, 115, 65, 121, 60, 48, 41, 38, 120, 60, 57], [], [59], [61], [94], [36], [37, 40], [124], [44], [40], [41], [42], [43], [63], [123], [125], [65]]
def litP : List Nat := [41, 43, 45, 47, 49, 51, 53, 55, 76, 85, 90, 110, 112, 114, 116, 118, 120, 126, 128, 130, 132, 134, 139, 144]
def litT : List String := ["x>0", "y<x|x=5", "px<x", "cA<2&!x=3", "sBx>2|lAy<y", "fAx=x", "nx>x|cB>cA", "!(y>-2|sAy<0)&x<9", "", ";", "=", "^", "$", "%(", "|", ",", "(", ")", "*", "+", "?", "{", "}", "A"]
def litL : List Nat := litB.map List.length
def litV : List (List Int32) := litB.map (fun l => l.map Int32.ofInt)
def outT (S : Nat × (Nat → Int)) (o : Nat) : Nat × Nat := if o = SC then (99, S.1) else if o < SC + 49 then (if (o - SC) % 2 = 1 then (11, 4) else (24, (litB.getD ((o - SC) / 2 - 1) []).length)) else if o < SC + 51 then (24, 100) else (99, 0)
def outI (o k : Nat) : Int := if o < SC + 49 then (if (o - SC) % 2 = 1 ∨ o = SC then 0 else (litB.getD ((o - SC) / 2 - 1) []).getD k 0) else if o = SC + 49 then 48 + ((k % 10 : Nat) : Int) else if o = SC + 50 then 48 + (((k / 10) % 10 : Nat) : Int) else 0
def outR (o k : Nat) : Option Nat := if o < SC + 49 ∧ (o - SC) % 2 = 1 ∧ k = 0 then some (o + 1) else none
def OutM (m : Mem) : Prop := ∀ o, isOut o → mT m o = outT (mS m) o ∧ (∀ k, mI m o k = outI o k) ∧ ∀ k, mR m o k = outR o k
def I32 (x : Int) : Prop := -2147483648 ≤ x ∧ x < 2147483648
def I64 (x : Int) : Prop := -9223372036854775808 ≤ x ∧ x < 9223372036854775808
def I8 (x : Int) : Prop := -128 ≤ x ∧ x < 128
/-- what an object of the class c may have -/
def okI (c : Nat) (x : Int) : Prop := if c = 21 then I64 x else if c = 24 then I8 x else I32 x
def okv (n : Nat) : AV → Prop
  | .inl x => I32 x
  | .inr (.inl x) => I64 x
  | .inr (.inr none) => True
  | .inr (.inr (some o)) => o < n ∨ isOut o
def okM (m : Mem) : Prop := (∀ o k, o < mN m → okI (mT m o).1 (mI m o k)) ∧ (∀ o k o', o < mN m → mR m o k = some o' → o' < mN m ∨ isOut o') ∧ mN m ≤ NN ∧ mZ m ≤ ZZ ∧ OutM m ∧ (mS m).1 ≤ 260 ∧ ∀ j, I32 ((mS m).2 j)
/-! ties to the machine's words -/
def cv (ad : Nat → Nat) : AV → Value
  | .inl x => .int (Int32.ofInt x)
  | .inr (.inl x) => .long (Int64.ofInt x)
  | .inr (.inr r) => va_rf (r.map ad)
abbrev AL : Type := List (Nat × AV)
def cvl (ad : Nat → Nat) (ls : AL) : List (Nat × Value) := ls.map (fun q => (q.1, cv ad q.2))
abbrev clsL : List vw_C := [(RX0, TX0, 1), (RX1, TX1, 7), (RX2, TX2, 2), (RX3, TX3, 4), (RX4, TX4, 2), (RX5, TX5, 4), (RX6, TX6, 14), (RX7, TX7, 8), (RX8, TX8, 2), (RX9, TX9, 2), (RX10, TX10, 7), (RJ0, TJ0, 4), (RJ4, TJ4, 4)]
def cty (c k : Nat) : FieldType := match c with
  | 0 => tyX0 k
  | 1 => tyX1 k
  | 2 => tyX2 k
  | 3 => tyX3 k
  | 4 => tyX4 k
  | 5 => tyX5 k
  | 6 => tyX6 k
  | 7 => tyX7 k
  | 8 => tyX8 k
  | 9 => tyX9 k
  | 10 => tyX10 k
  | 11 => tyJ0 k
  | _ => tyJ4 k
def isR : FieldType → Bool
  | .object _ => true
  | .array _ => true
  | _ => false
def sv (ad : Nat → Nat) (m : Mem) (o k : Nat) (t : FieldType) : Value := if isR t then va_rf ((mR m o k).map ad) else .int (Int32.ofInt (mI m o k))
abbrev AG : Type := va_G × (Nat → ClassId)
def entO (ad : Nat → Nat) (m : Mem) (o c n : Nat) : List Value := (List.range n).map (fun k => sv ad m o k (cty c k))
def ent (G : AG) (ad : Nat → Nat) (m : Mem) (o : Nat) : va_E :=
  if (mT m o).1 = 20 then .inl (G.2 0, (mT m o).2, .inl (fun j => Int32.ofInt (mI m o j)))
  else if (mT m o).1 = 21 then .inl (G.2 1, (mT m o).2, .inr (.inl (fun j => Int64.ofInt (mI m o j))))
  else if (mT m o).1 = 22 then .inl (G.2 2, (mT m o).2, .inr (.inr (.inr (.inr (fun j => (mR m o j).map ad)))))
  else if (mT m o).1 = 23 then .inl (G.2 3, (mT m o).2, .inr (.inr (.inr (.inr (fun j => (mR m o j).map ad)))))
  else if (mT m o).1 = 24 then .inl (G.2 4, (mT m o).2, .inl (fun j => Int32.ofInt (mI m o j)))
  else if (mT m o).1 = 25 then .inl (G.2 5, (mT m o).2, .inr (.inr (.inr (.inr (fun j => (mR m o j).map ad)))))
  else if (mT m o).1 = 26 then .inl (G.2 6, (mT m o).2, .inr (.inr (.inr (.inr (fun j => (mR m o j).map ad)))))
  else .inr ((mT m o).1, entO ad m o (mT m o).1 (mT m o).2)
def wsM (G : AG) (ad : Nat → Nat) (m : Mem) : va_W := (List.range (mN m)).map (fun o => (ad o, ent G ad m o))
def tysL (G : AG) : List (ClassId × FieldType) := [(G.2 0, .int), (G.2 1, .long), (G.2 2, .object RX2), (G.2 3, .object RX0), (G.2 4, .byte), (G.2 5, .array .int), (G.2 6, .object RJ0)]
/-- rows of rows of ints -/
def AOI (U : State) : Prop := (Cond.arrayOver (.array .int)).before #[] U = true
theorem AOI.moved {u U : State} (hvm : u.vm.Alike U.vm) (h : AOI u) : AOI U := by
  obtain ⟨comp, c, k, h1, h2, h3, h4, h5⟩ := arrayOverA_spec h
  obtain ⟨k', hk', he⟩ := hvm.2.2 _ _ h3
  have hi : (U.vm.classes.findIdx? fun (x : Class) => match x.kind with | .array component _ => component == comp | _ => false) = some c := by
    rw [hvm.findIdx?_eq _ (fun _ => rfl)]
    exact h2
  have hkind : k'.kind = .array comp (.array .int) := by rw [he]; exact h4
  have f1 : U.vm.findClass (FieldType.array .int).toString = some comp := by rw [hvm.findClass]; exact h1
  have f2 : U.vm.findClass ("[" ++ (FieldType.array .int).toString) = some c := by rw [hvm.findClass]; exact h5
  unfold AOI Cond.before Cond.holds
  simp only [Cond.value]
  rw [f1, Option.bind_some]
  refine (congrArg (fun o : Option Nat => (o.bind (fun c => (U.vm.classes[c]?).map fun (k : Class) => match k.kind with | .array _ ty => decide (ty = FieldType.array .int) && decide (U.vm.findClass ("[" ++ (FieldType.array .int).toString) = some c) | _ => false) == some true)) hi).trans ?_
  simp [hk', hkind, f2]
def ncl : Cond := .castable "[B" "java/lang/Cloneable"
/-- the tables' words that a callee doesn't take along: links within a nest, classes of arrays; the String constants' places -/
def Kx (s : State) : Prop := (∀ q ∈ lwx, va_Nw (.methodLinkNest q.1 q.2.1 q.2.2.1 q.2.2.2) s) ∧ va_AO RX2 s ∧ va_AO RX0 s ∧ AOI s ∧ va_AO RJ0 s ∧ va_Nw ncl s
theorem Kx.warm {s U : State} (hW : s.WarmedH U.vm) (h : Kx s) : Kx U := ⟨fun q hq => va_Nw.warmM hW (h.1 q hq), h.2.1.moved hW.alike, h.2.2.1.moved hW.alike, h.2.2.2.1.moved hW.alike, h.2.2.2.2.1.moved hW.alike, va_Nw.warmC hW h.2.2.2.2.2⟩
theorem Kx.same {u U : State} (hv : u.vm = U.vm) (h : Kx u) : Kx U := ⟨fun q hq => va_Nw.same rfl hv (h.1 q hq), h.2.1.moved (by rw [← hv]; exact Vm.Alike.refl _), h.2.2.1.moved (by rw [← hv]; exact Vm.Alike.refl _), h.2.2.2.1.moved (by rw [← hv]; exact Vm.Alike.refl _), h.2.2.2.2.1.moved (by rw [← hv]; exact Vm.Alike.refl _), va_Nw.same rfl hv h.2.2.2.2.2⟩
def Kn (G : AG) (s : State) : Prop := va_K G.1 clsL (tysL G) s ∧ Kx s
def Aof (ad : Nat → Nat) (n sz : Nat) : Nat → Prop := fun q => (∃ o : Nat, o < n ∧ q = ad o) ∨ sz ≤ q
def tot (H : Heap) : Nat := (H.toList.map (fun c : Cell => c.slots.size)).sum
def Keep (H H1 : Heap) : Prop := ∀ (a : Nat) (c : Cell), H[a]? = some c → ∃ c1 : Cell, H1[a]? = some c1 ∧ c1.slots.size = c.slots.size
theorem wsM_get {G : AG} {ad : Nat → Nat} {m : Mem} {o : Nat} (h : o < mN m) : (wsM G ad m)[o]? = some (ad o, ent G ad m o) := by
  simp [wsM, List.getElem?_map, List.getElem?_range h]
theorem wsM_len {G : AG} {ad : Nat → Nat} {m : Mem} : (wsM G ad m).length = mN m := by simp [wsM]
theorem ent_congr {G : AG} {ad : Nat → Nat} {m m' : Mem} {o : Nat} (h1 : mT m' o = mT m o) (h2 : ∀ k, mI m' o k = mI m o k) (h3 : ∀ k, mR m' o k = mR m o k) : ent G ad m' o = ent G ad m o := by
  unfold ent entO sv
  simp only [h1, h2, h3]
theorem wsM_set {G : AG} {ad : Nat → Nat} {m m' : Mem} {o : Nat} (hn : mN m' = mN m) (hT : ∀ q, q ≠ o → mT m' q = mT m q) (hI : ∀ q, q ≠ o → ∀ k, mI m' q k = mI m q k) (hR : ∀ q, q ≠ o → ∀ k, mR m' q k = mR m q k) :
    wsM G ad m' = (wsM G ad m).set o (ad o, ent G ad m' o) := by
  apply List.ext_getElem?
  intro i
  rw [List.getElem?_set]
  by_cases hi : i < mN m
  · rw [wsM_get (by rw [hn]; exact hi)]
    by_cases h : o = i
    · subst h
      simp [wsM_len, hi]
    · rw [if_neg h, wsM_get hi, ent_congr (hT i (Ne.symm h)) (hI i (Ne.symm h)) (hR i (Ne.symm h))]
  · have h1 : (wsM G ad m')[i]? = none := List.getElem?_eq_none (by rw [wsM_len, hn]; omega)
    have h2 : (wsM G ad m)[i]? = none := List.getElem?_eq_none (by rw [wsM_len]; omega)
    rw [h1, h2, wsM_len]
    by_cases h : o = i
    · subst h
      simp [hi]
    · rw [if_neg h]
/-- one object more -/
theorem wsM_new {G : AG} {ad ad' : Nat → Nat} {m : Mem} {c n : Nat} (hR : ∀ o k o', o < mN m → mR m o k = some o' → o' < mN m ∨ isOut o') (h : ∀ o, o < mN m ∨ isOut o → ad' o = ad o) :
    wsM G ad' (newO m c n) = wsM G ad m ++ [(ad' (mN m), ent G ad' (newO m c n) (mN m))] := by
  show (List.range (mN m + 1)).map _ = _
  rw [List.range_succ, List.map_append]
  refine congrArg (· ++ _) ?_
  refine List.map_congr_left fun o ho => ?_
  have ho := List.mem_range.mp ho
  have h1 : mT (newO m c n) o = mT m o := if_neg (by omega)
  have h2 : ∀ k, mI (newO m c n) o k = mI m o k := fun k => if_neg (by omega)
  have h3 : ∀ k, mR (newO m c n) o k = mR m o k := fun k => if_neg (by omega)
  rw [h o (Or.inl ho), ent_congr h1 h2 h3]
  have hr : ∀ k, (mR m o k).map ad' = (mR m o k).map ad := by
    intro k
    cases hk : mR m o k with
    | none => rfl
    | some o' => exact congrArg some (h o' (hR o k o' ho hk))
  unfold ent entO sv
  simp only [hr]
