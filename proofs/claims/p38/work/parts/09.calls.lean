/-! CALLS: a method's contract; what a caller has of it -/
theorem drop_tot {h0 h : Heap} (hk : Keep h0 h) (hs : h0.size ≤ h.size) : tot h = tot h0 + ((h.toList.drop h0.size).map (fun c : Cell => c.slots.size)).sum := by
  unfold tot
  have h1 : (h.toList.take h0.size).map (fun c : Cell => c.slots.size) = h0.toList.map (fun c : Cell => c.slots.size) := by
    apply List.ext_getElem?
    intro i
    rw [List.getElem?_map, List.getElem?_map]
    by_cases hi : i < h0.size
    · rw [List.getElem?_take_of_lt hi]
      have e0 : h0.toList[i]? = some h0[i] := by simp [hi]
      obtain ⟨c1, a1, a2⟩ := hk i h0[i] (by simp [hi])
      have e1 : h.toList[i]? = some c1 := by rw [Array.getElem?_toList]; exact a1
      rw [e0, e1]
      exact congrArg some a2
    · rw [List.getElem?_eq_none (by rw [List.length_take]; omega), List.getElem?_eq_none (by simp; omega)]
  rw [← h1, ← List.sum_append, ← List.map_append, List.take_append_drop]
section CALLS
variable {p : Program} {l : Launch} {e : Env} {R : Room} {s : State} {m : MethodId} {args : Array Value} {below : List Frame} {meth : Method} {c : Code} {H : Heap} {locs : List Loc} {cells slots : Nat} {Q : State → Prop}
theorem same_keep {s s' : State} {locs : List Loc} {cells slots : Nat} (h : s.sameButNew s' locs cells slots) : Keep s.heap s'.heap := fun a c hc => by
  obtain ⟨c', h1, -, h2, -⟩ := h.2.2.2.2.2 a c hc
  exact ⟨c', h1, h2⟩
theorem W_facts {g : JFrame} (kk : H.size ≤ s.heap.size + cells → tot H ≤ tot s.heap + slots → W p l e R s m args below meth c H locs cells slots Q g) : W p l e R s m args below meth c H locs cells slots Q g := by
  intro T hT X
  refine kk ?_ ?_ T hT X
  · rw [← hT]; exact X.heapSize
  · have hs := X.same
    have hk : Keep s.heap T.heap := same_keep (s' := T.setVm s.vm) hs
    have h1 := drop_tot hk hs.2.1
    have h2 := hs.2.2.2.2.1
    rw [← hT, h1]
    exact Nat.add_le_add_left h2 _
theorem W_tight {g : JFrame} {cells' slots' : Nat} (h1 : H.size ≤ s.heap.size + cells') (h2 : tot H ≤ tot s.heap + slots') (kk : W p l e R s m args below meth c H locs cells' slots' Q g) : W p l e R s m args below meth c H locs cells slots Q g := by
  intro T hT X
  refine kk T hT { X with same := ?_ }
  have hs := X.same
  have hk : Keep s.heap T.heap := same_keep (s' := T.setVm s.vm) hs
  have h3 := drop_tot hk hs.2.1
  refine ⟨hs.1, hs.2.1, ?_, hs.2.2.2.1, ?_, hs.2.2.2.2.2⟩
  · show T.heap.size ≤ _
    rw [hT]; exact h1
  · show ((T.heap.toList.drop s.heap.size).map (fun c : Cell => c.slots.size)).sum ≤ _
    rw [← hT, h3] at h2
    exact Nat.le_of_add_le_add_left h2
end CALLS
def Qa (G : AG) (ad0 : Nat → Nat) (m0 : Mem) (sz tt : Nat) (post : Option AV → Mem → Prop) : Array Value → State → Outcome → State → Prop := fun _ st oc t =>
  ∃ (r : Option AV) (m' : Mem) (ad' : Nat → Nat), oc = .returned (r.map (cv ad')) ∧ (∀ v, r = some v → okv (mN m') v) ∧ post r m' ∧ va_P G.1 clsL (wsM G ad' m') t.heap ∧ va_D (Aof ad0 (mN m0) sz) (wsM G ad' m') ∧ okM m' ∧ mN m0 ≤ mN m' ∧ mZ m0 ≤ mZ m' ∧ (∀ o, o < mN m0 ∨ isOut o → ad' o = ad0 o) ∧
    sz ≤ t.heap.size ∧ (∀ q : Nat, q < sz → ¬ Aof ad0 (mN m0) sz q → t.heap[q]? = st.heap[q]?) ∧ t.heap.size ≤ sz + (mN m' - mN m0) ∧ tot t.heap ≤ tt + (mZ m' - mZ m0) ∧ mS m' = mS m0
def Pa (G : AG) (ad0 : Nat → Nat) (m0 : Mem) (sz tt : Nat) : State → Prop := fun U => U.heap.size = sz ∧ tot U.heap = tt ∧ va_P G.1 clsL (wsM G ad0 m0) U.heap ∧ Kn G U ∧ va_D (fun _ => True) (wsM G ad0 m0) ∧ Out (Aof ad0 (mN m0) sz) ad0 (mS m0) U
def rmF (F : Nat) (m0 : Mem) : Room := { frames := F, cells := NN - mN m0, slots := ZZ - mZ m0, locals := 41 * F }
def wsY (μ : MI) : List Cond := .code (μy μ) (μc μ) (μn μ) (μr μ) :: lwg
/-- THE CONTRACT: with F frames to come, from the memory m0 with these arguments, the method returns, with post -/
def Ct (μ : MI) (F : Nat) (args : List AV) (m0 : Mem) (post : Option AV → Mem → Prop) : Prop :=
  okM m0 → (∀ v ∈ args, okv (mN m0) v) → ∀ (l : Launch) (G : AG) (ad0 : Nat → Nat) (sz tt : Nat), Met l (μy μ) (wsY μ) (rmF F m0) (va_Pc (args.map (cv ad0)) (Pa G ad0 m0 sz tt)) (Qa G ad0 m0 sz tt post) (NN - mN m0) (ZZ - mZ m0) (Aof ad0 (mN m0) sz)
def alA : Nat → List AV → AL
  | _, [] => []
  | i, v :: vs => (i, v) :: alA (i + ac v) vs
theorem alA_cv (ad : Nat → Nat) (vs : List AV) : ∀ i, lv_args i (vs.map (cv ad)) = cvl ad (alA i vs) := by
  induction vs with
  | nil => intro i; rfl
  | cons v vs ih =>
    intro i
    show (i, cv ad v) :: lv_args (if (cv ad v).category = 2 then i + 2 else i + 1) (vs.map (cv ad)) = (i, cv ad v) :: cvl ad (alA (i + ac v) vs)
    rw [← ih (i + ac v), cv_cat]
    rcases v with x | x | x <;> rfl
theorem alA_ok {n : Nat} {vs : List AV} (h : ∀ v ∈ vs, okv n v) : ∀ i, ∀ q ∈ alA i vs, okv n q.2 := by
  induction vs with
  | nil => intro i q hq; cases hq
  | cons v vs ih =>
    intro i q hq
    rcases List.mem_cons.mp hq with rfl | hq
    · exact h v List.mem_cons_self
    · exact ih (fun w hw => h w (List.mem_cons_of_mem _ hw)) _ q hq
theorem lg_len (ad : Nat → Nat) (vs : List AV) : (lg_sl (vs.map (cv ad))).length = (vs.map ac).sum := by
  induction vs with
  | nil => rfl
  | cons v vs ih =>
    rcases v with x | x | (_ | o) <;> simp only [List.map_cons, List.sum_cons, ← ih] <;> simp [cv, lg_sl, ac, va_rf, Value.category] <;> omega
theorem nar_char {x : Int} (h : 0 ≤ x ∧ x < 128) : narrow .char (.int (Int32.ofInt x)) = .int (Int32.ofInt x) := by
  have key : ∀ k : Fin 128, narrow .char (.int (Int32.ofInt (k.val : Int))) = .int (Int32.ofInt (k.val : Int)) := by decide +kernel
  have h1 := key ⟨x.toNat, by omega⟩
  have e : ((x.toNat : Nat) : Int) = x := by omega
  simp only [e] at h1
  exact h1
theorem Ct_of_VF {μ : MI} {F : Nat} {args : List AV} {m0 : Mem} {post : Option AV → Mem → Prop} (hs : μs μ = none) (hp : plainFor (μy μ) = true) (hown : μo μ = (μy μ).cls) (hL : (args.map ac).sum ≤ μn μ) (h : V μ F m0 post 0 (alA 0 args) [] m0) : Ct μ F args m0 post := by
  intro hok ha l G ad0 sz tt
  refine va_MetF (cc := μc μ) (maxL := μn μ) (ret := μr μ) hp rfl ?_
  intro p e s m args' below meth c s₁ B hml hv
  obtain ⟨rfl, hsz, htt, hP, hK, hD0, hO⟩ := hv
  have hts := atoms_spec (ws := wsY μ) B.pre
  have hown' : s.vm.findClass (μo μ) = some m.cls := by rw [hown]; exact findClass_of_methodNamed B.named
  have C : Cx μ p s m (args.map (cv ad0)).toArray meth c := ⟨B.exec, B.bytes, hml, hown', fun w hw => hts w (List.mem_cons_of_mem _ hw), B.returns, B.notSynchronized, (name_of_methodNamed B.named B.method).1⟩
  subst hsz
  have hD : va_D (Aof ad0 (mN m0) s.heap.size) (wsM G ad0 m0) := hD0.weaken fun k q hk _ => by
    have hk' : k < mN m0 := by
      have := (List.getElem?_eq_some_iff.mp hk).1
      rw [wsM_len] at this
      exact this
    rw [wsM_get hk'] at hk
    cases Option.some.inj hk
    exact Or.inl ⟨k, hk', rfl⟩
  have RL : Rl μ G s m0 m0 ad0 ad0 s.heap [] := ⟨hP, hD, va_S.rf, hok, Nat.le_refl _, Nat.le_refl _, fun _ _ => rfl, hO, rfl⟩
  have hl := lv_entry (args.map (cv ad0)) (n := μn μ) (by rw [lg_len]; exact hL)
  rw [lg_entry_eq]
  generalize (lg_sl (args.map (cv ad0)) ++ List.replicate (μn μ - (lg_sl (args.map (cv ad0))).length) Slot.unset).toArray = la at hl ⊢
  rw [alA_cv] at hl
  have RR : RoomOK (headSpec (wsY μ) (rmF F m0)).room F m0 := ⟨Nat.le_refl _, Nat.le_refl _, rfl, rfl⟩
  have RT : RetOK μ post p l e (headSpec (wsY μ) (rmF F m0)).room s m (args.map (cv ad0)).toArray below meth c G m0 ad0 (MQ below (Qa G ad0 m0 s.heap.size tt post) (args.map (cv ad0)).toArray s (NN - mN m0) (ZZ - mZ m0) (Aof ad0 (mN m0) s.heap.size)) := by
    intro pc la r m' ad H locs hd hr hv RL hpost
    obtain ⟨r1, r2, r3, r4, r5, r6, r7, r8⟩ := RL
    refine W_facts fun f1 f2 => W.widen (k := NN - mN m0) (n := ZZ - mZ m0) (Nat.sub_le_sub_right r4.2.2.1 _) (Nat.sub_le_sub_right r4.2.2.2.1 _) ?_
    have hq : ∀ t : State, t.heap = H → s.WarmedH t.vm → Qa G ad0 m0 s.heap.size tt post (args.map (cv ad0)).toArray s (.returned (r.map (cv ad))) t := fun t ht hW =>
      ⟨r, m', ad, rfl, hv, hpost, by rw [ht]; exact r1, r2, r4, r5, r6, r7, by rw [ht]; exact r3.1, fun q h1 h2 => by rw [ht]; exact r3.2.1 q h1 h2, by rw [ht]; exact f1, by rw [ht, ← htt]; exact f2, r8.2⟩
    have hrr := C.2.2.2.2.2.1
    have hlk := C.2.2.2.2.2.2.1
    rcases r with _ | (x | x | rr)
    · cases hrt : μr μ with
      | none =>
        rw [hrt] at hrr
        exact W.vret C.1 C.2.1 hrr hq r3.2.2 hd hlk
      | some ty => rw [hrt] at hr; cases ty <;> exact hr.elim
    · cases hrt : μr μ with
      | none => rw [hrt] at hr; exact hr.elim
      | some ty =>
        rw [hrt] at hr hrr
        cases ty with
        | int => exact W.iret C.1 C.2.1 hrr hq r3.2.2 hd hlk
        | byte =>
          obtain rfl : x = 0 := hr
          exact W.zret (v := 0) C.1 C.2.1 hrr rfl hq r3.2.2 hd hlk
        | char => exact W.zret (v := Int32.ofInt x) C.1 C.2.1 hrr (nar_char hr) hq r3.2.2 hd hlk
        | boolean =>
          rcases hr with rfl | rfl
          · exact W.zret (v := 0) C.1 C.2.1 hrr rfl hq r3.2.2 hd hlk
          · exact W.zret (v := 1) C.1 C.2.1 hrr rfl hq r3.2.2 hd hlk
        | _ => exact hr.elim
    · cases hrt : μr μ with
      | none => rw [hrt] at hr; exact hr.elim
      | some ty =>
        rw [hrt] at hr hrr
        cases ty with
        | long => exact W.lret C.1 C.2.1 hrr hq r3.2.2 hd hlk
        | _ => exact hr.elim
    · cases hrt : μr μ with
      | none => rw [hrt] at hr; exact hr.elim
      | some ty =>
        rw [hrt] at hr hrr
        cases ty with
        | object n =>
          cases rr with
          | none => exact W.aret C.1 C.2.1 hrr (Or.inl ⟨_, rfl⟩) (Or.inl rfl) hq r3.2.2 hd hlk
          | some o => exact W.aret C.1 C.2.1 hrr (Or.inl ⟨_, rfl⟩) (Or.inr ⟨_, rfl⟩) hq r3.2.2 hd hlk
        | array n =>
          cases rr with
          | none => exact W.aret C.1 C.2.1 hrr (Or.inr ⟨_, rfl⟩) (Or.inl rfl) hq r3.2.2 hd hlk
          | some o => exact W.aret C.1 C.2.1 hrr (Or.inr ⟨_, rfl⟩) (Or.inr ⟨_, rfl⟩) hq r3.2.2 hd hlk
        | _ => exact hr.elim
  have h1 := h p l e _ s m _ below meth c G ad0 ad0 s.heap [] la _ C hK RR RT RL (alA_ok ha 0) (fun _ hv => by cases hv) hl
  unfold WT at h1
  rw [Nat.sub_self, Nat.sub_self] at h1
  exact h1
theorem Ct_of_V {μ : MI} {F : Nat} {args : List AV} {m0 : Mem} {post : Option AV → Mem → Prop} (hs : μs μ = none) (hp : plainName (μy μ).cls = true) (hown : μo μ = (μy μ).cls) (hL : (args.map ac).sum ≤ μn μ) (h : V μ F m0 post 0 (alA 0 args) [] m0) : Ct μ F args m0 post := Ct_of_VF hs (plainFor_of_name hp) hown hL h
