/-! ROWS OF THE WALK, 6: calls, returns, copies, the law's script -/
section ROWS6
variable {μ : MI} {F : Nat} {m0 : Mem} {post : Option AV → Mem → Prop} {pc : Nat} {ls : AL} {st : List AV} {m : Mem}
theorem V_ret {r : Option AV} (hd : decode (μc μ) pc = .ok (retI r, 1)) (hr : rok (μr μ) r) (hp : post r m) : V μ F m0 post pc ls r.toList m := by
  intro p l e R s mm args below meth c' G ad0 ad H locs la Q C K RR RT RL hls hst hla
  have h := RT pc la r m ad H locs hd hr (fun v hv => hst v (by rw [hv]; exact List.mem_singleton.mpr rfl)) RL hp
  cases r with
  | none => exact h
  | some v => exact h
/-- behind a call -/
theorem V_after {p : Program} {l : Launch} {e : Env} {R : Room} {s : State} {mm : MethodId} {args : Array Value} {below : List Frame} {meth : Method} {c' : Code} {G : AG} {ad0 ad : Nat → Nat} {H : Heap} {locs : List Loc} {la : Array Slot} {Q : State → Prop} {post' : Option AV → Mem → Prop} {st0 : List Value} {a : Array Value}
    (C : Cx μ p s mm args meth c') (K : Kn G s) (RR : RoomOK R F m0) (RT : RetOK μ post p l e R s mm args below meth c' G m0 ad0 Q) (RL : Rl μ G s m0 m ad0 ad H locs) (hls : ∀ q ∈ ls, okv (mN m) q.2) (hst : ∀ v ∈ st, okv (mN m) v) (hla : lv_has la (μn μ) (cvl ad ls))
    (next : ∀ r m', post' r m' → okM m' → (mN m ≤ mN m' ∧ mS m' = mS m) → V μ F m0 post (pc + 3) ls (r.toList ++ st) m')
    (hr : va_Run p l e R s mm args below meth c' H locs (mN m - mN m0) (mZ m - mZ m0) (NN - mN m) (ZZ - mZ m) (F0 mm pc la st0) (st.map (cv ad)) (Qa G ad m H.size (tot H) post' a) (Aof ad (mN m) H.size)) :
    W p l e R s mm args below meth c' H locs (mN m - mN m0) (mZ m - mZ m0) Q (F0 mm pc la st0) := by
  have rl := RL
  obtain ⟨r1, r2, r3, r4, r5, r6, r7, r8⟩ := RL
  refine W_facts fun f1 f2 => ?_
  intro T hT X
  obtain ⟨v, st₀, t, T', L, h0, X', hL, e1, e2, hq, go⟩ := hr T hT X
  obtain ⟨rr, m', ad', hv, hvok, hpost, q1, q2, q3, q4, q5, q6, q7, q8, q9, q10, q11⟩ := hq
  cases hv
  have hA : ∀ q, Aof ad (mN m) H.size q → Aof ad0 (mN m0) s.heap.size q := fun q hq => by
    rcases hq with ⟨o, ho, rfl⟩ | hq
    · exact r2.2 o _ (wsM_get ho)
    · exact Or.inr (Nat.le_trans r3.1 hq)
  have hext : ∀ o, o < mN m ∨ isOut o → ad' o = ad o := q6
  have hS : va_S (Aof ad0 (mN m0) s.heap.size) s.heap T'.heap (locs ++ L) := by
    refine ⟨by rw [e1]; exact Nat.le_trans r3.1 q7, fun q h1 h2 => ?_, fun q hq => ?_⟩
    · rw [e1, q8 q (Nat.lt_of_lt_of_le h1 r3.1) (fun z => h2 (hA q z)), h0]
      exact r3.2.1 q h1 h2
    · rcases List.mem_append.mp hq with h | h
      · exact r3.2.2 q h
      · exact hA _ (hL q h)
  have RL' : Rl μ G s m0 m' ad0 ad' T'.heap (locs ++ L) := by
    refine ⟨by rw [e1]; exact q1, q2.weaken (fun k q _ h => hA q.1 h), hS, q3, Nat.le_trans r5 q4, Nat.le_trans r6 q5, fun o ho => ?_, ?_, q11.trans r8.2⟩
    · rw [hext o (ho.imp (fun h => Nat.lt_of_lt_of_le h r5) id)]; exact r7 o ho
    · rw [q11]
      exact r8.1.ad fun o ho => hext o (Or.inr ho)
  have hw := next rr m' hpost q3 ⟨q4, q11⟩ p l e R s mm args below meth c' G ad0 ad' T'.heap (locs ++ L) la Q C K RR RT RL' (fun q hq => okv_le q4 (hls q hq)) (fun w hw => by
    rcases List.mem_append.mp hw with h | h
    · cases rr with
      | none => cases h
      | some v => rw [List.mem_singleton.mp h]; exact hvok v rfl
    · exact okv_le q4 (hst w h)) (by rw [cvl_ext hext hls]; exact hla)
  have es : (rr.toList ++ st).map (cv ad') = (rr.map (cv ad')).toList ++ st.map (cv ad) := by
    rw [List.map_append, cvs_ext hext hst]
    cases rr <;> rfl
  unfold WT at hw
  rw [es] at hw
  have hw2 := W_tight (cells := mN m - mN m0 + (NN - mN m)) (slots := mZ m - mZ m0 + (ZZ - mZ m)) (by
    rw [e1]
    show t.heap.size ≤ s.heap.size + (mN m' - mN m0)
    have : H.size ≤ s.heap.size + (mN m - mN m0) := f1
    omega) (by
    rw [e1]
    omega) hw
  obtain ⟨t2, a1, b1⟩ := hw2 T' rfl X'
  exact ⟨t2, go t2 a1, b1⟩
theorem blind {G : AG} {ad0 : Nat → Nat} {m0 : Mem} {sz tt : Nat} {av : List Value} : FrameBlind (va_Pc av (Pa G ad0 m0 sz tt)) := fun a U g mk q => by
  obtain ⟨q0, q1, q2, qP, qK, qD, qO⟩ := q
  exact ⟨q0, q1, q2, qP, ⟨va_K.moved (u := U) (U := U.calling g mk a) (Vm.Alike.refl U.vm) qK.1, Kx.same (u := U) (U := U.calling g mk a) rfl qK.2⟩, qD, qO.same rfl rfl⟩
theorem Pa_of {G : AG} {s U : State} {ad0 ad : Nat → Nat} {H : Heap} {locs : List Loc} (RL : Rl μ G s m0 m ad0 ad H locs) (K : Kn G s) (hU : U.heap = H) (hW : s.WarmedH U.vm) : Pa G ad m H.size (tot H) U :=
  ⟨by rw [hU], by rw [hU], by rw [hU]; exact RL.1, ⟨va_K.moved hW.alike K.1, Kx.warm hW K.2⟩, RL.2.1.weaken (fun _ _ _ _ => trivial), RL.2.2.2.2.2.2.2.1.call RL.2.2.1 hU hW (fun q hq => by
    rcases hq with ⟨o, ho, rfl⟩ | hq
    · exact RL.2.1.2 o _ (wsM_get ho)
    · exact Or.inr (Nat.le_trans RL.2.2.1.1 hq))⟩
/-- what the tables say of a method that is called: of an object (cwD), a class (csD), a constructor (ciD, cnD) -/
def cD (own : String) (idx n : Nat) (μ' : MI) : Prop := (Cond.code (μy μ') (μc μ') (μn μ') (μr μ') ∈ lwg ∧ Cond.methodLink own idx (μy μ') ∈ lwg ∧ Cond.initialized (μy μ').cls ∈ lwg) ∧ ((μy μ').cls ≠ "java/lang/invoke/MethodHandle" ∧ (μy μ').cls ≠ "java/lang/invoke/VarHandle" ∧ (parseMethodDescriptor (μy μ').desc).map (fun d => d.parameters.length) = some n) ∧ μn μ' ≤ 22
def cwD (own : String) (idx n c : Nat) (μ' : MI) : Prop := cD own idx n μ' ∧ Cond.instanceMethod (μy μ') ∈ lwg ∧ Cond.selects (μy μ').cls (μy μ') (μy μ') ∈ lwg ∧ (clsL[c]?).map (fun r => r.1) = some (μy μ').cls
def csD (own : String) (idx n : Nat) (μ' : MI) : Prop := cD own idx n μ' ∧ Cond.static (μy μ') ∈ lwg
def ciD (own : String) (idx n : Nat) (μ' : MI) : Prop := cD own idx n μ' ∧ Cond.instanceMethod (μy μ') ∈ lwg ∧ (μy μ').name = "<init>" ∧ μr μ' = none
def cnD (own : String) (idx n : Nat) (μ' : MI) (host : String) : Prop := (Cond.code (μy μ') (μc μ') (μn μ') (μr μ') ∈ lwg ∧ (own, idx, μy μ', host) ∈ lwx ∧ Cond.initialized (μy μ').cls ∈ lwg) ∧ ((μy μ').cls ≠ "java/lang/invoke/MethodHandle" ∧ (μy μ').cls ≠ "java/lang/invoke/VarHandle" ∧ (parseMethodDescriptor (μy μ').desc).map (fun d => d.parameters.length) = some n) ∧ μn μ' ≤ 22 ∧ Cond.instanceMethod (μy μ') ∈ lwg ∧ (μy μ').name = "<init>" ∧ μr μ' = none
theorem good4 {a b c d x : Cond} (ha : a ∈ lwg) (hb : b ∈ lwg) (hc : c ∈ lwg) (hd : d ∈ lwg) (hx : x ∈ lwg) : GoodIn lwg ([a, b, c, d] ++ (x :: lwg)) := by
  intro w hw
  have hg := lwg_good (y := a) ha
  rcases List.mem_append.mp hw with h | h
  · refine hg w (List.mem_cons_of_mem _ ?_)
    simp only [List.mem_cons, List.not_mem_nil, or_false] at h
    rcases h with rfl | rfl | rfl | rfl <;> assumption
  · exact lwg_good hx w h
theorem good3 {a b c x : Cond} (ha : a ∈ lwg) (hb : b ∈ lwg) (hc : c ∈ lwg) (hx : x ∈ lwg) : GoodIn lwg ([a, b, c] ++ (x :: lwg)) := by
  intro w hw
  have hg := lwg_good (y := a) ha
  rcases List.mem_append.mp hw with h | h
  · refine hg w (List.mem_cons_of_mem _ ?_)
    simp only [List.mem_cons, List.not_mem_nil, or_false] at h
    rcases h with rfl | rfl | rfl <;> assumption
  · exact lwg_good hx w h
theorem roomC {R : Room} {n F' : Nat} (RR : RoomOK R F m0) (hF : F' < F) (hn : n ≤ 22) : (rmF F' m).frames + 1 ≤ R.frames ∧ 8 + (n + 11) + (rmF F' m).locals ≤ R.locals := by
  refine ⟨Nat.le_trans hF RR.1, Nat.le_trans ?_ RR.2.1⟩
  show 8 + (n + 11) + 41 * F' ≤ 41 * F
  omega
theorem roomS {R : Room} {G : AG} {s : State} {ad0 ad : Nat → Nat} {H : Heap} {locs : List Loc} (RL : Rl μ G s m0 m ad0 ad H locs) (RR : RoomOK R F m0) : mN m - mN m0 + (NN - mN m) ≤ R.cells ∧ mZ m - mZ m0 + (ZZ - mZ m) ≤ R.slots := by
  have h1 := RL.2.2.2.1.2.2
  have h2 := RL.2.2.2.2.1
  have h3 := RL.2.2.2.2.2.1
  rw [RR.2.2.1, RR.2.2.2]
  omega
theorem catS (ad : Nat → Nat) (st : List AV) : ((st.map (cv ad)).map fun v => v.category).sum = (st.map ac).sum := by
  rw [List.map_map]
  exact congrArg List.sum (List.map_congr_left fun v _ => cv_cat ad v)
theorem V_callV {μ' : MI} {F' idx n o c N : Nat} {As : List AV} {post' : Option AV → Mem → Prop} {stk : List AV} (hd : decode (μc μ) pc = .ok (.invokevirtual idx, 3)) (hw : cwD (μo μ) idx n c μ') (hstk : stk = As.reverse ++ vr o :: st) (hn : As.length = n) (hT : mT m o = (c, N)) (hc : c < 20) (hs : (st.map ac).sum ≤ 8) (hF : F' < F)
    (hC : Ct μ' F' (vr o :: As) m post') (next : ∀ r m', post' r m' → okM m' → (mN m ≤ mN m' ∧ mS m' = mS m) → V μ F m0 post (pc + 3) ls (r.toList ++ st) m') (h11 : c ≠ 11 := by decide) : V μ F m0 post pc ls stk m := by
  intro p l e R s mm args below meth c' G ad0 ad H locs la Q C K RR RT RL hls hst hla
  subst hstk
  obtain ⟨⟨⟨w1, w2, w3⟩, w4, w5⟩, w6, w7, w8⟩ := hw
  have hM := RL.2.2.2.1
  have ho := ok_lt hM hT ⟨h11, by omega, by omega⟩ (hst (vr o) (List.mem_append_right _ List.mem_cons_self))
  have hargs : ∀ v ∈ vr o :: As, okv (mN m) v := fun v hv => by
    rcases List.mem_cons.mp hv with rfl | hv
    · exact Or.inl ho
    · exact hst v (List.mem_append_left _ (List.mem_reverse.mpr hv))
  have he := wsM_get (G := G) (ad := ad) ho
  rw [ent_obj hT hc] at he
  have hst' : ∀ v ∈ st, okv (mN m) v := fun v hv => hst v (List.mem_append_right _ (List.mem_cons_of_mem _ hv))
  refine V_after (post' := post') C K RR RT RL hls hst' hla next (va_runV (As := As.map (cv ad)) (b := ad o) (n := n) ⟨C.1, C.2.1, C.2.2.1, C.2.2.2.1, C.2.2.2.2.1⟩ (hC hM hargs l G ad H.size (tot H)) (cwV (C := (μy μ').cls) n C.2.2.2.2.1 (good4 w2 w6 w7 w3 w1) rfl rfl rfl ⟨rfl, w4⟩ (roomC RR hF w5)) ⟨blind, ?_, fun U hU hW => ⟨rfl, Pa_of RL K hU hW⟩⟩ rfl (by rw [List.length_map]; exact hn) hla.1 (by rw [List.map_append, List.map_reverse]; rfl) (lv_room (by rw [catS]; exact hs)) hd (roomS RL RR))
  cases hcl : clsL[c]? with
  | none => rw [hcl] at w8; cases w8
  | some q =>
    rw [hcl] at w8
    have h := va_recv K.1 RL.1 hcl he
    rw [show q.1 = (μy μ').cls from Option.some.inj w8] at h
    exact h
theorem V_callS {μ' : MI} {F' idx n : Nat} {As : List AV} {post' : Option AV → Mem → Prop} {stk : List AV} (hd : decode (μc μ) pc = .ok (.invokestatic idx, 3)) (hw : csD (μo μ) idx n μ') (hstk : stk = As.reverse ++ st) (hn : As.length = n) (hs : (st.map ac).sum ≤ 8) (hF : F' < F)
    (hC : Ct μ' F' As m post') (next : ∀ r m', post' r m' → okM m' → (mN m ≤ mN m' ∧ mS m' = mS m) → V μ F m0 post (pc + 3) ls (r.toList ++ st) m') : V μ F m0 post pc ls stk m := by
  intro p l e R s mm args below meth c' G ad0 ad H locs la Q C K RR RT RL hls hst hla
  subst hstk
  obtain ⟨⟨⟨w1, w2, w3⟩, w4, w5⟩, w6⟩ := hw
  have hM := RL.2.2.2.1
  have hargs : ∀ v ∈ As, okv (mN m) v := fun v hv => hst v (List.mem_append_left _ (List.mem_reverse.mpr hv))
  have hst' : ∀ v ∈ st, okv (mN m) v := fun v hv => hst v (List.mem_append_right _ hv)
  exact V_after (post' := post') C K RR RT RL hls hst' hla next (va_runS (As := As.map (cv ad)) (n := n) ⟨C.1, C.2.1, C.2.2.1, C.2.2.2.1, C.2.2.2.2.1⟩ (hC hM hargs l G ad H.size (tot H)) (va_cwS n C.2.2.2.2.1 (good3 w2 w6 w3 w1) rfl rfl rfl w4 (roomC RR hF w5)) ⟨blind, fun U hU hW => ⟨rfl, Pa_of RL K hU hW⟩⟩ rfl (by rw [List.length_map]; exact hn) hla.1 (by rw [List.map_append, List.map_reverse]) (lv_room (by rw [catS]; exact hs)) hd (roomS RL RR))
theorem V_callI {μ' : MI} {F' idx n o : Nat} {As : List AV} {post' : Option AV → Mem → Prop} {stk : List AV} (hd : decode (μc μ) pc = .ok (.invokespecial idx, 3)) (hw : ciD (μo μ) idx n μ') (hstk : stk = As.reverse ++ vr o :: st) (hn : As.length = n) (hs : (st.map ac).sum ≤ 8) (hF : F' < F)
    (hC : Ct μ' F' (vr o :: As) m post') (next : ∀ r m', post' r m' → okM m' → (mN m ≤ mN m' ∧ mS m' = mS m) → V μ F m0 post (pc + 3) ls (r.toList ++ st) m') : V μ F m0 post pc ls stk m := by
  intro p l e R s mm args below meth c' G ad0 ad H locs la Q C K RR RT RL hls hst hla
  subst hstk
  obtain ⟨⟨⟨w1, w2, w3⟩, w4, w5⟩, w6, w7, w8⟩ := hw
  have hM := RL.2.2.2.1
  have hargs : ∀ v ∈ vr o :: As, okv (mN m) v := fun v hv => by
    rcases List.mem_cons.mp hv with rfl | hv
    · exact hst (vr o) (List.mem_append_right _ List.mem_cons_self)
    · exact hst v (List.mem_append_left _ (List.mem_reverse.mpr hv))
  have hst' : ∀ v ∈ st, okv (mN m) v := fun v hv => hst v (List.mem_append_right _ (List.mem_cons_of_mem _ hv))
  have hMet := hC hM hargs l G ad H.size (tot H)
  unfold wsY at hMet
  rw [w8] at hMet w1
  exact V_after (post' := post') C K RR RT RL hls hst' hla next (va_runI (As := As.map (cv ad)) (b := ad o) (n := n) ⟨C.1, C.2.1, C.2.2.1, C.2.2.2.1, C.2.2.2.2.1⟩ hMet (cwI n C.2.2.2.2.1 (lwg_good w1) rfl rfl rfl (C.2.2.2.2.1 _ w3) (C.2.2.2.2.1 _ w2) (C.2.2.2.2.1 _ w6) w7 w4 (roomC RR hF w5)) ⟨blind, fun U hU hW => ⟨rfl, Pa_of RL K hU hW⟩⟩ rfl (by rw [List.length_map]; exact hn) hla.1 (by rw [List.map_append, List.map_reverse]; rfl) (lv_room (by rw [catS]; exact hs)) hd (roomS RL RR))
theorem V_callN {μ' : MI} {F' idx n o : Nat} {host : String} {As : List AV} {post' : Option AV → Mem → Prop} {stk : List AV} (hd : decode (μc μ) pc = .ok (.invokespecial idx, 3)) (hw : cnD (μo μ) idx n μ' host) (hstk : stk = As.reverse ++ vr o :: st) (hn : As.length = n) (hs : (st.map ac).sum ≤ 8) (hF : F' < F)
    (hC : Ct μ' F' (vr o :: As) m post') (next : ∀ r m', post' r m' → okM m' → (mN m ≤ mN m' ∧ mS m' = mS m) → V μ F m0 post (pc + 3) ls (r.toList ++ st) m') : V μ F m0 post pc ls stk m := by
  intro p l e R s mm args below meth c' G ad0 ad H locs la Q C K RR RT RL hls hst hla
  subst hstk
  obtain ⟨⟨w1, w2, w3⟩, w4, w5, w6, w7, w8⟩ := hw
  have hM := RL.2.2.2.1
  have hargs : ∀ v ∈ vr o :: As, okv (mN m) v := fun v hv => by
    rcases List.mem_cons.mp hv with rfl | hv
    · exact hst (vr o) (List.mem_append_right _ List.mem_cons_self)
    · exact hst v (List.mem_append_left _ (List.mem_reverse.mpr hv))
  have hst' : ∀ v ∈ st, okv (mN m) v := fun v hv => hst v (List.mem_append_right _ (List.mem_cons_of_mem _ hv))
  have hMet := hC hM hargs l G ad H.size (tot H)
  unfold wsY at hMet
  rw [w8] at hMet w1
  have nw : va_Nw (.methodLinkNest (μo μ) idx (μy μ') host) s := K.2.1 _ w2
  exact V_after (post' := post') C K RR RT RL hls hst' hla next (va_runIN (host := host) (As := As.map (cv ad)) (b := ad o) (n := n) ⟨C.1, C.2.1, C.2.2.1, C.2.2.2.1, C.2.2.2.2.1⟩ hMet ⟨va_cnB n C.2.2.2.2.1 (lwg_good w1) rfl rfl rfl nw (C.2.2.2.2.1 _ w3) w4 (roomC RR hF w5), w7, C.2.2.2.2.1 _ w6⟩ ⟨blind, fun U hU hW => ⟨rfl, Pa_of RL K hU hW⟩⟩ rfl (by rw [List.length_map]; exact hn) hla.1 (by rw [List.map_append, List.map_reverse]; rfl) (lv_room (by rw [catS]; exact hs)) hd (roomS RL RR))
theorem V_objInit {o idx : Nat} (hd : decode (μc μ) pc = .ok (.invokespecial idx, 3)) (h1 : Cond.methodLink (μo μ) idx Lib.objectInit ∈ lwg) (h2 : Cond.instanceMethod Lib.objectInit ∈ lwg) (h3 : Cond.code Lib.objectInit ⟨#[0xb1]⟩ 1 none ∈ lwg) (hF : 0 < F) (hs : (st.map ac).sum ≤ 8) (next : V μ F m0 post (pc + 3) ls st m) : V μ F m0 post pc ls (vr o :: st) m := by
  intro p l e R s mm args below meth c' G ad0 ad H locs la Q C K RR RT RL hls hst hla
  refine W.objInit C.1 C.2.1 C.2.2.2.1 (C.2.2.2.2.1 _ h1) (C.2.2.2.2.1 _ h2) (C.2.2.2.2.1 _ h3) rfl (by rw [C.2.2.1]; exact hla.1) rfl hd (Nat.le_trans hF RR.1) ?_ (next p l e R s mm args below meth c' G ad0 ad H locs la Q C K RR RT RL hls (stT hst) hla)
  have := lv_room (m := mm) (pc := pc) (ls := la) (rest := (vr o :: st).map (cv ad)) (st := st.map (cv ad)) (by rw [catS]; exact hs)
  have := RR.2.1
  omega
def cpyI (m : Mem) (a sp b dp n : Nat) : Mem := wI m (fun o k => if o = b ∧ dp ≤ k ∧ k < dp + n then mI m a (sp + (k - dp)) else mI m o k)
def cpyR (m : Mem) (a sp b dp n : Nat) : Mem := wR m (fun o k => if o = b ∧ dp ≤ k ∧ k < dp + n then mR m a (sp + (k - dp)) else mR m o k)
theorem okM_cpyI {a sp b dp n c na nb : Nat} (h : okM m) (ha : mT m a = (c, na)) (hb : mT m b = (c, nb)) (hl : a < mN m) (hl2 : b < mN m) : okM (cpyI m a sp b dp n) := by
  refine ⟨fun q j hq => ?_, h.2.1, h.2.2.1, h.2.2.2.1, OutM.put h.2.2.2.2.1 h.2.2.1 hl2 rfl (fun _ _ => rfl) (fun q hq j => if_neg fun e => hq e.1) (fun _ _ _ => rfl), h.2.2.2.2.2⟩
  show okI (mT m q).1 (if q = b ∧ dp ≤ j ∧ j < dp + n then mI m a (sp + (j - dp)) else mI m q j)
  by_cases e : q = b ∧ dp ≤ j ∧ j < dp + n
  · rw [if_pos e, e.1, hb]
    have h1 := h.1 a (sp + (j - dp)) hl
    rw [ha] at h1
    exact h1
  · rw [if_neg e]; exact h.1 q j hq
theorem okM_cpyR {a sp b dp n : Nat} (h : okM m) (hl : a < mN m) (hl2 : b < mN m) : okM (cpyR m a sp b dp n) := by
  refine ⟨h.1, fun q j o' hq h1 => ?_, h.2.2.1, h.2.2.2.1, OutM.put h.2.2.2.2.1 h.2.2.1 hl2 rfl (fun _ _ => rfl) (fun _ _ _ => rfl) (fun q hq j => if_neg fun e => hq e.1), h.2.2.2.2.2⟩
  have h1 : (if q = b ∧ dp ≤ j ∧ j < dp + n then mR m a (sp + (j - dp)) else mR m q j) = some o' := h1
  by_cases e : q = b ∧ dp ≤ j ∧ j < dp + n
  · rw [if_pos e] at h1; exact h.2.1 a _ o' hl h1
  · rw [if_neg e] at h1; exact h.2.1 q j o' hq h1
def acD (own : String) (idx : Nat) : Prop := Cond.methodLink own idx arraycopyName ∈ lwg ∧ Cond.native arraycopyName ∈ lwg ∧ Cond.static arraycopyName ∈ lwg ∧ Cond.initialized "java/lang/System" ∈ lwg
theorem V_acopy {a b c na nb idx : Nat} {sp dp n : Int} (hd : decode (μc μ) pc = .ok (.invokestatic idx, 3)) (hw : acD (μo μ) idx) (ha : mT m a = (c, na)) (hb : mT m b = (c, nb)) (hc : c = 20 ∨ c = 21) (h1 : 0 ≤ sp) (h2 : 0 ≤ dp) (h3 : 0 ≤ n) (h4 : sp + n ≤ na) (h5 : dp + n ≤ nb) (hF : 0 < F) (hs : (st.map ac).sum ≤ 8) (next : V μ F m0 post (pc + 3) ls st (cpyI m a sp.toNat b dp.toNat n.toNat)) : V μ F m0 post pc ls (vi n :: vi dp :: vr b :: vi sp :: vr a :: st) m := by
  intro p l e R s mm args below meth c' G ad0 ad H locs la Q C K RR RT RL hls hst hla
  have hM := RL.2.2.2.1
  have hn32 : I32 n := hst (vi n) (by simp)
  have hd32 : I32 dp := hst (vi dp) (by simp)
  have hs32 : I32 sp := hst (vi sp) (by simp)
  have hla' := ok_lt hM ha ⟨by omega, by omega, by omega⟩ (hst (vr a) (by simp))
  have hlb := ok_lt hM hb ⟨by omega, by omega, by omega⟩ (hst (vr b) (by simp))
  have hst' : ∀ v ∈ st, okv (mN m) v := stT (stT (stT (stT (stT hst))))
  have nn : ∀ {x : Int}, I32 x → 0 ≤ x → ¬ Int32.ofInt x < 0 := fun hx h0 => by rw [show (0 : Int32) = Int32.ofInt 0 from rfl, i32_lt hx i32_0]; omega
  have hea := wsM_get (G := G) (ad := ad) hla'
  have heb := wsM_get (G := G) (ad := ad) hlb
  have hloc : ((st.map (cv ad)).map fun v => v.category).sum + (nativeFrameWords "java/lang/System" "arraycopy" 5 + 11) ≤ R.locals := by
    rw [catS]
    have := RR.2.1
    have : nativeFrameWords "java/lang/System" "arraycopy" 5 = 7 := by decide +kernel
    omega
  have nx : ∀ (e' : va_E), ent G ad (cpyI m a sp.toNat b dp.toNat n.toNat) b = e' → ∀ (H1 : Heap) (locs1 : List Loc), va_P G.1 clsL ((wsM G ad m).set b (ad b, e')) H1 → va_D (Aof ad0 (mN m0) s.heap.size) ((wsM G ad m).set b (ad b, e')) → va_S (Aof ad0 (mN m0) s.heap.size) s.heap H1 locs1 → WT p l e R s mm args below meth c' m0 m H1 locs1 Q (pc + 3) la (st.map (cv ad)) := fun e' e2 H1 locs1 hP hD hS =>
    next p l e R s mm args below meth c' G ad0 ad H1 locs1 la Q C K RR RT (Rl_put (m' := cpyI m a sp.toNat b dp.toNat n.toNat) RL rfl rfl rfl (fun _ _ => rfl) (fun q hq j => if_neg (fun e => hq e.1)) (fun _ _ _ => rfl) e2 (okM_cpyI hM ha hb hla' hlb) hP hD hS) hls hst' hla
  rcases hc with rfl | rfl
  · rw [ent_20 ha] at hea
    rw [ent_20 hb] at heb
    refine va_copyi C.1 C.2.1 (C.2.2.1.trans hla.1.symm) C.2.2.2.1 (C.2.2.2.2.1 _ hw.1) (C.2.2.2.2.1 _ hw.2.1) (C.2.2.2.2.1 _ hw.2.2.1) (C.2.2.2.2.1 _ hw.2.2.2) K.1 RL.1 RL.2.1 RL.2.2.1 a b 0 0 hea heb rfl rfl rfl (nn hs32 h1) (nn hd32 h2) (nn hn32 h3) (by rw [i32_tn hs32, i32_tn hn32]; omega) (by rw [i32_tn hd32, i32_tn hn32]; omega) (fun _ _ => rfl) (Nat.le_trans hF RR.1) hloc hd ?_
    rw [i32_tn hs32, i32_tn hd32, i32_tn hn32]
    refine nx _ ?_
    rw [ent_20 (m := cpyI m a sp.toNat b dp.toNat n.toNat) hb]
    refine congrArg (fun f => (.inl (G.2 0, nb, .inl f) : va_E)) (funext fun j => ?_)
    show Int32.ofInt (if b = b ∧ dp.toNat ≤ j ∧ j < dp.toNat + n.toNat then mI m a (sp.toNat + (j - dp.toNat)) else mI m b j) = _
    unfold va_cpy
    by_cases h : dp.toNat ≤ j ∧ j < dp.toNat + n.toNat
    · rw [if_pos ⟨rfl, h⟩, if_pos h]
    · rw [if_neg (fun e => h e.2), if_neg h]
  · rw [ent_21 ha] at hea
    rw [ent_21 hb] at heb
    refine va_copyl C.1 C.2.1 (C.2.2.1.trans hla.1.symm) C.2.2.2.1 (C.2.2.2.2.1 _ hw.1) (C.2.2.2.2.1 _ hw.2.1) (C.2.2.2.2.1 _ hw.2.2.1) (C.2.2.2.2.1 _ hw.2.2.2) K.1 RL.1 RL.2.1 RL.2.2.1 a b 1 1 hea heb rfl rfl rfl (nn hs32 h1) (nn hd32 h2) (nn hn32 h3) (by rw [i32_tn hs32, i32_tn hn32]; omega) (by rw [i32_tn hd32, i32_tn hn32]; omega) (fun _ _ => rfl) (Nat.le_trans hF RR.1) hloc hd ?_
    rw [i32_tn hs32, i32_tn hd32, i32_tn hn32]
    refine nx _ ?_
    rw [ent_21 (m := cpyI m a sp.toNat b dp.toNat n.toNat) hb]
    refine congrArg (fun f => (.inl (G.2 1, nb, .inr (.inl f)) : va_E)) (funext fun j => ?_)
    show Int64.ofInt (if b = b ∧ dp.toNat ≤ j ∧ j < dp.toNat + n.toNat then mI m a (sp.toNat + (j - dp.toNat)) else mI m b j) = _
    unfold va_cpy
    by_cases h : dp.toNat ≤ j ∧ j < dp.toNat + n.toNat
    · rw [if_pos ⟨rfl, h⟩, if_pos h]
    · rw [if_neg (fun e => h e.2), if_neg h]
end ROWS6
