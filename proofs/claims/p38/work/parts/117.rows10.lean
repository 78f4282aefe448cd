/-! ROWS OF THE WALK, 10: calls on Strings and builders, copies of bytes, narrowing -/
section ROWS10
variable {μ : MI} {F : Nat} {m0 : Mem} {post : Option AV → Mem → Prop} {pc : Nat} {ls : AL} {st : List AV} {m : Mem}
theorem goodL {l : List Cond} {x : Cond} (h : ∀ w ∈ l, w ∈ lwg) (hx : x ∈ lwg) : GoodIn lwg (l ++ (x :: lwg)) := by
  intro w hw
  rcases List.mem_append.mp hw with h1 | h1
  · exact lwg_good (h w h1) w (List.mem_cons_of_mem _ (h w h1))
  · exact lwg_good hx w h1
def cuD (own : String) (idx n : Nat) (μ' : MI) : Prop := cD own idx n μ' ∧ Cond.sameMethod (μy μ').cls (μy μ').cls (μy μ').name (μy μ').desc ∈ lwg ∧ Cond.selects RJ4 (μy μ') (μy μ') ∈ lwg ∧ Cond.instanceMethod (μy μ') ∈ lwg
def cuS (own : String) (idx n : Nat) (μ' : MI) : Prop := cD own idx n μ' ∧ Cond.sameMethod (μy μ').cls (μy μ').cls (μy μ').name (μy μ').desc ∈ lwg ∧ Cond.superclass own (μy μ').cls ∈ lwg ∧ Cond.instanceMethod (μy μ') ∈ lwg ∧ (μy μ').name ≠ "<init>"
def coD (own : String) (idx n : Nat) (x : MethodName) (μ' : MI) : Prop := (Cond.code (μy μ') (μc μ') (μn μ') (μr μ') ∈ lwg ∧ Cond.methodLink own idx x ∈ lwg ∧ Cond.initialized (μy μ').cls ∈ lwg) ∧ (x.cls ≠ "java/lang/invoke/MethodHandle" ∧ x.cls ≠ "java/lang/invoke/VarHandle" ∧ (parseMethodDescriptor x.desc).map (fun d => d.parameters.length) = some n) ∧ μn μ' ≤ 22 ∧ Cond.sameMethod x.cls x.cls x.name x.desc ∈ lwg ∧ Cond.instanceMethod x ∈ lwg ∧ Cond.selects RJ4 x (μy μ') ∈ lwg ∧ Cond.instanceMethod (μy μ') ∈ lwg ∧ ∃ b0 m0 r0, Cond.code x b0 m0 r0 ∈ lwg
/-- a call on a String -/
theorem V_callVS {μ' : MI} {F' idx n o : Nat} {As : List AV} {post' : Option AV → Mem → Prop} {stk : List AV} (hd : decode (μc μ) pc = .ok (.invokevirtual idx, 3)) (hw : cwD (μo μ) idx n 11 μ') (hstk : stk = As.reverse ++ vr o :: st) (hn : As.length = n) (hT : mT m o = (11, 4)) (hs : (st.map ac).sum ≤ 8) (hF : F' < F)
    (hC : Ct μ' F' (vr o :: As) m post') (next : ∀ r m', post' r m' → okM m' → (mN m ≤ mN m' ∧ mS m' = mS m) → V μ F m0 post (pc + 3) ls (r.toList ++ st) m') : V μ F m0 post pc ls stk m := by
  intro p l e R s mm args below meth c' G ad0 ad H locs la Q C K RR RT RL' hls hst hla
  subst hstk
  obtain ⟨⟨⟨w1, w2, w3⟩, w4, w5⟩, w6, w7, w8⟩ := hw
  have hM := RL'.2.2.2.1
  have ho : o < mN m ∨ isOut o := hst (vr o) (List.mem_append_right _ List.mem_cons_self)
  have hargs : ∀ v ∈ vr o :: As, okv (mN m) v := fun v hv => by
    rcases List.mem_cons.mp hv with rfl | hv
    · exact ho
    · exact hst v (List.mem_append_left _ (List.mem_reverse.mpr hv))
  have hst' : ∀ v ∈ st, okv (mN m) v := fun v hv => hst v (List.mem_append_right _ (List.mem_cons_of_mem _ hv))
  refine V_after (post' := post') C K RR RT RL' hls hst' hla next (va_runV (As := As.map (cv ad)) (b := ad o) (n := n) ⟨C.1, C.2.1, C.2.2.1, C.2.2.2.1, C.2.2.2.2.1⟩ (hC hM hargs l G ad H.size (tot H)) (cwV (C := (μy μ').cls) n C.2.2.2.2.1 (good4 w2 w6 w7 w3 w1) rfl rfl rfl ⟨rfl, w4⟩ (roomC RR hF w5)) ⟨blind, ?_, fun U hU hW => ⟨rfl, Pa_of RL' K hU hW⟩⟩ rfl (by rw [List.length_map]; exact hn) hla.1 (by rw [List.map_append, List.map_reverse]; rfl) (lv_room (by rw [catS]; exact hs)) hd (roomS RL' RR))
  rw [← show RJ0 = (μy μ').cls from Option.some.inj w8]
  exact str_any RL' K hT ho
theorem sb_recv {G : AG} {s : State} {ad0 ad : Nat → Nat} {H : Heap} {locs : List Loc} {o : Nat} (RL' : Rl μ G s m0 m ad0 ad H locs) (K : Kn G s) (hT : mT m o = (12, 4)) (ho : o < mN m) : ∃ cell : Cell, H[ad o]? = some cell ∧ cell.vm.isStatics = false ∧ s.vm.findClass RJ4 = some cell.cls := by
  have he := wsM_get (G := G) (ad := ad) ho
  rw [ent_obj hT (by decide)] at he
  exact va_recv (ci := 12) (q := (RJ4, TJ4, 4)) K.1 RL'.1 rfl he
/-- a call of a method of the builder's superclass on a builder -/
theorem V_callU {μ' : MI} {F' idx n o : Nat} {As : List AV} {post' : Option AV → Mem → Prop} {stk : List AV} (hd : decode (μc μ) pc = .ok (.invokevirtual idx, 3)) (hw : cuD (μo μ) idx n μ') (hstk : stk = As.reverse ++ vr o :: st) (hn : As.length = n) (hT : mT m o = (12, 4)) (hs : (st.map ac).sum ≤ 8) (hF : F' < F)
    (hC : Ct μ' F' (vr o :: As) m post') (next : ∀ r m', post' r m' → okM m' → (mN m ≤ mN m' ∧ mS m' = mS m) → V μ F m0 post (pc + 3) ls (r.toList ++ st) m') : V μ F m0 post pc ls stk m := by
  intro p l e R s mm args below meth c' G ad0 ad H locs la Q C K RR RT RL' hls hst hla
  subst hstk
  obtain ⟨⟨⟨w1, w2, w3⟩, w4, w5⟩, w6, w7, w8⟩ := hw
  have hM := RL'.2.2.2.1
  have ho := ok_lt hM hT ⟨by decide, by decide, by decide⟩ (hst (vr o) (List.mem_append_right _ List.mem_cons_self))
  have hargs : ∀ v ∈ vr o :: As, okv (mN m) v := fun v hv => by
    rcases List.mem_cons.mp hv with rfl | hv
    · exact Or.inl ho
    · exact hst v (List.mem_append_left _ (List.mem_reverse.mpr hv))
  have hst' : ∀ v ∈ st, okv (mN m) v := fun v hv => hst v (List.mem_append_right _ (List.mem_cons_of_mem _ hv))
  exact V_after (post' := post') C K RR RT RL' hls hst' hla next (va_runU (C := RJ4) (owner := (μy μ').cls) (x := μy μ') (As := As.map (cv ad)) (b := ad o) (n := n) ⟨C.1, C.2.1, C.2.2.1, C.2.2.2.1, C.2.2.2.2.1⟩ (hC hM hargs l G ad H.size (tot H)) (va_cwU n C.2.2.2.2.1 (goodL (fun w hw => by
      simp only [List.mem_cons, List.not_mem_nil, or_false] at hw
      rcases hw with rfl | rfl | rfl | rfl | rfl <;> assumption) w1) rfl rfl rfl rfl w4 (roomC RR hF w5)) ⟨blind, sb_recv RL' K hT ho, fun U hU hW => ⟨rfl, Pa_of RL' K hU hW⟩⟩ rfl (by rw [List.length_map]; exact hn) hla.1 (by rw [List.map_append, List.map_reverse]; rfl) (lv_room (by rw [catS]; exact hs)) hd (roomS RL' RR))
/-- the same where the builder has its own -/
theorem V_callO {μ' : MI} {x : MethodName} {F' idx n o : Nat} {As : List AV} {post' : Option AV → Mem → Prop} {stk : List AV} (hd : decode (μc μ) pc = .ok (.invokevirtual idx, 3)) (hw : coD (μo μ) idx n x μ') (hstk : stk = As.reverse ++ vr o :: st) (hn : As.length = n) (hT : mT m o = (12, 4)) (hs : (st.map ac).sum ≤ 8) (hF : F' < F)
    (hC : Ct μ' F' (vr o :: As) m post') (next : ∀ r m', post' r m' → okM m' → (mN m ≤ mN m' ∧ mS m' = mS m) → V μ F m0 post (pc + 3) ls (r.toList ++ st) m') : V μ F m0 post pc ls stk m := by
  intro p l e R s mm args below meth c' G ad0 ad H locs la Q C K RR RT RL' hls hst hla
  subst hstk
  obtain ⟨⟨w1, w2, w3⟩, w4, w5, w6, w7, w8, w9, b0, q0, r0, w10⟩ := hw
  have hM := RL'.2.2.2.1
  have ho := ok_lt hM hT ⟨by decide, by decide, by decide⟩ (hst (vr o) (List.mem_append_right _ List.mem_cons_self))
  have hargs : ∀ v ∈ vr o :: As, okv (mN m) v := fun v hv => by
    rcases List.mem_cons.mp hv with rfl | hv
    · exact Or.inl ho
    · exact hst v (List.mem_append_left _ (List.mem_reverse.mpr hv))
  have hst' : ∀ v ∈ st, okv (mN m) v := fun v hv => hst v (List.mem_append_right _ (List.mem_cons_of_mem _ hv))
  exact V_after (post' := post') C K RR RT RL' hls hst' hla next (va_runU (C := RJ4) (owner := x.cls) (x := x) (As := As.map (cv ad)) (b := ad o) (n := n) ⟨C.1, C.2.1, C.2.2.1, C.2.2.2.1, C.2.2.2.2.1⟩ (hC hM hargs l G ad H.size (tot H)) (va_cwO n C.2.2.2.2.1 (goodL (fun w hw => by
      simp only [List.mem_cons, List.not_mem_nil, or_false] at hw
      rcases hw with rfl | rfl | rfl | rfl | rfl | rfl <;> assumption) w1) rfl rfl rfl w10 w4 (roomC RR hF w5)) ⟨blind, sb_recv RL' K hT ho, fun U hU hW => ⟨rfl, Pa_of RL' K hU hW⟩⟩ rfl (by rw [List.length_map]; exact hn) hla.1 (by rw [List.map_append, List.map_reverse]; rfl) (lv_room (by rw [catS]; exact hs)) hd (roomS RL' RR))
/-- super.m(..) of a builder -/
theorem V_callSU {μ' : MI} {F' idx n o : Nat} {As : List AV} {post' : Option AV → Mem → Prop} {stk : List AV} (hd : decode (μc μ) pc = .ok (.invokespecial idx, 3)) (hw : cuS (μo μ) idx n μ') (hstk : stk = As.reverse ++ vr o :: st) (hn : As.length = n) (hT : mT m o = (12, 4)) (hs : (st.map ac).sum ≤ 8) (hF : F' < F)
    (hC : Ct μ' F' (vr o :: As) m post') (next : ∀ r m', post' r m' → okM m' → (mN m ≤ mN m' ∧ mS m' = mS m) → V μ F m0 post (pc + 3) ls (r.toList ++ st) m') : V μ F m0 post pc ls stk m := by
  intro p l e R s mm args below meth c' G ad0 ad H locs la Q C K RR RT RL' hls hst hla
  subst hstk
  obtain ⟨⟨⟨w1, w2, w3⟩, w4, w5⟩, w6, w7, w8, w9⟩ := hw
  have hM := RL'.2.2.2.1
  have ho := ok_lt hM hT ⟨by decide, by decide, by decide⟩ (hst (vr o) (List.mem_append_right _ List.mem_cons_self))
  have hargs : ∀ v ∈ vr o :: As, okv (mN m) v := fun v hv => by
    rcases List.mem_cons.mp hv with rfl | hv
    · exact Or.inl ho
    · exact hst v (List.mem_append_left _ (List.mem_reverse.mpr hv))
  have hst' : ∀ v ∈ st, okv (mN m) v := fun v hv => hst v (List.mem_append_right _ (List.mem_cons_of_mem _ hv))
  exact V_after (post' := post') C K RR RT RL' hls hst' hla next (va_runSU (C := RJ4) (cC := G.1.1 12) (As := As.map (cv ad)) (b := ad o) (n := n) (K.1.1 12 _ rfl).2 ⟨C.1, C.2.1, C.2.2.1, C.2.2.2.1, C.2.2.2.2.1⟩ (hC hM hargs l G ad H.size (tot H)) (va_cwSU n C.2.2.2.2.1 (goodL (fun w hw => by
      simp only [List.mem_cons, List.not_mem_nil, or_false] at hw
      rcases hw with rfl | rfl | rfl | rfl | rfl <;> assumption) w1) rfl rfl rfl ⟨w9, w4.2.2⟩ (roomC RR hF w5)) ⟨blind, sb_recv RL' K hT ho, fun U hU hW => ⟨rfl, Pa_of RL' K hU hW⟩⟩ rfl (by rw [List.length_map]; exact hn) hla.1 (by rw [List.map_append, List.map_reverse]; rfl) (lv_room (by rw [catS]; exact hs)) hd (roomS RL' RR))
theorem byt_8 {o n : Nat} (hM : okM m) (hT : mT m o = (24, n)) (ho : o < mN m ∨ isOut o) (k : Nat) : I8 (mI m o k) := by
  rcases byt_cases hM hT ho with ho | ⟨ho, hI⟩
  · have h := hM.1 o k ho
    rw [hT] at h
    exact h
  · rw [hI]
    rcases ho with ⟨i, hi, rfl, -⟩ | ⟨rfl | rfl, -⟩
    · rw [outI_kB hi]; exact lit_8 hi
    · unfold outI; rw [if_neg (by omega), if_pos rfl]; unfold I8; omega
    · unfold outI; rw [if_neg (by omega), if_neg (by omega), if_pos rfl]; unfold I8; omega
theorem fit_8 {x : Int} (h : I8 x) : fits .byte (.int (Int32.ofInt x)) = true := by
  have key : ∀ k : Fin 256, fits .byte (.int (Int32.ofInt ((k.val : Int) - 128))) = true := by decide +kernel
  unfold I8 at h
  have h1 := key ⟨(x + 128).toNat, by omega⟩
  have e : (((x + 128).toNat : Nat) : Int) - 128 = x := by omega
  simp only [e] at h1
  exact h1
theorem okM_cpyB {a sp b dp n na nb : Nat} (h : okM m) (ha : mT m a = (24, na)) (hb : mT m b = (24, nb)) (hl : a < mN m ∨ isOut a) (hl2 : b < mN m) : okM (cpyI m a sp b dp n) := by
  refine ⟨fun q j hq => ?_, h.2.1, h.2.2.1, h.2.2.2.1, OutM.put h.2.2.2.2.1 h.2.2.1 hl2 rfl (fun _ _ => rfl) (fun q hq j => if_neg fun e => hq e.1) (fun _ _ _ => rfl), h.2.2.2.2.2⟩
  show okI (mT m q).1 (if q = b ∧ dp ≤ j ∧ j < dp + n then mI m a (sp + (j - dp)) else mI m q j)
  by_cases e : q = b ∧ dp ≤ j ∧ j < dp + n
  · rw [if_pos e, e.1, hb]
    exact byt_8 h ha hl _
  · rw [if_neg e]; exact h.1 q j hq
theorem V_acopyB {a b na nb idx : Nat} {sp dp n : Int} (hd : decode (μc μ) pc = .ok (.invokestatic idx, 3)) (hw : acD (μo μ) idx) (ha : mT m a = (24, na)) (hb : mT m b = (24, nb)) (hlb : b < mN m) (h1 : 0 ≤ sp) (h2 : 0 ≤ dp) (h3 : 0 ≤ n) (h4 : sp + n ≤ na) (h5 : dp + n ≤ nb) (hF : 0 < F) (hs : (st.map ac).sum ≤ 8) (next : V μ F m0 post (pc + 3) ls st (cpyI m a sp.toNat b dp.toNat n.toNat)) : V μ F m0 post pc ls (vi n :: vi dp :: vr b :: vi sp :: vr a :: st) m := by
  intro p l e R s mm args below meth c' G ad0 ad H locs la Q C K RR RT RL' hls hst hla
  have hM := RL'.2.2.2.1
  have hn32 : I32 n := hst (vi n) (by simp)
  have hd32 : I32 dp := hst (vi dp) (by simp)
  have hs32 : I32 sp := hst (vi sp) (by simp)
  have hla' : a < mN m ∨ isOut a := hst (vr a) (by simp)
  have hst' : ∀ v ∈ st, okv (mN m) v := stT (stT (stT (stT (stT hst))))
  have nn : ∀ {x : Int}, I32 x → 0 ≤ x → ¬ Int32.ofInt x < 0 := fun hx h0 => by rw [show (0 : Int32) = Int32.ofInt 0 from rfl, i32_lt hx i32_0]; omega
  have heb := wsM_get (G := G) (ad := ad) hlb
  have hloc : ((st.map (cv ad)).map fun v => v.category).sum + (nativeFrameWords "java/lang/System" "arraycopy" 5 + 11) ≤ R.locals := by
    rw [catS]
    have := RR.2.1
    have : nativeFrameWords "java/lang/System" "arraycopy" 5 = 7 := by decide +kernel
    omega
  rw [ent_24 hb] at heb
  have nx : ∀ (e' : va_E), ent G ad (cpyI m a sp.toNat b dp.toNat n.toNat) b = e' → ∀ (H1 : Heap) (locs1 : List Loc), va_P G.1 clsL ((wsM G ad m).set b (ad b, e')) H1 → va_D (Aof ad0 (mN m0) s.heap.size) ((wsM G ad m).set b (ad b, e')) → va_S (Aof ad0 (mN m0) s.heap.size) s.heap H1 locs1 → WT p l e R s mm args below meth c' m0 m H1 locs1 Q (pc + 3) la (st.map (cv ad)) := fun e' e2 H1 locs1 hP hD hS =>
    next p l e R s mm args below meth c' G ad0 ad H1 locs1 la Q C K RR RT (Rl_put (m' := cpyI m a sp.toNat b dp.toNat n.toNat) RL' rfl rfl rfl (fun _ _ => rfl) (fun q hq j => if_neg (fun e => hq e.1)) (fun _ _ _ => rfl) e2 (okM_cpyB hM ha hb hla' hlb) hP hD hS) hls hst' hla
  have e3 : ∀ f : Nat → Int32, (∀ j, f j = Int32.ofInt (mI m a j)) → ent G ad (cpyI m a sp.toNat b dp.toNat n.toNat) b = .inl (G.2 4, nb, .inl (va_cpy f (fun j => Int32.ofInt (mI m b j)) sp.toNat dp.toNat n.toNat)) := fun f hf => by
    rw [ent_24 (m := cpyI m a sp.toNat b dp.toNat n.toNat) hb]
    refine congrArg (fun f => (.inl (G.2 4, nb, .inl f) : va_E)) (funext fun j => ?_)
    show Int32.ofInt (if b = b ∧ dp.toNat ≤ j ∧ j < dp.toNat + n.toNat then mI m a (sp.toNat + (j - dp.toNat)) else mI m b j) = _
    unfold va_cpy
    by_cases h : dp.toNat ≤ j ∧ j < dp.toNat + n.toNat
    · rw [if_pos ⟨rfl, h⟩, if_pos h, hf]
    · rw [if_neg (fun e => h e.2), if_neg h]
  rcases byt_cases hM ha hla' with ho | ⟨ho, hI⟩
  · have hea := wsM_get (G := G) (ad := ad) ho
    rw [ent_24 ha] at hea
    refine va_copyi C.1 C.2.1 (C.2.2.1.trans hla.1.symm) C.2.2.2.1 (C.2.2.2.2.1 _ hw.1) (C.2.2.2.2.1 _ hw.2.1) (C.2.2.2.2.1 _ hw.2.2.1) (C.2.2.2.2.1 _ hw.2.2.2) K.1 RL'.1 RL'.2.1 RL'.2.2.1 a b 4 4 hea heb rfl rfl rfl (nn hs32 h1) (nn hd32 h2) (nn hn32 h3) (by rw [i32_tn hs32, i32_tn hn32]; omega) (by rw [i32_tn hd32, i32_tn hn32]; omega) (fun _ _ => fit_8 (byt_8 hM ha hla' _)) (Nat.le_trans hF RR.1) hloc hd ?_
    rw [i32_tn hs32, i32_tn hd32, i32_tn hn32]
    exact nx _ (e3 _ fun _ => rfl)
  · refine vk_copyt C.1 C.2.1 (C.2.2.1.trans hla.1.symm) C.2.2.2.1 (C.2.2.2.2.1 _ hw.1) (C.2.2.2.2.1 _ hw.2.1) (C.2.2.2.2.1 _ hw.2.2.1) (C.2.2.2.2.1 _ hw.2.2.2) K.1 RL'.1 RL'.2.1 RL'.2.2.1 (RL'.2.2.2.2.2.2.2.1.byt ho) b 4 heb rfl (nn hs32 h1) (nn hd32 h2) (nn hn32 h3) (by rw [i32_tn hs32, i32_tn hn32]; omega) (by rw [i32_tn hd32, i32_tn hn32]; omega) (fun _ _ => by rw [← hI]; exact fit_8 (byt_8 hM ha hla' _)) (Nat.le_trans hF RR.1) hloc hd ?_
    rw [i32_tn hs32, i32_tn hd32, i32_tn hn32]
    exact nx _ (e3 _ fun j => by rw [hI])
/-- a copy of a row of bytes: a new object -/
def clnB (m : Mem) (a n : Nat) : Mem := (fun o => if o = mN m then (24, n) else mT m o, fun o k => if o = mN m then mI m a k else mI m o k, fun o k => if o = mN m then none else mR m o k, mN m + 1, mZ m + n, mS m)
theorem okM_clnB {a n : Nat} (h : okM m) (ha : mT m a = (24, n)) (hl : a < mN m) (hn : mN m + 1 ≤ NN) (hz : mZ m + n ≤ ZZ) : okM (clnB m a n) := by
  refine ⟨fun o k ho => ?_, fun o k o' ho h1 => ?_, hn, hz, fun o ho => ?_, h.2.2.2.2.2⟩
  · by_cases e : o = mN m
    · have e1 : mI (clnB m a n) o k = mI m a k := if_pos e
      have e2 : mT (clnB m a n) o = (24, n) := if_pos e
      rw [e1, e2, ← ha]
      exact h.1 a k hl
    · have e1 : mI (clnB m a n) o k = mI m o k := if_neg e
      have e2 : mT (clnB m a n) o = mT m o := if_neg e
      have ho : o < mN m + 1 := ho
      rw [e1, e2]
      exact h.1 o k (by omega)
  · by_cases e : o = mN m
    · have e1 : mR (clnB m a n) o k = none := if_pos e
      rw [e1] at h1; cases h1
    · have e1 : mR (clnB m a n) o k = mR m o k := if_neg e
      have ho : o < mN m + 1 := ho
      rw [e1] at h1
      exact (h.2.1 o k o' (by omega) h1).imp Nat.lt_succ_of_lt id
  · have e : o ≠ mN m := out_ne hn (Nat.lt_succ_self _) ho
    have e1 : mT (clnB m a n) o = mT m o := if_neg e
    have e2 : ∀ k, mI (clnB m a n) o k = mI m o k := fun k => if_neg e
    have e3 : ∀ k, mR (clnB m a n) o k = mR m o k := fun k => if_neg e
    rw [e1]
    exact ⟨(h.2.2.2.2.1 o ho).1, fun k => by rw [e2]; exact (h.2.2.2.2.1 o ho).2.1 k, fun k => by rw [e3]; exact (h.2.2.2.2.1 o ho).2.2 k⟩
theorem wsM_cln {G : AG} {ad ad' : Nat → Nat} {a n : Nat} (hR : ∀ o k o', o < mN m → mR m o k = some o' → o' < mN m ∨ isOut o') (h : ∀ o, o < mN m ∨ isOut o → ad' o = ad o) :
    wsM G ad' (clnB m a n) = wsM G ad m ++ [(ad' (mN m), ent G ad' (clnB m a n) (mN m))] := by
  show (List.range (mN m + 1)).map _ = _
  rw [List.range_succ, List.map_append]
  refine congrArg (· ++ _) ?_
  refine List.map_congr_left fun o ho => ?_
  have ho := List.mem_range.mp ho
  have h1 : mT (clnB m a n) o = mT m o := if_neg (by omega)
  have h2 : ∀ k, mI (clnB m a n) o k = mI m o k := fun k => if_neg (by omega)
  have h3 : ∀ k, mR (clnB m a n) o k = mR m o k := fun k => if_neg (by omega)
  rw [h o (Or.inl ho), ent_congr h1 h2 h3]
  have hr : ∀ k, (mR m o k).map ad' = (mR m o k).map ad := by
    intro k
    cases hk : mR m o k with
    | none => rfl
    | some o' => exact congrArg some (h o' (hR o k o' ho hk))
  unfold ent entO sv
  simp only [hr]
theorem V_cloneB {a n idx : Nat} (hd : decode (μc μ) pc = .ok (.invokevirtual idx, 3)) (hl : Cond.methodLink (μo μ) idx ⟨"[B", "clone", "()Ljava/lang/Object;"⟩ ∈ lwg) (ha : mT m a = (24, n)) (hla0 : a < mN m) (hn : mN m + 1 ≤ NN) (hz : mZ m + n ≤ ZZ) (hF : 0 < F) (hs : (st.map ac).sum ≤ 8) (next : V μ F m0 post (pc + 3) ls (vr (mN m) :: st) (clnB m a n)) : V μ F m0 post pc ls (vr a :: st) m := by
  intro p l e R s mm args below meth c' G ad0 ad H locs la Q C K RR RT RL' hls hst hla
  have hM := RL'.2.2.2.1
  have hst' : ∀ v ∈ st, okv (mN m) v := stT hst
  have hea := wsM_get (G := G) (ad := ad) hla0
  rw [ent_24 ha] at hea
  have r2 := RR.2.1
  refine va_clone (ty := .byte) C.1 C.2.1 (C.2.2.1.trans hla.1.symm) C.2.2.2.1 (C.2.2.2.2.1 _ hl) (C.2.2.2.2.1 _ wcl_2) (C.2.2.2.2.1 _ wcl_3) (C.2.2.2.2.1 _ wcl_4) (C.2.2.2.2.1 _ wcl_5) K.2.2.2.2.2.2 K.1 RL'.1 RL'.2.1 RL'.2.2.1 (fun q hq => Or.inr hq) a 4 hea rfl (va_nm_byte (K.1.2 4 _ rfl).2) (fun i v hv => va_fit (ty := .byte) (n := n) (F := fun j => .int (Int32.ofInt (mI m a j))) (fun i _ => fit_8 (byt_8 hM ha (Or.inl hla0) _)) i v hv) (Nat.le_trans hF RR.1) (by rw [catS]; omega) ?_ ?_ hd (fun q H1 hK hP hD hS => ?_)
  · have := RL'.2.2.2.2.1
    rw [RR.2.2.1]; omega
  · have := RL'.2.2.2.2.2.1
    rw [RR.2.2.2]
    show mZ m - mZ m0 + n ≤ _
    omega
  · have hext : ∀ o, o < mN m ∨ isOut o → adN ad (mN m) q o = ad o := fun o ho => ho.elim (fun h => adN_lt h) (fun h => adN_out hM.2.2.1 h)
    have he : ent G (adN ad (mN m) q) (clnB m a n) (mN m) = .inl (G.2 4, n, .inl (fun j => Int32.ofInt (mI m a j))) := by
      rw [ent_24 (m := clnB m a n) (if_pos rfl)]
      refine congrArg (fun f => (.inl (G.2 4, n, .inl f) : va_E)) (funext fun j => ?_)
      rw [show mI (clnB m a n) (mN m) j = mI m a j from if_pos rfl]
    have hw : wsM G (adN ad (mN m) q) (clnB m a n) = wsM G ad m ++ [(q, .inl (G.2 4, n, .inl (fun j => Int32.ofInt (mI m a j))))] := by
      rw [wsM_cln hM.2.1 hext, adN_s, he]
    have RL2 : Rl μ G s m0 (clnB m a n) ad0 (adN ad (mN m) q) H1 locs := by
      obtain ⟨-, -, -, r4, r5, r6, r7, r8⟩ := RL'
      refine ⟨by rw [hw]; exact hP, by rw [hw]; exact hD, hS, okM_clnB r4 ha hla0 hn hz, Nat.le_succ_of_le r5, Nat.le_trans r6 (Nat.le_add_right _ _), fun o ho => ?_, r8.1.ad fun o ho => adN_out r4.2.2.1 ho, r8.2⟩
      rcases ho with ho | ho
      · rw [adN_lt (Nat.lt_of_lt_of_le ho r5)]; exact r7 o (Or.inl ho)
      · rw [adN_out r4.2.2.1 ho]; exact r7 o (Or.inr ho)
    have hN : mN m ≤ mN (clnB m a n) := Nat.le_succ _
    have h := next p l e R s mm args below meth c' G ad0 (adN ad (mN m) q) H1 locs la Q C K RR RT RL2 (fun q hq => okv_le hN (hls q hq)) (st0 (fun v hv => okv_le hN (hst' v hv)) (Or.inl (Nat.lt_succ_self _))) (by rw [cvl_ext hext hls]; exact hla)
    have e1 : mN (clnB m a n) - mN m0 = mN m - mN m0 + 1 := by
      have := RL'.2.2.2.2.1
      show mN m + 1 - mN m0 = _
      omega
    have e2 : mZ (clnB m a n) - mZ m0 = mZ m - mZ m0 + n := by
      have := RL'.2.2.2.2.2.1
      show mZ m + n - mZ m0 = _
      omega
    unfold WT at h
    rw [e1, e2, List.map_cons, cvs_ext hext hst'] at h
    rw [show cv (adN ad (mN m) q) (vr (mN m)) = .ref q from congrArg Value.ref adN_s] at h
    exact h
theorem V_castB {a n idx : Nat} (hd : decode (μc μ) pc = .ok (.checkcast idx, 3)) (hl : Cond.classLink (μo μ) idx "[B" ∈ lwg) (ha : mT m a = (24, n)) (hla0 : a < mN m) (next : V μ F m0 post (pc + 3) ls (vr a :: st) m) : V μ F m0 post pc ls (vr a :: st) m := by
  intro p l e R s mm args below meth c' G ad0 ad H locs la Q C K RR RT RL' hls hst hla
  have hea := wsM_get (G := G) (ad := ad) hla0
  rw [ent_24 ha] at hea
  exact va_castA C.1 C.2.1 C.2.2.2.1 (C.2.2.2.2.1 _ hl) RL'.1 a hea (va_nm_byte (K.1.2 4 _ rfl).2) hd (next p l e R s mm args below meth c' G ad0 ad H locs la Q C K RR RT RL' hls hst hla)
theorem V_i2c {x : Int} (hd : decode (μc μ) pc = .ok (.i2c, 1)) (hx : 0 ≤ x ∧ x < 128) (next : V μ F m0 post (pc + 1) ls (vi x :: st) m) : V μ F m0 post pc ls (vi x :: st) m := by
  intro p l e R s mm args below meth c' G ad0 ad H locs la Q C K RR RT RL' hls hst hla
  refine lv_i2c C.1 C.2.1 (v := Int32.ofInt x) hd ?_ (next p l e R s mm args below meth c' G ad0 ad H locs la Q C K RR RT RL' hls hst hla)
  have key : ∀ k : Fin 128, ((Int32.ofInt (k.val : Int)).toUInt32 % 65536).toInt32 = Int32.ofInt (k.val : Int) := by decide +kernel
  have h1 := key ⟨x.toNat, by omega⟩
  have e : ((x.toNat : Nat) : Int) = x := by omega
  simp only [e] at h1
  exact h1
theorem V_i2b {x : Int} (hd : decode (μc μ) pc = .ok (.i2b, 1)) (hx : I8 x) (next : V μ F m0 post (pc + 1) ls (vi x :: st) m) : V μ F m0 post pc ls (vi x :: st) m := by
  intro p l e R s mm args below meth c' G ad0 ad H locs la Q C K RR RT RL' hls hst hla
  refine lv_i2b C.1 C.2.1 (v := Int32.ofInt x) hd ?_ (next p l e R s mm args below meth c' G ad0 ad H locs la Q C K RR RT RL' hls hst hla)
  have key : ∀ k : Fin 256, (Int32.ofInt ((k.val : Int) - 128)).toInt8.toInt32 = Int32.ofInt ((k.val : Int) - 128) := by decide +kernel
  unfold I8 at hx
  have h1 := key ⟨(x + 128).toNat, by omega⟩
  have e : (((x + 128).toNat : Nat) : Int) - 128 = x := by omega
  simp only [e] at h1
  exact h1
theorem V_dupx1 {a b : AV} (hd : decode (μc μ) pc = .ok (.dup_x1, 1)) (ha : ac a = 1) (hb : ac b = 1) (next : V μ F m0 post (pc + 1) ls (a :: b :: a :: st) m) : V μ F m0 post pc ls (a :: b :: st) m := by
  intro p l e R s mm args below meth c' G ad0 ad H locs la Q C K RR RT RL' hls hst hla
  refine lv_dup_x1 C.1 C.2.1 hd ((cv_cat ad a).trans ha) ((cv_cat ad b).trans hb) ?_
  refine next p l e R s mm args below meth c' G ad0 ad H locs la Q C K RR RT RL' hls (fun w hw => ?_) hla
  rcases List.mem_cons.mp hw with rfl | hw
  · exact hst _ List.mem_cons_self
  rcases List.mem_cons.mp hw with rfl | hw
  · exact hst _ (List.mem_cons_of_mem _ List.mem_cons_self)
  rcases List.mem_cons.mp hw with rfl | hw
  · exact hst _ List.mem_cons_self
  · exact hst _ (List.mem_cons_of_mem _ (List.mem_cons_of_mem _ hw))
end ROWS10
