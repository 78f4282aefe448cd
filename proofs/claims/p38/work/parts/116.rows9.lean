/-! ROWS OF THE WALK, 9: Strings, builders, rows of bytes, rows of rows, statics, what lies outside -/
section ROWS9
variable {μ : MI} {F : Nat} {m0 : Mem} {post : Option AV → Mem → Prop} {pc : Nat} {ls : AL} {st : List AV} {m : Mem}
/-- a place outside, by what it is -/
theorem out_cases {o : Nat} (h : isOut o) : o = SC ∨ (∃ i, i < 24 ∧ o = kS i) ∨ (∃ i, i < 24 ∧ o = kB i) ∨ o = SC + 49 ∨ o = SC + 50 ∨ o = SC + 51 := by
  unfold isOut at h
  by_cases h0 : o = SC
  · exact Or.inl h0
  by_cases h1 : o < SC + 49
  · by_cases h2 : (o - SC) % 2 = 1
    · refine Or.inr (Or.inl ⟨(o - SC) / 2, by omega, ?_⟩)
      unfold kS; omega
    · refine Or.inr (Or.inr (Or.inl ⟨(o - SC) / 2 - 1, by omega, ?_⟩))
      unfold kB; omega
  · omega
theorem outT_kS (S : Nat × (Nat → Int)) {i : Nat} (h : i < 24) : outT S (kS i) = (11, 4) := by
  unfold outT kS
  rw [if_neg (by omega), if_pos (by omega), if_pos (by omega)]
theorem outT_kB (S : Nat × (Nat → Int)) {i : Nat} (h : i < 24) : outT S (kB i) = (24, (litB.getD i []).length) := by
  unfold outT kB
  rw [if_neg (by omega), if_pos (by omega), if_neg (by omega), show (SC + 2 * i + 2 - SC) / 2 - 1 = i by omega]
theorem outI_kB {i k : Nat} (h : i < 24) : outI (kB i) k = (litB.getD i []).getD k 0 := by
  unfold outI kB
  rw [if_pos (by omega), if_neg (by omega), show (SC + 2 * i + 2 - SC) / 2 - 1 = i by omega]
theorem outI_kS {i k : Nat} (h : i < 24) : outI (kS i) k = 0 := by
  unfold outI kS
  rw [if_pos (by omega), if_pos (Or.inl (by omega))]
theorem outR_kS {i : Nat} (h : i < 24) : outR (kS i) 0 = some (kB i) := by
  unfold outR kS
  rw [if_pos ⟨by omega, by omega, rfl⟩]
  rfl
theorem outT_SC (S : Nat × (Nat → Int)) : outT S SC = (99, S.1) := if_pos rfl
theorem outT_49 (S : Nat × (Nat → Int)) : outT S (SC + 49) = (24, 100) := by
  unfold outT
  rw [if_neg (by omega), if_neg (by omega), if_pos (by omega)]
theorem outT_50 (S : Nat × (Nat → Int)) : outT S (SC + 50) = (24, 100) := by
  unfold outT
  rw [if_neg (by omega), if_neg (by omega), if_pos (by omega)]
theorem outT_51 (S : Nat × (Nat → Int)) : outT S (SC + 51) = (99, 0) := by
  unfold outT
  rw [if_neg (by omega), if_neg (by omega), if_neg (by omega)]
theorem lit_L {i : Nat} (h : i < 24) : litL.getD i 0 = (litB.getD i []).length := by
  have key : ∀ k : Fin 24, litL.getD k.val 0 = (litB.getD k.val []).length := by decide +kernel
  exact key ⟨i, h⟩
theorem lit_V {i : Nat} (h : i < 24) : litV.getD i [] = (litB.getD i []).map Int32.ofInt := by
  unfold litV
  rw [List.getD_eq_getElem?_getD, List.getElem?_map, List.getD_eq_getElem?_getD]
  have hl : litB.length = 24 := by decide +kernel
  rw [List.getElem?_eq_getElem (by omega)]
  rfl
theorem getD_map (l : List Int) (k : Nat) : (l.map Int32.ofInt).getD k 0 = Int32.ofInt (l.getD k 0) := by
  rw [List.getD_eq_getElem?_getD, List.getD_eq_getElem?_getD, List.getElem?_map]
  cases l[k]? <;> rfl
theorem lit_8 {i k : Nat} (h : i < 24) : I8 ((litB.getD i []).getD k 0) := by
  have key : ∀ a : Fin 24, ∀ b : Fin 20, (litB.getD a.val []).length ≤ 20 ∧ -128 ≤ (litB.getD a.val []).getD b.val 0 ∧ (litB.getD a.val []).getD b.val 0 < 128 := by decide +kernel
  by_cases hk : k < 20
  · exact (key ⟨i, h⟩ ⟨k, hk⟩).2
  · have h1 := (key ⟨i, h⟩ ⟨0, by decide⟩).1
    have h1 : (litB.getD i []).length ≤ 20 := h1
    have e : (litB.getD i []).getD k 0 = 0 := by
      rw [List.getD_eq_getElem?_getD, List.getElem?_eq_none (by omega)]; rfl
    rw [e]; unfold I8; omega
/-- a String: in the world, or a constant -/
theorem str_cases {o : Nat} (hM : okM m) (hT : mT m o = (11, 4)) (ho : o < mN m ∨ isOut o) : o < mN m ∨ ∃ i, i < 24 ∧ o = kS i ∧ mR m o 0 = some (kB i) ∧ mI m o 1 = 0 := by
  rcases ho with ho | ho
  · exact Or.inl ho
  · have h := hM.2.2.2.2.1 o ho
    rcases out_cases ho with rfl | ⟨i, hi, rfl⟩ | ⟨i, hi, rfl⟩ | rfl | rfl | rfl
    · have e := h.1; rw [hT, outT_SC] at e; cases e
    · exact Or.inr ⟨i, hi, rfl, by rw [h.2.2, outR_kS hi], by rw [h.2.1, outI_kS hi]⟩
    · have e := h.1; rw [hT, outT_kB _ hi] at e; cases e
    · have e := h.1; rw [hT, outT_49] at e; cases e
    · have e := h.1; rw [hT, outT_50] at e; cases e
    · have e := h.1; rw [hT, outT_51] at e; cases e
/-- a row of bytes: in the world, a constant's, or one of the two rows of digits -/
theorem byt_cases {o n : Nat} (hM : okM m) (hT : mT m o = (24, n)) (ho : o < mN m ∨ isOut o) : o < mN m ∨ ((∃ i, i < 24 ∧ o = kB i ∧ n = (litB.getD i []).length) ∨ ((o = SC + 49 ∨ o = SC + 50) ∧ n = 100)) ∧ ∀ k, mI m o k = outI o k := by
  rcases ho with ho | ho
  · exact Or.inl ho
  · have h := hM.2.2.2.2.1 o ho
    rcases out_cases ho with rfl | ⟨i, hi, rfl⟩ | ⟨i, hi, rfl⟩ | rfl | rfl | rfl
    · have e := h.1; rw [hT, outT_SC] at e; cases e
    · have e := h.1; rw [hT, outT_kS _ hi] at e; cases e
    · have e := h.1; rw [hT, outT_kB _ hi] at e
      exact Or.inr ⟨Or.inl ⟨i, hi, rfl, congrArg Prod.snd e⟩, h.2.1⟩
    · have e := h.1; rw [hT, outT_49] at e
      exact Or.inr ⟨Or.inr ⟨Or.inl rfl, congrArg Prod.snd e⟩, h.2.1⟩
    · have e := h.1; rw [hT, outT_50] at e
      exact Or.inr ⟨Or.inr ⟨Or.inr rfl, congrArg Prod.snd e⟩, h.2.1⟩
    · have e := h.1; rw [hT, outT_51] at e; cases e
/-- the bytes that lie outside, as the machine has them -/
theorem Out.byt {A : Nat → Prop} {ad : Nat → Nat} {S : Nat × (Nat → Int)} {s : State} {o n : Nat} (h : Out A ad S s) (ho : (∃ i, i < 24 ∧ o = kB i ∧ n = (litB.getD i []).length) ∨ ((o = SC + 49 ∨ o = SC + 50) ∧ n = 100)) : va_T .byte (ad o) n (fun j => .int (Int32.ofInt (outI o j))) A s s.heap := by
  rcases ho with ⟨i, hi, rfl, rfl⟩ | ⟨rfl | rfl, rfl⟩
  · have h1 := (h.2.1.1 i hi).2.2.2
    rw [lit_L hi, lit_V hi] at h1
    have e : (fun j => Value.int (Int32.ofInt (outI (kB i) j))) = fun j => Value.int (((litB.getD i []).map Int32.ofInt).getD j 0) := funext fun j => by rw [outI_kB hi, getD_map]
    rw [e]; exact h1
  · exact h.2.2.2.2.2.2.1
  · exact h.2.2.2.2.2.2.2.1
theorem okv_R (hM : okM m) {o k : Nat} (ho : o < mN m) : okv (mN m) (vq (mR m o k)) := by
  cases h : mR m o k with
  | none => trivial
  | some o' => exact hM.2.1 o k o' ho h
theorem V_ldcS {idx i : Nat} (hd : decode (μc μ) pc = .ok (.ldc idx, 2)) (hμ : μo μ = RL) (hi : i < 24) (hp : litP.getD i 0 = idx) (next : V μ F m0 post (pc + 2) ls (vr (kS i) :: st) m) : V μ F m0 post pc ls st m := by
  intro p l e R s mm args below meth c' G ad0 ad H locs la Q C K RR RT RL' hls hst hla
  have h := next p l e R s mm args below meth c' G ad0 ad H locs la Q C K RR RT RL' hls (st0 hst (v := vr (kS i)) (Or.inr (isOut_kS hi))) hla
  have hz := RL'.2.2.2.2.2.2.2.1.2.2.1 i hi
  rw [hp] at hz
  exact va_ldcS C.1 C.2.1 (hμ ▸ C.2.2.2.1) hz hd h
theorem V_getsC {idx : Nat} (hd : decode (μc μ) pc = .ok (.getstatic idx, 3)) (hw : Cond.fieldLink (μo μ) idx RJ0 "COMPACT_STRINGS" "Z" ∈ lwg) (next : V μ F m0 post (pc + 3) ls (vi 1 :: st) m) : V μ F m0 post pc ls st m := by
  intro p l e R s mm args below meth c' G ad0 ad H locs la Q C K RR RT RL' hls hst hla
  exact va_gets C.1 C.2.1 RL'.2.2.2.2.2.2.2.1.2.2.2.1 RL'.2.2.1 C.2.2.2.1 (C.2.2.2.2.1 _ hw) (fun _ h => h) hd (next p l e R s mm args below meth c' G ad0 ad H locs la Q C K RR RT RL' hls (st0 hst (v := vi 1) (by show I32 1; unfold I32; omega)) hla)
theorem V_gets49 {idx : Nat} (hd : decode (μc μ) pc = .ok (.getstatic idx, 3)) (hw : Cond.fieldLink (μo μ) idx RJ6 "DigitOnes" "[B" ∈ lwg) (next : V μ F m0 post (pc + 3) ls (vr (SC + 49) :: st) m) : V μ F m0 post pc ls st m := by
  intro p l e R s mm args below meth c' G ad0 ad H locs la Q C K RR RT RL' hls hst hla
  exact va_gets C.1 C.2.1 RL'.2.2.2.2.2.2.2.1.2.2.2.2.1 RL'.2.2.1 C.2.2.2.1 (C.2.2.2.2.1 _ hw) (fun _ h => h) hd (next p l e R s mm args below meth c' G ad0 ad H locs la Q C K RR RT RL' hls (st0 hst (v := vr (SC + 49)) (Or.inr (isOut_c 49 (by decide)))) hla)
theorem V_gets50 {idx : Nat} (hd : decode (μc μ) pc = .ok (.getstatic idx, 3)) (hw : Cond.fieldLink (μo μ) idx RJ6 "DigitTens" "[B" ∈ lwg) (next : V μ F m0 post (pc + 3) ls (vr (SC + 50) :: st) m) : V μ F m0 post pc ls st m := by
  intro p l e R s mm args below meth c' G ad0 ad H locs la Q C K RR RT RL' hls hst hla
  exact va_gets C.1 C.2.1 RL'.2.2.2.2.2.2.2.1.2.2.2.2.2.1 RL'.2.2.1 C.2.2.2.1 (C.2.2.2.2.1 _ hw) (fun _ h => h) hd (next p l e R s mm args below meth c' G ad0 ad H locs la Q C K RR RT RL' hls (st0 hst (v := vr (SC + 50)) (Or.inr (isOut_c 50 (by decide)))) hla)
theorem V_getsF {idx : Nat} (hd : decode (μc μ) pc = .ok (.getstatic idx, 3)) (hw : Cond.fieldLink (μo μ) idx RJ3 "SIOOBE_FORMATTER" "Ljava/util/function/BiFunction;" ∈ lwg) (next : ∀ x : Option Nat, V μ F m0 post (pc + 3) ls (vq x :: st) m) : V μ F m0 post pc ls st m := by
  intro p l e R s mm args below meth c' G ad0 ad H locs la Q C K RR RT RL' hls hst hla
  obtain ⟨x, hx, hz⟩ := RL'.2.2.2.2.2.2.2.1.2.2.2.2.2.2.2.2
  exact va_gets C.1 C.2.1 hz RL'.2.2.1 C.2.2.2.1 (C.2.2.2.2.1 _ hw) (fun _ h => h) hd (next x p l e R s mm args below meth c' G ad0 ad H locs la Q C K RR RT RL' hls (st0 hst (v := vq x) (by
    rcases hx with rfl | rfl
    · trivial
    · exact Or.inr (isOut_c 51 (by decide)))) hla)
/-- a String's bytes -/
theorem V_getSv {o idx b : Nat} (hd : decode (μc μ) pc = .ok (.getfield idx, 3)) (hw : FW (μo μ) idx 11 0 4 true) (hT : mT m o = (11, 4)) (hv : mR m o 0 = some b) (next : V μ F m0 post (pc + 3) ls (vr b :: st) m) : V μ F m0 post pc ls (vr o :: st) m := by
  intro p l e R s mm args below meth c' G ad0 ad H locs la Q C K RR RT RL' hls hst hla
  obtain ⟨Cn, T, hc, hk, hlk, -, -⟩ := hw
  have hM := RL'.2.2.2.1
  rcases str_cases hM hT (hst _ List.mem_cons_self) with ho | ⟨i, hi, rfl, h2, h3⟩
  · have he := wsM_get (G := G) (ad := ad) ho
    rw [ent_obj hT hc.1] at he
    have hx : okv (mN m) (vr b) := by
      have h := okv_R hM ho (k := 0)
      rw [hv] at h
      exact h
    have hv' : (entO ad m o 11 4)[0]? = some (.ref (ad b)) := by
      rw [entO_get hk]; unfold sv; rw [hv]; rfl
    exact va_get C.1 C.2.1 C.2.2.2.2.1 hc.2.2.1 C.2.2.2.1 K.1 RL'.1 o he hc.2.1 0 hk (C.2.2.2.2.1 _ hlk) (fun _ h => h) hv' hd (next p l e R s mm args below meth c' G ad0 ad H locs la Q C K RR RT RL' hls (st1 hst (v := vr b) hx) hla)
  · rw [h2] at hv
    cases hv
    have e := hc.2.1
    cases e
    exact vk_getf C.1 C.2.1 (RL'.2.2.2.2.2.2.2.1.2.1.1 i hi).2.2.1 RL'.2.2.1 C.2.2.2.1 (C.2.2.2.2.1 _ hlk) (fun _ h => h) hd (next p l e R s mm args below meth c' G ad0 ad H locs la Q C K RR RT RL' hls (st1 hst (v := vr (kB i)) (Or.inr (isOut_kB hi))) hla)
/-- a String's coder -/
theorem V_getSc {o idx : Nat} (hd : decode (μc μ) pc = .ok (.getfield idx, 3)) (hw : FW (μo μ) idx 11 1 4 true) (hT : mT m o = (11, 4)) (hv : mI m o 1 = 0) (next : V μ F m0 post (pc + 3) ls (vi 0 :: st) m) : V μ F m0 post pc ls (vr o :: st) m := by
  intro p l e R s mm args below meth c' G ad0 ad H locs la Q C K RR RT RL' hls hst hla
  obtain ⟨Cn, T, hc, hk, hlk, -, -⟩ := hw
  have hM := RL'.2.2.2.1
  have h := next p l e R s mm args below meth c' G ad0 ad H locs la Q C K RR RT RL' hls (st1 hst (v := vi 0) i32_0) hla
  rcases str_cases hM hT (hst _ List.mem_cons_self) with ho | ⟨i, hi, rfl, h2, h3⟩
  · have he := wsM_get (G := G) (ad := ad) ho
    rw [ent_obj hT hc.1] at he
    have hv' : (entO ad m o 11 4)[1]? = some (.int (Int32.ofInt 0)) := by
      rw [entO_get hk]; unfold sv; rw [hv]; rfl
    exact va_get C.1 C.2.1 C.2.2.2.2.1 hc.2.2.1 C.2.2.2.1 K.1 RL'.1 o he hc.2.1 1 hk (C.2.2.2.2.1 _ hlk) (fun _ h => h) hv' hd h
  · have e := hc.2.1
    cases e
    exact vk_getf C.1 C.2.1 (RL'.2.2.2.2.2.2.2.1.2.1.1 i hi).2.1 RL'.2.2.1 C.2.2.2.1 (C.2.2.2.2.1 _ hlk) (fun _ h => h) hd h
theorem V_alenB {o n : Nat} (hd : decode (μc μ) pc = .ok (.arraylength, 1)) (hT : mT m o = (24, n)) (hn : (n : Int) < 2147483648) (next : V μ F m0 post (pc + 1) ls (vi (n : Int) :: st) m) : V μ F m0 post pc ls (vr o :: st) m := by
  intro p l e R s mm args below meth c' G ad0 ad H locs la Q C K RR RT RL' hls hst hla
  have hM := RL'.2.2.2.1
  have h := next p l e R s mm args below meth c' G ad0 ad H locs la Q C K RR RT RL' hls (st1 hst (v := vi (n : Int)) (by show I32 _; unfold I32; omega)) hla
  rcases byt_cases hM hT (hst _ List.mem_cons_self) with ho | ⟨ho, -⟩
  · have he := wsM_get (G := G) (ad := ad) ho
    rw [ent_24 hT] at he
    exact va_alen C.1 C.2.1 K.1 RL'.1 o 4 he rfl Int32.ofInt_eq_ofNat.symm hd h
  · exact va_tlen C.1 C.2.1 (RL'.2.2.2.2.2.2.2.1.byt ho) RL'.2.2.1 (v := Int32.ofInt (n : Int)) Int32.ofInt_eq_ofNat.symm hd h
theorem V_alenQ {o c n : Nat} (hd : decode (μc μ) pc = .ok (.arraylength, 1)) (hT : mT m o = (c, n)) (hc : c = 25 ∨ c = 26) (hn : (n : Int) < 2147483648) (next : V μ F m0 post (pc + 1) ls (vi (n : Int) :: st) m) : V μ F m0 post pc ls (vr o :: st) m := by
  intro p l e R s mm args below meth c' G ad0 ad H locs la Q C K RR RT RL' hls hst hla
  have hM := RL'.2.2.2.1
  have ho := ok_lt hM hT ⟨by omega, by omega, by omega⟩ (hst _ List.mem_cons_self)
  have he := wsM_get (G := G) (ad := ad) ho
  have h := next p l e R s mm args below meth c' G ad0 ad H locs la Q C K RR RT RL' hls (st1 hst (v := vi (n : Int)) (by show I32 _; unfold I32; omega)) hla
  rcases hc with rfl | rfl
  · rw [ent_25 hT] at he
    exact va_alen C.1 C.2.1 K.1 RL'.1 o 5 he rfl Int32.ofInt_eq_ofNat.symm hd h
  · rw [ent_26 hT] at he
    exact va_alen C.1 C.2.1 K.1 RL'.1 o 6 he rfl Int32.ofInt_eq_ofNat.symm hd h
theorem V_bald {o n : Nat} {i v : Int} (hd : decode (μc μ) pc = .ok (.baload, 1)) (hT : mT m o = (24, n)) (hi : 0 ≤ i ∧ i < n) (hv : mI m o i.toNat = v) (next : I32 v → V μ F m0 post (pc + 1) ls (vi v :: st) m) : V μ F m0 post pc ls (vi i :: vr o :: st) m := by
  subst hv
  refine V_rs next |> fun next => ?_
  intro p l e R s mm args below meth c' G ad0 ad H locs la Q C K RR RT RL' hls hst hla
  have hM := RL'.2.2.2.1
  have hi32 : I32 i := hst _ List.mem_cons_self
  rcases byt_cases hM hT (hst (vr o) (List.mem_cons_of_mem _ List.mem_cons_self)) with ho | ⟨ho, hI⟩
  · have he := wsM_get (G := G) (ad := ad) ho
    rw [ent_24 hT] at he
    have hx : I32 (mI m o i.toNat) := by
      have h := hM.1 o i.toNat ho
      rw [hT] at h
      exact okI_32 h (show (24 : Nat) ≠ 21 by decide)
    refine va_bald C.1 C.2.1 K.1 RL'.1 o 4 he rfl (vpin hi32 hi) hd ?_
    rw [i32_tn hi32]
    exact next p l e R s mm args below meth c' G ad0 ad H locs la Q C K RR RT RL' hls (st2 hst (v := vi (mI m o i.toNat)) hx) hla
  · have hx : I32 (mI m o i.toNat) := by
      rw [hI]
      rcases ho with ⟨k, hk, rfl, -⟩ | ⟨rfl | rfl, -⟩
      · rw [outI_kB hk]; have := lit_8 (k := i.toNat) hk; unfold I8 at this; unfold I32; omega
      · unfold outI; rw [if_neg (by omega), if_pos rfl]; unfold I32; omega
      · unfold outI; rw [if_neg (by omega), if_neg (by omega), if_pos rfl]; unfold I32; omega
    refine va_tb C.1 C.2.1 (RL'.2.2.2.2.2.2.2.1.byt ho) RL'.2.2.1 (vpin hi32 hi) (v := .int (Int32.ofInt (mI m o i.toNat))) (by rw [i32_tn hi32, hI]) hd ?_
    exact next p l e R s mm args below meth c' G ad0 ad H locs la Q C K RR RT RL' hls (st2 hst (v := vi (mI m o i.toNat)) hx) hla
theorem nar_byte {x : Int} (h : I8 x) : vp_nar .byte (Int32.ofInt x) = Int32.ofInt x := by
  have key : ∀ k : Fin 256, vp_nar .byte (Int32.ofInt ((k.val : Int) - 128)) = Int32.ofInt ((k.val : Int) - 128) := by decide +kernel
  unfold I8 at h
  have h1 := key ⟨(x + 128).toNat, by omega⟩
  have e : (((x + 128).toNat : Nat) : Int) - 128 = x := by omega
  simp only [e] at h1
  exact h1
theorem V_bast {o n : Nat} {i x : Int} (hd : decode (μc μ) pc = .ok (.bastore, 1)) (hT : mT m o = (24, n)) (ho : o < mN m) (hi : 0 ≤ i ∧ i < n) (hx8 : I8 x) (next : V μ F m0 post (pc + 1) ls st (setI m o i.toNat x)) : V μ F m0 post pc ls (vi x :: vi i :: vr o :: st) m := by
  intro p l e R s mm args below meth c' G ad0 ad H locs la Q C K RR RT RL' hls hst hla
  have hM := RL'.2.2.2.1
  have hi32 : I32 i := hst _ (List.mem_cons_of_mem _ List.mem_cons_self)
  have he := wsM_get (G := G) (ad := ad) ho
  rw [ent_24 hT] at he
  have e2 : ent G ad (setI m o i.toNat x) o = .inl (G.2 4, n, .inl (upd (fun j => Int32.ofInt (mI m o j)) i.toNat (Int32.ofInt x))) := by
    rw [ent_24 (m := setI m o i.toNat x) hT]
    refine congrArg (fun f => (.inl (G.2 4, n, .inl f) : va_E)) (funext fun j => ?_)
    show Int32.ofInt (up2 (mI m) o i.toNat x o j) = upd (fun j => Int32.ofInt (mI m o j)) i.toNat (Int32.ofInt x) j
    unfold upd
    by_cases h : j = i.toNat
    · rw [h, up2_s, if_pos rfl]
    · rw [up2_nk h, if_neg h]
  refine va_bast C.1 C.2.1 K.1 RL'.1 RL'.2.1 RL'.2.2.1 o 4 he rfl (vpin hi32 hi) hd ?_
  rw [i32_tn hi32, nar_byte hx8]
  exact fun H1 locs1 hP hD hS => next p l e R s mm args below meth c' G ad0 ad H1 locs1 la Q C K RR RT (Rl_put (m' := setI m o i.toNat x) RL' rfl rfl rfl (fun _ _ => rfl) (fun q hq j => up2_no hq) (fun _ _ _ => rfl) e2 (okM_setI hM ho (by rw [hT]; exact hx8)) hP hD hS) hls (stT (stT (stT hst))) hla
theorem V_newB {n : Int} (hd : decode (μc μ) pc = .ok (.newarray .byte, 2)) (hn : mN m + 1 ≤ NN) (hz : mZ m + n.toNat ≤ ZZ) (h0 : 0 ≤ n) (h1 : n ≤ 1000000) (next : V μ F m0 post (pc + 2) ls (vr (mN m) :: st) (newO m 24 n.toNat)) : V μ F m0 post pc ls (vi n :: st) m := by
  intro p l e R s mm args below meth c' G ad0 ad H locs la Q C K RR RT RL' hls hst hla
  have h32 : I32 n := hst _ List.mem_cons_self
  have e2 : ∀ q, ent G (adN ad (mN m) q) (newO m 24 n.toNat) (mN m) = .inl (G.2 4, n.toNat, .inl (fun _ => 0)) := fun q => by
    rw [ent_24 mT_new]
    refine congrArg (fun f => (.inl (G.2 4, n.toNat, .inl f) : va_E)) (funext fun j => ?_)
    rw [show mI (newO m 24 n.toNat) (mN m) j = 0 from if_pos rfl]
    rfl
  refine va_newa (atype := .byte) (ty := .byte) (a0 := (n.toNat, .inl (fun _ => 0))) C.1 C.2.1 (C.2.2.2.2.1 _ wa_byte) rfl K.1 RL'.1 RL'.2.1 RL'.2.2.1 (fun q hq => Or.inr hq) (fun cA => rfl) (by rw [show (0 : Int32) = Int32.ofInt 0 from rfl, i32_lt h32 i32_0]; omega) (i32_tn h32) ?_ ?_ ?_ hd (fun q cA H1 hK hP hD hS => ?_)
  · show n.toNat * 1 ≤ _
    omega
  · have := RL'.2.2.2.2.1
    rw [RR.2.2.1]; omega
  · have := RL'.2.2.2.2.2.1
    rw [RR.2.2.2]; omega
  · have hcA : cA = G.2 4 := by
      have h1 : s.vm.findClass ("[" ++ FieldType.byte.toString) = some cA := (hK.2 7 _ rfl).2
      have h2 : s.vm.findClass ("[" ++ FieldType.byte.toString) = some (G.2 4) := (K.1.2 4 _ rfl).2
      rw [h1] at h2
      exact Option.some.inj h2
    rw [hcA] at hP hD
    exact V_after_new C K RR RT RL' hls (stT hst) hla hn hz (e2 q) next hP hD hS
theorem V_newT {n : Int} {idx : Nat} (hd : decode (μc μ) pc = .ok (.anewarray idx, 3)) (hn : mN m + 1 ≤ NN) (hz : mZ m + n.toNat ≤ ZZ) (h0 : 0 ≤ n) (h1 : n ≤ 1000000) (hl : Cond.classLink (μo μ) idx RJ0 ∈ lwg) (next : V μ F m0 post (pc + 3) ls (vr (mN m) :: st) (newO m 26 n.toNat)) : V μ F m0 post pc ls (vi n :: st) m := by
  intro p l e R s mm args below meth c' G ad0 ad H locs la Q C K RR RT RL' hls hst hla
  have h32 : I32 n := hst _ List.mem_cons_self
  refine va_newq C.1 C.2.1 C.2.2.2.1 (C.2.2.2.2.1 _ hl) K.2.2.2.2.2.1 K.1 RL'.1 RL'.2.1 RL'.2.2.1 (fun q hq => Or.inr hq) (by rw [show (0 : Int32) = Int32.ofInt 0 from rfl, i32_lt h32 i32_0]; omega) (i32_tn h32) ?_ ?_ ?_ hd (fun q cA H1 hK hP hD hS => ?_)
  · omega
  · have := RL'.2.2.2.2.1
    rw [RR.2.2.1]; omega
  · have := RL'.2.2.2.2.2.1
    rw [RR.2.2.2]; omega
  · obtain ⟨-, -, -, -, -, h1⟩ := (hK.2 7 _ rfl).2
    obtain ⟨-, -, -, -, -, h2⟩ := (K.1.2 6 _ rfl).2
    have hcA : cA = G.2 6 := by
      rw [h1] at h2
      exact Option.some.inj h2
    rw [hcA] at hP hD
    exact V_after_new C K RR RT RL' hls (stT hst) hla hn hz (by
      rw [ent_26 mT_new]
      refine congrArg (fun f => (.inl (G.2 6, n.toNat, .inr (.inr (.inr (.inr f)))) : va_E)) (funext fun j => ?_)
      rw [show mR (newO m 26 n.toNat) (mN m) j = none from if_pos rfl]
      rfl) next hP hD hS
theorem V_newA {n : Int} {idx : Nat} (hd : decode (μc μ) pc = .ok (.anewarray idx, 3)) (hn : mN m + 1 ≤ NN) (hz : mZ m + n.toNat ≤ ZZ) (h0 : 0 ≤ n) (h1 : n ≤ 1000000) (hl : Cond.classLink (μo μ) idx "[I" ∈ lwg) (next : V μ F m0 post (pc + 3) ls (vr (mN m) :: st) (newO m 25 n.toNat)) : V μ F m0 post pc ls (vi n :: st) m := by
  intro p l e R s mm args below meth c' G ad0 ad H locs la Q C K RR RT RL' hls hst hla
  have h32 : I32 n := hst _ List.mem_cons_self
  have hA : ∀ q, s.heap.size ≤ q → Aof ad0 (mN m0) s.heap.size q := fun q hq => Or.inr hq
  refine W.anewA (t := .int) C.1 C.2.1 C.2.2.2.1 (C.2.2.2.2.1 _ (show Cond.classLink (μo μ) idx (FieldType.array .int).toString ∈ lwg from hl)) K.2.2.2.2.1 rfl hd rfl (by rw [show (0 : Int32) = Int32.ofInt 0 from rfl, i32_lt h32 i32_0]; omega) (by rw [i32_tn h32]; omega) ?_ ?_ (fun cA kA comp f1 f2 f3 f4 => ?_)
  · have := RL'.2.2.2.2.1
    rw [RR.2.2.1]; omega
  · have := RL'.2.2.2.2.2.1
    rw [RR.2.2.2, i32_tn h32]; omega
  · have hcA : cA = G.2 5 := by
      have h2 : s.vm.findClass ("[" ++ (FieldType.array .int).toString) = some (G.2 5) := (K.1.2 5 _ rfl).2
      rw [f1] at h2
      exact Option.some.inj h2
    subst hcA
    rw [i32_tn h32]
    generalize hH1 : H.push ({ cls := G.2 5, slots := Array.replicate n.toNat .null, vm := .none } : Cell) = H1
    have z1 : H1.size = H.size + 1 := by rw [← hH1, Array.size_push]
    have e1 : H1[H.size]? = some (arrV (G.2 5) n.toNat (fun _ => .null)) := by rw [← hH1, Array.getElem?_push_size, ← arrV_new]
    have o1 : ∀ q : Nat, q < H.size → H1[q]? = H[q]? := fun q hq => by rw [← hH1, Array.getElem?_push, if_neg (Nat.ne_of_lt hq)]
    have hk : ∀ (k : Nat) (x : Nat × va_E), (wsM G ad m)[k]? = some x → H1[x.1]? = H[x.1]? := fun k x hx => o1 x.1 ((RL'.1 k x hx).lt)
    refine V_after_new (q := H.size) (e := .inl (G.2 5, n.toNat, .inr (.inr (.inr (.inr (fun _ => none)))))) C K RR RT RL' hls (stT hst) hla hn hz ?_ next ((RL'.1.kept hk).app (fun k x hx => ?_)) (RL'.2.1.push RL'.1 rfl (hA _ RL'.2.2.1.1)) ⟨Nat.le_trans RL'.2.2.1.1 (by omega), fun x h1 h2 => (o1 x (Nat.lt_of_lt_of_le h1 RL'.2.2.1.1)).trans (RL'.2.2.1.2.1 x h1 h2), RL'.2.2.1.2.2⟩
    · rw [ent_25 mT_new]
      refine congrArg (fun f => (.inl (G.2 5, n.toNat, .inr (.inr (.inr (.inr f)))) : va_E)) (funext fun j => ?_)
      rw [show mR (newO m 25 n.toNat) (mN m) j = none from if_pos rfl]
      rfl
    · have hz : k < 1 := (List.getElem?_eq_some_iff.mp hx).1
      rw [show k = 0 by omega] at hx
      cases hx
      show H1[H.size]? = some (vp_cell _ _)
      rw [vp_cell_q]
      exact e1
theorem V_aaldQ {o c n : Nat} {i : Int} {q : Option Nat} (hd : decode (μc μ) pc = .ok (.aaload, 1)) (hT : mT m o = (c, n)) (hc : c = 25 ∨ c = 26) (hi : 0 ≤ i ∧ i < n) (hv : mR m o i.toNat = q) (next : V μ F m0 post (pc + 1) ls (vq q :: st) m) : V μ F m0 post pc ls (vi i :: vr o :: st) m := by
  subst hv
  intro p l e R s mm args below meth c' G ad0 ad H locs la Q C K RR RT RL' hls hst hla
  have hM := RL'.2.2.2.1
  have ho := ok_lt hM hT ⟨by omega, by omega, by omega⟩ (hst _ (List.mem_cons_of_mem _ List.mem_cons_self))
  have hi32 : I32 i := hst _ List.mem_cons_self
  have he := wsM_get (G := G) (ad := ad) ho
  have h := next p l e R s mm args below meth c' G ad0 ad H locs la Q C K RR RT RL' hls (st2 hst (v := vq (mR m o i.toNat)) (okv_R hM ho)) hla
  rcases hc with rfl | rfl
  · rw [ent_25 hT] at he
    have hin := vpin hi32 hi
    have hlt : (Int32.ofInt i).toNatClampNeg < n := Nat.not_le.mp fun q => hin (Or.inr q)
    refine W.aald (v := va_rf ((mR m o (Int32.ofInt i).toNatClampNeg).map ad)) (ty := .array .int) C.1 C.2.1 (RL'.1 o _ he) ((K.1.2 5 _ rfl).1 n (fun j => va_rf ((mR m o j).map ad))) rfl (fun q => by cases q) (by show ¬ (Int32.ofInt i < 0 ∨ (arrV _ _ _).slots.size ≤ _); rw [arrV_size]; exact hin) (by show (arrV _ _ _).slots[_]? = _; rw [arrV_read _ _ hlt]) rfl rfl hd ?_
    rw [i32_tn hi32]
    exact h
  · rw [ent_26 hT] at he
    refine va_aldq C.1 C.2.1 K.1 RL'.1 o 6 he rfl (vpin hi32 hi) hd ?_
    rw [i32_tn hi32]
    exact h
theorem up_ent {ad : Nat → Nat} {m : Mem} {o k : Nat} {x : Option Nat} : (fun j => (up2 (mR m) o k x o j).map ad) = va_up (fun j => (mR m o j).map ad) k (x.map ad) := by
  funext j
  unfold va_up
  by_cases h : j = k
  · rw [h, up2_s, if_pos rfl]
  · rw [up2_nk h, if_neg h]
/-- a row of ints comes into a row of rows -/
theorem V_aastA {o n v N : Nat} {i : Int} (hd : decode (μc μ) pc = .ok (.aastore, 1)) (hT : mT m o = (25, n)) (hi : 0 ≤ i ∧ i < n) (hx : mT m v = (20, N)) (next : V μ F m0 post (pc + 1) ls st (setR m o i.toNat (some v))) : V μ F m0 post pc ls (vr v :: vi i :: vr o :: st) m := by
  intro p l e' R s mm args below meth c' G ad0 ad H locs la Q C K RR RT RL' hls hst hla
  have hM := RL'.2.2.2.1
  have ho := ok_lt hM hT ⟨by decide, by decide, by decide⟩ (hst _ (List.mem_cons_of_mem _ (List.mem_cons_of_mem _ List.mem_cons_self)))
  have hv := ok_lt hM hx ⟨by decide, by decide, by decide⟩ (hst _ List.mem_cons_self)
  have hi32 : I32 i := hst _ (List.mem_cons_of_mem _ List.mem_cons_self)
  have he := wsM_get (G := G) (ad := ad) ho
  have hve := wsM_get (G := G) (ad := ad) hv
  rw [ent_25 hT] at he
  rw [ent_20 hx] at hve
  have hin := vpin hi32 hi
  have hlt : (Int32.ofInt i).toNatClampNeg < n := Nat.not_le.mp fun q => hin (Or.inr q)
  have h0 : ¬ Int32.ofInt i < 0 := fun q => hin (Or.inl q)
  obtain ⟨comp, cA, kA, k1, k2, k3, k4, k5⟩ := arrayOverA_spec K.2.2.2.2.1
  have hcA : cA = G.2 5 := by
    have h2 : s.vm.findClass ("[" ++ (FieldType.array .int).toString) = some (G.2 5) := (K.1.2 5 _ rfl).2
    rw [k5] at h2
    exact Option.some.inj h2
  subst hcA
  have hcomp : comp = G.2 0 := by
    have h2 : s.vm.findClass ("[" ++ FieldType.int.toString) = some (G.2 0) := (K.1.2 0 _ rfl).2
    have k1 : s.vm.findClass ("[" ++ FieldType.int.toString) = some comp := k1
    rw [k1] at h2
    exact Option.some.inj h2
  subst hcomp
  obtain ⟨kE, hkE, -⟩ := Vm.findClass_spec k1
  refine W.aast (t := .array .int) C.1 C.2.1 (RL'.1 o _ he) (fun q h => by cases h) (fun h => by cases h) k3 k4 rfl hkE ⟨h0, by show _ < (arrV _ _ _).slots.size; rw [arrV_size]; exact hlt⟩ (RL'.1 v _ hve) (fun q h => by cases h) hkE (va_asg _ _) rfl rfl hd fun H1 e z oq => ?_
  have e2 : ent G ad (setR m o i.toNat (some v)) o = .inl (G.2 5, n, .inr (.inr (.inr (.inr (va_up (fun j => (mR m o j).map ad) i.toNat (some (ad v))))))) := by
    rw [ent_25 (m := setR m o i.toNat (some v)) hT]
    exact congrArg (fun f => (.inl (G.2 5, n, .inr (.inr (.inr (.inr f)))) : va_E)) (up_ent (ad := ad) (m := m) (x := some v))
  refine next p l e' R s mm args below meth c' G ad0 ad H1 _ la Q C K RR RT (Rl_put (m' := setR m o i.toNat (some v)) RL' rfl rfl rfl (fun _ _ => rfl) (fun _ _ _ => rfl) (fun q hq j => up2_no hq) e2 (okM_setR hM ho (fun o' h => by cases h; exact Or.inl hv)) (RL'.1.set RL'.2.1 he ?_ oq) (RL'.2.1.set he) (RL'.2.2.1.put z oq (RL'.2.1.2 o _ he))) hls (stT (stT (stT hst))) hla
  show H1[ad o]? = some (vp_cell _ _)
  rw [e]
  rw [vp_cell_q, vp_cell_q, arrV_store, i32_tn hi32]
  congr 2
  funext q
  by_cases hq : q = i.toNat
  · subst hq
    simp [updV, va_up, va_rf]
  · simp [updV, va_up, hq]
/-- what the machine knows of a String, wherever it is -/
theorem str_any {G : AG} {s : State} {ad0 ad : Nat → Nat} {H : Heap} {locs : List Loc} {v : Nat} (RL' : Rl μ G s m0 m ad0 ad H locs) (K : Kn G s) (hx : mT m v = (11, 4)) (hv : v < mN m ∨ isOut v) : ∃ cell : Cell, H[ad v]? = some cell ∧ cell.vm.isStatics = false ∧ s.vm.findClass RJ0 = some cell.cls := by
  rcases str_cases RL'.2.2.2.1 hx hv with ho | ⟨i, hi, rfl, -, -⟩
  · have he := wsM_get (G := G) (ad := ad) ho
    rw [ent_obj hx (by decide)] at he
    exact va_recv (ci := 11) (q := (RJ0, TJ0, 4)) K.1 RL'.1 rfl he
  · exact vk_recv (i := i) (adK := fun i => ad (kS i)) RL'.2.2.2.2.2.2.2.1.2.1 hi RL'.2.2.1
theorem V_aastT {o n v : Nat} {i : Int} (hd : decode (μc μ) pc = .ok (.aastore, 1)) (hT : mT m o = (26, n)) (hi : 0 ≤ i ∧ i < n) (hx : mT m v = (11, 4)) (next : V μ F m0 post (pc + 1) ls st (setR m o i.toNat (some v))) : V μ F m0 post pc ls (vr v :: vi i :: vr o :: st) m := by
  intro p l e' R s mm args below meth c' G ad0 ad H locs la Q C K RR RT RL' hls hst hla
  have hM := RL'.2.2.2.1
  have ho := ok_lt hM hT ⟨by decide, by decide, by decide⟩ (hst _ (List.mem_cons_of_mem _ (List.mem_cons_of_mem _ List.mem_cons_self)))
  have hv : v < mN m ∨ isOut v := hst (vr v) List.mem_cons_self
  have hi32 : I32 i := hst _ (List.mem_cons_of_mem _ List.mem_cons_self)
  have he := wsM_get (G := G) (ad := ad) ho
  rw [ent_26 hT] at he
  obtain ⟨cell, c1, c2, c3⟩ := str_any RL' K hx hv
  obtain ⟨kC, hkC, -⟩ := Vm.findClass_spec c3
  have hany : va_Any RJ0 s H (ad v) := ⟨cell, c1, c2, ⟨kC, hkC⟩, fun comp h => by
    rw [c3] at h
    cases h
    exact va_asg _ _⟩
  refine va_astqM C.1 C.2.1 K.1 RL'.1 RL'.2.1 RL'.2.2.1 o 6 he rfl hany (vpin hi32 hi) hd ?_
  rw [i32_tn hi32]
  have e2 : ent G ad (setR m o i.toNat (some v)) o = .inl (G.2 6, n, .inr (.inr (.inr (.inr (va_up (fun j => (mR m o j).map ad) i.toNat (some (ad v))))))) := by
    rw [ent_26 (m := setR m o i.toNat (some v)) hT]
    exact congrArg (fun f => (.inl (G.2 6, n, .inr (.inr (.inr (.inr f)))) : va_E)) (up_ent (ad := ad) (m := m) (x := some v))
  exact fun H1 locs1 hP hD hS => next p l e' R s mm args below meth c' G ad0 ad H1 locs1 la Q C K RR RT (Rl_put (m' := setR m o i.toNat (some v)) RL' rfl rfl rfl (fun _ _ => rfl) (fun _ _ _ => rfl) (fun q hq j => up2_no hq) e2 (okM_setR hM ho (fun o' h => by cases h; exact hv)) hP hD hS) hls (stT (stT (stT hst))) hla
end ROWS9
