/-! ROWS OF THE WALK, 3: fields and arrays -/
section ROWS3
variable {μ : MI} {F : Nat} {m0 : Mem} {post : Option AV → Mem → Prop} {pc : Nat} {ls : AL} {st : List AV} {m : Mem}
def ClsOK (c : Nat) (C : String) (T : u_T) (N : Nat) : Prop := c < 20 ∧ clsL[c]? = some (C, T, N) ∧ (∀ w ∈ u_ws C T N, w ∈ lwg) ∧ (∀ k, k < N → parseFieldDescriptor (T k).2.2.1 = some (cty c k)) ∧ (∀ a, a < N → ∀ b, b < N → a ≠ b → (T a).2.1 ≠ (T b).2.1)
/-- an entry of own's pool: slot k of the class c -/
def FW (own : String) (idx c k N : Nat) (fin : Bool) : Prop := ∃ C T, ClsOK c C T N ∧ k < N ∧ Cond.fieldLink own idx (T k).1 (T k).2.1 (T k).2.2.1 ∈ lwg ∧ (T k).2.2.2 = fin ∧ (fin = true → (T k).1 = C)
theorem ent_obj {G : AG} {ad : Nat → Nat} {m : Mem} {o c N : Nat} (h : mT m o = (c, N)) (hc : c < 20) : ent G ad m o = .inr (c, entO ad m o c N) := by
  unfold ent
  rw [h, if_neg (by show ¬ c = 20; omega), if_neg (by show ¬ c = 21; omega), if_neg (by show ¬ c = 22; omega), if_neg (by show ¬ c = 23; omega), if_neg (by show ¬ c = 24; omega), if_neg (by show ¬ c = 25; omega), if_neg (by show ¬ c = 26; omega)]
theorem entO_get {ad : Nat → Nat} {m : Mem} {o c N k : Nat} (hk : k < N) : (entO ad m o c N)[k]? = some (sv ad m o k (cty c k)) := by
  simp [entO, List.getElem?_map, List.getElem?_range hk]
theorem entO_len {ad : Nat → Nat} {m : Mem} {o c N : Nat} : (entO ad m o c N).length = N := by simp [entO]
theorem up2_s {α : Type} {f : Nat → Nat → α} {o k : Nat} {v : α} : up2 f o k v o k = v := if_pos ⟨rfl, rfl⟩
theorem up2_no {α : Type} {f : Nat → Nat → α} {o k o' k' : Nat} {v : α} (h : o' ≠ o) : up2 f o k v o' k' = f o' k' := if_neg fun e => h e.1
theorem up2_nk {α : Type} {f : Nat → Nat → α} {o k o' k' : Nat} {v : α} (h : k' ≠ k) : up2 f o k v o' k' = f o' k' := if_neg fun e => h e.2
theorem entO_setI {ad : Nat → Nat} {m : Mem} {o c N k : Nat} {x : Int} (hk : k < N) (hr : isR (cty c k) = false) : entO ad (setI m o k x) o c N = (entO ad m o c N).set k (.int (Int32.ofInt x)) := by
  apply List.ext_getElem?
  intro i
  rw [List.getElem?_set]
  by_cases h : k = i
  · subst h
    rw [if_pos rfl, entO_len, if_pos hk, entO_get hk]
    unfold sv
    rw [hr, if_neg (by decide)]
    show some (Value.int (Int32.ofInt (up2 (mI m) o k x o k))) = _
    rw [up2_s]
  · rw [if_neg h]
    by_cases hi : i < N
    · rw [entO_get hi, entO_get hi]
      unfold sv
      rw [show mI (setI m o k x) o i = mI m o i from up2_nk (Ne.symm h)]
      rfl
    · rw [List.getElem?_eq_none (by rw [entO_len]; omega), List.getElem?_eq_none (by rw [entO_len]; omega)]
theorem entO_setR {ad : Nat → Nat} {m : Mem} {o c N k : Nat} {x : Option Nat} (hk : k < N) (hr : isR (cty c k) = true) : entO ad (setR m o k x) o c N = (entO ad m o c N).set k (va_rf (x.map ad)) := by
  apply List.ext_getElem?
  intro i
  rw [List.getElem?_set]
  by_cases h : k = i
  · subst h
    rw [if_pos rfl, entO_len, if_pos hk, entO_get hk]
    unfold sv
    rw [hr, if_pos rfl]
    show some (va_rf ((up2 (mR m) o k x o k).map ad)) = _
    rw [up2_s]
  · rw [if_neg h]
    by_cases hi : i < N
    · rw [entO_get hi, entO_get hi]
      unfold sv
      rw [show mR (setR m o k x) o i = mR m o i from up2_nk (Ne.symm h)]
      rfl
    · rw [List.getElem?_eq_none (by rw [entO_len]; omega), List.getElem?_eq_none (by rw [entO_len]; omega)]
theorem out_ne {n o q : Nat} (hn : n ≤ NN) (ho : o < n) (hq : isOut q) : q ≠ o := by unfold isOut SC at hq; unfold NN at hn; omega
theorem OutM.put {m' : Mem} {o : Nat} (h : OutM m) (hn : mN m ≤ NN) (ho : o < mN m) (hs : mS m' = mS m) (hT : ∀ q, q ≠ o → mT m' q = mT m q) (hI : ∀ q, q ≠ o → ∀ k, mI m' q k = mI m q k) (hR : ∀ q, q ≠ o → ∀ k, mR m' q k = mR m q k) : OutM m' := fun q hq => by
  have hne := out_ne hn ho hq
  rw [hT q hne, hs]
  exact ⟨(h q hq).1, fun k => by rw [hI q hne k]; exact (h q hq).2.1 k, fun k => by rw [hR q hne k]; exact (h q hq).2.2 k⟩
theorem okM_setI {o k : Nat} {x : Int} (h : okM m) (ho : o < mN m) (hx : okI (mT m o).1 x) : okM (setI m o k x) := by
  refine ⟨fun q j hq => ?_, h.2.1, h.2.2.1, h.2.2.2.1, OutM.put h.2.2.2.2.1 h.2.2.1 ho rfl (fun _ _ => rfl) (fun q hq j => if_neg fun e => hq e.1) (fun _ _ _ => rfl), h.2.2.2.2.2⟩
  show okI (mT m q).1 (up2 (mI m) o k x q j)
  unfold up2
  by_cases e : q = o ∧ j = k
  · rw [if_pos e, e.1]; exact hx
  · rw [if_neg e]; exact h.1 q j hq
theorem okM_setR {o k : Nat} {x : Option Nat} (h : okM m) (ho : o < mN m) (hx : ∀ o', x = some o' → o' < mN m ∨ isOut o') : okM (setR m o k x) := by
  refine ⟨h.1, fun q j o' hq h1 => ?_, h.2.2.1, h.2.2.2.1, OutM.put h.2.2.2.2.1 h.2.2.1 ho rfl (fun _ _ => rfl) (fun _ _ _ => rfl) (fun q hq j => if_neg fun e => hq e.1), h.2.2.2.2.2⟩
  have h1 : up2 (mR m) o k x q j = some o' := h1
  unfold up2 at h1
  by_cases e : q = o ∧ j = k
  · rw [if_pos e] at h1; exact hx o' h1
  · rw [if_neg e] at h1; exact h.2.1 q j o' hq h1
theorem outT_c (S : Nat × (Nat → Int)) (o : Nat) : (outT S o).1 = 11 ∨ (outT S o).1 = 24 ∨ (outT S o).1 = 99 := by
  unfold outT
  repeat' split
  all_goals simp
theorem ok_lt {o c N : Nat} (h : okM m) (hT : mT m o = (c, N)) (hc : c ≠ 11 ∧ c ≠ 24 ∧ c ≠ 99) (ho : o < mN m ∨ isOut o) : o < mN m := by
  rcases ho with ho | ho
  · exact ho
  · have h1 := (h.2.2.2.2.1 o ho).1
    have h2 := outT_c (mS m) o
    rw [← h1, hT] at h2
    have h2 : c = 11 ∨ c = 24 ∨ c = 99 := h2
    omega
theorem okI_32 {c : Nat} {x : Int} (h : okI c x) (hc : c ≠ 21) : I32 x := by
  unfold okI at h
  rw [if_neg hc] at h
  split at h
  · unfold I8 at h; unfold I32; omega
  · exact h
theorem okI_of {c : Nat} {x : Int} (h : I32 x) (hc : c ≠ 21 ∧ c ≠ 24) : okI c x := by
  unfold okI
  rw [if_neg hc.1, if_neg hc.2]; exact h
/-- the memory behind a change of one object's contents -/
theorem Rl_put {G : AG} {s : State} {m' : Mem} {ad0 ad : Nat → Nat} {H H1 : Heap} {locs locs1 : List Loc} {o : Nat} {e : va_E} (RL : Rl μ G s m0 m ad0 ad H locs) (hn : mN m' = mN m) (hz : mZ m' = mZ m) (hs : mS m' = mS m) (hT : ∀ q, q ≠ o → mT m' q = mT m q) (hI : ∀ q, q ≠ o → ∀ k, mI m' q k = mI m q k) (hR : ∀ q, q ≠ o → ∀ k, mR m' q k = mR m q k) (he : ent G ad m' o = e) (hok : okM m')
    (hP : va_P G.1 clsL ((wsM G ad m).set o (ad o, e)) H1) (hD : va_D (Aof ad0 (mN m0) s.heap.size) ((wsM G ad m).set o (ad o, e))) (hS : va_S (Aof ad0 (mN m0) s.heap.size) s.heap H1 locs1) : Rl μ G s m0 m' ad0 ad H1 locs1 := by
  obtain ⟨-, -, -, -, r5, r6, r7, r8⟩ := RL
  have hw : wsM G ad m' = (wsM G ad m).set o (ad o, e) := by rw [← he]; exact wsM_set hn hT hI hR
  exact ⟨by rw [hw]; exact hP, by rw [hw]; exact hD, hS, hok, by rw [hn]; exact r5, by rw [hz]; exact r6, r7, by rw [hs]; exact r8⟩
theorem V_getI {o idx c k N : Nat} {fin : Bool} (hd : decode (μc μ) pc = .ok (.getfield idx, 3)) (hw : FW (μo μ) idx c k N fin) (hr : isR (cty c k) = false) (hT : mT m o = (c, N)) (next : V μ F m0 post (pc + 3) ls (vi (mI m o k) :: st) m) (h11 : c ≠ 11 := by decide) : V μ F m0 post pc ls (vr o :: st) m := by
  intro p l e R s mm args below meth c' G ad0 ad H locs la Q C K RR RT RL hls hst hla
  obtain ⟨Cn, T, hc, hk, hlk, -, -⟩ := hw
  have hM := RL.2.2.2.1
  have ho := ok_lt hM hT ⟨h11, by have := hc.1; omega, by have := hc.1; omega⟩ (hst _ List.mem_cons_self)
  have he := wsM_get (G := G) (ad := ad) ho
  rw [ent_obj hT hc.1] at he
  have hx : I32 (mI m o k) := by
    have h := hM.1 o k ho
    rw [hT] at h
    exact okI_32 h (by have := hc.1; show ¬ c = 21; omega)
  have hv : (entO ad m o c N)[k]? = some (.int (Int32.ofInt (mI m o k))) := by
    rw [entO_get hk]; unfold sv; rw [hr]; rfl
  have h := next p l e R s mm args below meth c' G ad0 ad H locs la Q C K RR RT RL hls (st1 hst (v := vi (mI m o k)) hx) hla
  exact va_get C.1 C.2.1 C.2.2.2.2.1 hc.2.2.1 C.2.2.2.1 K.1 RL.1 o he hc.2.1 k hk (C.2.2.2.2.1 _ hlk) (fun _ h => h) hv hd h
theorem V_getR {o idx c k N : Nat} {fin : Bool} (hd : decode (μc μ) pc = .ok (.getfield idx, 3)) (hw : FW (μo μ) idx c k N fin) (hr : isR (cty c k) = true) (hT : mT m o = (c, N)) (next : V μ F m0 post (pc + 3) ls (vq (mR m o k) :: st) m) (h11 : c ≠ 11 := by decide) : V μ F m0 post pc ls (vr o :: st) m := by
  intro p l e R s mm args below meth c' G ad0 ad H locs la Q C K RR RT RL hls hst hla
  obtain ⟨Cn, T, hc, hk, hlk, -, -⟩ := hw
  have hM := RL.2.2.2.1
  have ho := ok_lt hM hT ⟨h11, by have := hc.1; omega, by have := hc.1; omega⟩ (hst _ List.mem_cons_self)
  have he := wsM_get (G := G) (ad := ad) ho
  rw [ent_obj hT hc.1] at he
  have hx : okv (mN m) (vq (mR m o k)) := by
    cases h : mR m o k with
    | none => trivial
    | some o' => exact hM.2.1 o k o' ho h
  have hv : (entO ad m o c N)[k]? = some (va_rf ((mR m o k).map ad)) := by
    rw [entO_get hk]; unfold sv; rw [hr]; rfl
  have h := next p l e R s mm args below meth c' G ad0 ad H locs la Q C K RR RT RL hls (st1 hst (v := vq (mR m o k)) hx) hla
  exact va_get C.1 C.2.1 C.2.2.2.2.1 hc.2.2.1 C.2.2.2.1 K.1 RL.1 o he hc.2.1 k hk (C.2.2.2.2.1 _ hlk) (fun _ h => h) hv hd h
theorem V_putI {o idx c k N : Nat} {fin : Bool} {x : Int} (hd : decode (μc μ) pc = .ok (.putfield idx, 3)) (hw : FW (μo μ) idx c k N fin) (hr : isR (cty c k) = false) (hT : mT m o = (c, N)) (hf : fin = false ∨ ((μy μ).name = "<init>" ∧ (clsL[c]?).map (fun r => r.1) = some (μo μ))) (hx : cty c k = .int ∨ (cty c k = .boolean ∧ (x = 0 ∨ x = 1)) ∨ (cty c k = .byte ∧ x = 0)) (next : V μ F m0 post (pc + 3) ls st (setI m o k x)) (hW : c ≠ 11 ∨ o < mN m := by exact Or.inl (by decide)) : V μ F m0 post pc ls (vi x :: vr o :: st) m := by
  intro p l e R s mm args below meth c' G ad0 ad H locs la Q C K RR RT RL hls hst hla
  obtain ⟨Cn, T, hc, hk, hlk, hfin, hdc⟩ := hw
  have hM := RL.2.2.2.1
  have ho : o < mN m := hW.elim (fun h11 => ok_lt hM hT ⟨h11, by have := hc.1; omega, by have := hc.1; omega⟩ (hst _ (List.mem_cons_of_mem _ List.mem_cons_self))) id
  have hx32 : I32 x := hst _ List.mem_cons_self
  have he := wsM_get (G := G) (ad := ad) ho
  rw [ent_obj hT hc.1] at he
  have hn : narrow (cty c k) (.int (Int32.ofInt x)) = .int (Int32.ofInt x) := by
    rcases hx with hx | ⟨hx, rfl | rfl⟩ | ⟨hx, rfl⟩ <;> rw [hx] <;> rfl
  have hft : fits (cty c k) (.int (Int32.ofInt x)) = true := by
    rcases hx with hx | ⟨hx, rfl | rfl⟩ | ⟨hx, rfl⟩ <;> rw [hx] <;> rfl
  have kk : ∀ (H1 : Heap) (locs1 : List Loc), va_P G.1 clsL ((wsM G ad m).set o (ad o, .inr (c, (entO ad m o c N).set k (.int (Int32.ofInt x))))) H1 → va_D (Aof ad0 (mN m0) s.heap.size) ((wsM G ad m).set o (ad o, .inr (c, (entO ad m o c N).set k (.int (Int32.ofInt x))))) → va_S (Aof ad0 (mN m0) s.heap.size) s.heap H1 locs1 →
      WT p l e R s mm args below meth c' m0 m H1 locs1 Q (pc + 3) la (st.map (cv ad)) := fun H1 locs1 hP hD hS =>
    next p l e R s mm args below meth c' G ad0 ad H1 locs1 la Q C K RR RT (Rl_put (m' := setI m o k x) RL rfl rfl rfl (fun _ _ => rfl) (fun q hq j => up2_no hq) (fun _ _ _ => rfl) (by rw [ent_obj (m := setI m o k x) hT hc.1, entO_setI hk hr]) (okM_setI hM ho (by rw [hT]; exact okI_of hx32 ⟨by have := hc.1; show ¬ c = 21; omega, by have := hc.1; show ¬ c = 24; omega⟩)) hP hD hS) hls (stT (stT hst)) hla
  cases fin with
  | false => exact va_put C.1 C.2.1 C.2.2.2.2.1 hc.2.2.1 (cty c) hc.2.2.2.1 hc.2.2.2.2 C.2.2.2.1 K.1 RL.1 RL.2.1 RL.2.2.1 o he hc.2.1 k hk (C.2.2.2.2.1 _ hlk) (fun _ h => h) hfin (hc.2.2.2.1 k hk) hn hft (by rw [entO_len]; exact hk) hd kk
  | true =>
    have hf := hf.resolve_left (by decide)
    have hown : Cn = μo μ := by
      have h := hf.2
      rw [hc.2.1] at h
      exact Option.some.inj h
    exact va_putF C.1 C.2.1 C.2.2.2.2.1 hc.2.2.1 (cty c) hc.2.2.2.1 hc.2.2.2.2 C.2.2.2.1 K.1 RL.1 RL.2.1 RL.2.2.1 o he hc.2.1 k hk (C.2.2.2.2.1 _ hlk) (fun _ h => h) hfin (C.2.2.2.2.2.2.2.trans hf.1) ((hdc rfl).trans hown) (hc.2.2.2.1 k hk) hn hft (by rw [entO_len]; exact hk) hd kk
theorem V_putR {o idx c k N : Nat} {fin : Bool} {x : Option Nat} (hd : decode (μc μ) pc = .ok (.putfield idx, 3)) (hw : FW (μo μ) idx c k N fin) (hr : isR (cty c k) = true) (hT : mT m o = (c, N)) (hf : fin = false ∨ ((μy μ).name = "<init>" ∧ (clsL[c]?).map (fun r => r.1) = some (μo μ))) (hx : ∀ o', x = some o' → o' ≠ SC) (next : V μ F m0 post (pc + 3) ls st (setR m o k x)) (hW : c ≠ 11 ∨ o < mN m := by exact Or.inl (by decide)) : V μ F m0 post pc ls (vq x :: vr o :: st) m := by
  intro p l e R s mm args below meth c' G ad0 ad H locs la Q C K RR RT RL hls hst hla
  obtain ⟨Cn, T, hc, hk, hlk, hfin, hdc⟩ := hw
  have hM := RL.2.2.2.1
  have ho : o < mN m := hW.elim (fun h11 => ok_lt hM hT ⟨h11, by have := hc.1; omega, by have := hc.1; omega⟩ (hst _ (List.mem_cons_of_mem _ List.mem_cons_self))) id
  have hx1 : ∀ o', x = some o' → o' < mN m ∨ isOut o' := fun o' h => by
    subst h
    exact hst _ List.mem_cons_self
  have he := wsM_get (G := G) (ad := ad) ho
  rw [ent_obj hT hc.1] at he
  have hn : narrow (cty c k) (va_rf (x.map ad)) = va_rf (x.map ad) := by
    cases hty : cty c k <;> rw [hty] at hr <;> first | (cases x <;> rfl) | cases hr
  have hft : fits (cty c k) (va_rf (x.map ad)) = true := by
    cases hty : cty c k <;> rw [hty] at hr <;> first | (cases x <;> rfl) | cases hr
  have kk : ∀ (H1 : Heap) (locs1 : List Loc), va_P G.1 clsL ((wsM G ad m).set o (ad o, .inr (c, (entO ad m o c N).set k (va_rf (x.map ad))))) H1 → va_D (Aof ad0 (mN m0) s.heap.size) ((wsM G ad m).set o (ad o, .inr (c, (entO ad m o c N).set k (va_rf (x.map ad))))) → va_S (Aof ad0 (mN m0) s.heap.size) s.heap H1 locs1 →
      WT p l e R s mm args below meth c' m0 m H1 locs1 Q (pc + 3) la (st.map (cv ad)) := fun H1 locs1 hP hD hS =>
    next p l e R s mm args below meth c' G ad0 ad H1 locs1 la Q C K RR RT (Rl_put (m' := setR m o k x) RL rfl rfl rfl (fun _ _ => rfl) (fun _ _ _ => rfl) (fun q hq j => up2_no hq) (by rw [ent_obj (m := setR m o k x) hT hc.1, entO_setR hk hr]) (okM_setR hM ho hx1) hP hD hS) hls (stT (stT hst)) hla
  cases fin with
  | false => exact va_put C.1 C.2.1 C.2.2.2.2.1 hc.2.2.1 (cty c) hc.2.2.2.1 hc.2.2.2.2 C.2.2.2.1 K.1 RL.1 RL.2.1 RL.2.2.1 o he hc.2.1 k hk (C.2.2.2.2.1 _ hlk) (fun _ h => h) hfin (hc.2.2.2.1 k hk) hn hft (by rw [entO_len]; exact hk) hd kk
  | true =>
    have hf := hf.resolve_left (by decide)
    have hown : Cn = μo μ := by
      have h := hf.2
      rw [hc.2.1] at h
      exact Option.some.inj h
    exact va_putF C.1 C.2.1 C.2.2.2.2.1 hc.2.2.1 (cty c) hc.2.2.2.1 hc.2.2.2.2 C.2.2.2.1 K.1 RL.1 RL.2.1 RL.2.2.1 o he hc.2.1 k hk (C.2.2.2.2.1 _ hlk) (fun _ h => h) hfin (C.2.2.2.2.2.2.2.trans hf.1) ((hdc rfl).trans hown) (hc.2.2.2.1 k hk) hn hft (by rw [entO_len]; exact hk) hd kk
end ROWS3
