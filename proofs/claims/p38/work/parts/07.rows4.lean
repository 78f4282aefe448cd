/-! ROWS OF THE WALK, 4: arrays, what is made -/
section ROWS4
variable {μ : MI} {F : Nat} {m0 : Mem} {post : Option AV → Mem → Prop} {pc : Nat} {ls : AL} {st : List AV} {m : Mem}
theorem ent_20 {G : AG} {ad : Nat → Nat} {m : Mem} {o n : Nat} (h : mT m o = (20, n)) : ent G ad m o = .inl (G.2 0, n, .inl (fun j => Int32.ofInt (mI m o j))) := by
  unfold ent; rw [h]; rfl
theorem ent_21 {G : AG} {ad : Nat → Nat} {m : Mem} {o n : Nat} (h : mT m o = (21, n)) : ent G ad m o = .inl (G.2 1, n, .inr (.inl (fun j => Int64.ofInt (mI m o j)))) := by
  unfold ent; rw [h]; rfl
theorem ent_22 {G : AG} {ad : Nat → Nat} {m : Mem} {o n : Nat} (h : mT m o = (22, n)) : ent G ad m o = .inl (G.2 2, n, .inr (.inr (.inr (.inr (fun j => (mR m o j).map ad))))) := by
  unfold ent; rw [h]; rfl
theorem ent_23 {G : AG} {ad : Nat → Nat} {m : Mem} {o n : Nat} (h : mT m o = (23, n)) : ent G ad m o = .inl (G.2 3, n, .inr (.inr (.inr (.inr (fun j => (mR m o j).map ad))))) := by
  unfold ent; rw [h]; rfl
theorem ent_24 {G : AG} {ad : Nat → Nat} {m : Mem} {o n : Nat} (h : mT m o = (24, n)) : ent G ad m o = .inl (G.2 4, n, .inl (fun j => Int32.ofInt (mI m o j))) := by
  unfold ent; rw [h]; rfl
theorem ent_25 {G : AG} {ad : Nat → Nat} {m : Mem} {o n : Nat} (h : mT m o = (25, n)) : ent G ad m o = .inl (G.2 5, n, .inr (.inr (.inr (.inr (fun j => (mR m o j).map ad))))) := by
  unfold ent; rw [h]; rfl
theorem ent_26 {G : AG} {ad : Nat → Nat} {m : Mem} {o n : Nat} (h : mT m o = (26, n)) : ent G ad m o = .inl (G.2 6, n, .inr (.inr (.inr (.inr (fun j => (mR m o j).map ad))))) := by
  unfold ent; rw [h]; rfl
theorem vpin {i : Int} {n : Nat} (hi : I32 i) (h : 0 ≤ i ∧ i < n) : vp_in (Int32.ofInt i) n := by
  rw [vp_in_iff, i32_toInt hi]
  exact h
theorem V_iald {o n : Nat} {i : Int} (hd : decode (μc μ) pc = .ok (.iaload, 1)) (hT : mT m o = (20, n)) (hi : 0 ≤ i ∧ i < n) (next : V μ F m0 post (pc + 1) ls (vi (mI m o i.toNat) :: st) m) : V μ F m0 post pc ls (vi i :: vr o :: st) m := by
  intro p l e R s mm args below meth c' G ad0 ad H locs la Q C K RR RT RL hls hst hla
  have hM := RL.2.2.2.1
  have ho := ok_lt hM hT ⟨by decide, by decide, by decide⟩ (hst _ (List.mem_cons_of_mem _ List.mem_cons_self))
  have hi32 : I32 i := hst _ List.mem_cons_self
  have he := wsM_get (G := G) (ad := ad) ho
  rw [ent_20 hT] at he
  have hx : I32 (mI m o i.toNat) := by
    have h := hM.1 o i.toNat ho
    rw [hT] at h
    exact okI_32 h (by show ¬ (20 : Nat) = 21; decide)
  have h := next p l e R s mm args below meth c' G ad0 ad H locs la Q C K RR RT RL hls (st2 hst (v := vi (mI m o i.toNat)) hx) hla
  refine va_iald C.1 C.2.1 K.1 RL.1 o 0 he rfl (vpin hi32 hi) hd ?_
  rw [i32_tn hi32]
  exact h
theorem V_lald {o n : Nat} {i : Int} (hd : decode (μc μ) pc = .ok (.laload, 1)) (hT : mT m o = (21, n)) (hi : 0 ≤ i ∧ i < n) (next : V μ F m0 post (pc + 1) ls (vl (mI m o i.toNat) :: st) m) : V μ F m0 post pc ls (vi i :: vr o :: st) m := by
  intro p l e R s mm args below meth c' G ad0 ad H locs la Q C K RR RT RL hls hst hla
  have hM := RL.2.2.2.1
  have ho := ok_lt hM hT ⟨by decide, by decide, by decide⟩ (hst _ (List.mem_cons_of_mem _ List.mem_cons_self))
  have hi32 : I32 i := hst _ List.mem_cons_self
  have he := wsM_get (G := G) (ad := ad) ho
  rw [ent_21 hT] at he
  have hx : I64 (mI m o i.toNat) := by
    have h := hM.1 o i.toNat ho
    rw [hT] at h
    exact h
  have h := next p l e R s mm args below meth c' G ad0 ad H locs la Q C K RR RT RL hls (st2 hst (v := vl (mI m o i.toNat)) hx) hla
  refine va_lald C.1 C.2.1 K.1 RL.1 o 1 he rfl (vpin hi32 hi) hd ?_
  rw [i32_tn hi32]
  exact h
theorem V_aald {o c n : Nat} {i : Int} (hd : decode (μc μ) pc = .ok (.aaload, 1)) (hT : mT m o = (c, n)) (hc : c = 22 ∨ c = 23) (hi : 0 ≤ i ∧ i < n) (next : V μ F m0 post (pc + 1) ls (vq (mR m o i.toNat) :: st) m) : V μ F m0 post pc ls (vi i :: vr o :: st) m := by
  intro p l e R s mm args below meth c' G ad0 ad H locs la Q C K RR RT RL hls hst hla
  have hM := RL.2.2.2.1
  have ho := ok_lt hM hT ⟨by omega, by omega, by omega⟩ (hst _ (List.mem_cons_of_mem _ List.mem_cons_self))
  have hi32 : I32 i := hst _ List.mem_cons_self
  have he := wsM_get (G := G) (ad := ad) ho
  have hx : okv (mN m) (vq (mR m o i.toNat)) := by
    cases h : mR m o i.toNat with
    | none => trivial
    | some o' => exact hM.2.1 o _ o' ho h
  have h := next p l e R s mm args below meth c' G ad0 ad H locs la Q C K RR RT RL hls (st2 hst (v := vq (mR m o i.toNat)) hx) hla
  rcases hc with rfl | rfl
  · rw [ent_22 hT] at he
    refine va_aldq C.1 C.2.1 K.1 RL.1 o 2 he rfl (vpin hi32 hi) hd ?_
    rw [i32_tn hi32]
    exact h
  · rw [ent_23 hT] at he
    refine va_aldq C.1 C.2.1 K.1 RL.1 o 3 he rfl (vpin hi32 hi) hd ?_
    rw [i32_tn hi32]
    exact h
theorem V_alen {o c n : Nat} (hd : decode (μc μ) pc = .ok (.arraylength, 1)) (hT : mT m o = (c, n)) (hc : 20 ≤ c ∧ c < 24) (hn : (n : Int) < 2147483648) (next : V μ F m0 post (pc + 1) ls (vi (n : Int) :: st) m) : V μ F m0 post pc ls (vr o :: st) m := by
  intro p l e R s mm args below meth c' G ad0 ad H locs la Q C K RR RT RL hls hst hla
  have hM := RL.2.2.2.1
  have ho := ok_lt hM hT ⟨by omega, by omega, by omega⟩ (hst _ List.mem_cons_self)
  have he := wsM_get (G := G) (ad := ad) ho
  have h := next p l e R s mm args below meth c' G ad0 ad H locs la Q C K RR RT RL hls (st1 hst (v := vi (n : Int)) (by show I32 _; unfold I32; omega)) hla
  rcases (show c = 20 ∨ c = 21 ∨ c = 22 ∨ c = 23 by omega) with rfl | rfl | rfl | rfl
  · rw [ent_20 hT] at he
    exact va_alen C.1 C.2.1 K.1 RL.1 o 0 he rfl Int32.ofInt_eq_ofNat.symm hd h
  · rw [ent_21 hT] at he
    exact va_alen C.1 C.2.1 K.1 RL.1 o 1 he rfl Int32.ofInt_eq_ofNat.symm hd h
  · rw [ent_22 hT] at he
    exact va_alen C.1 C.2.1 K.1 RL.1 o 2 he rfl Int32.ofInt_eq_ofNat.symm hd h
  · rw [ent_23 hT] at he
    exact va_alen C.1 C.2.1 K.1 RL.1 o 3 he rfl Int32.ofInt_eq_ofNat.symm hd h
theorem V_iast {o n : Nat} {i x : Int} (hd : decode (μc μ) pc = .ok (.iastore, 1)) (hT : mT m o = (20, n)) (hi : 0 ≤ i ∧ i < n) (next : V μ F m0 post (pc + 1) ls st (setI m o i.toNat x)) : V μ F m0 post pc ls (vi x :: vi i :: vr o :: st) m := by
  intro p l e R s mm args below meth c' G ad0 ad H locs la Q C K RR RT RL hls hst hla
  have hM := RL.2.2.2.1
  have ho := ok_lt hM hT ⟨by decide, by decide, by decide⟩ (hst _ (List.mem_cons_of_mem _ (List.mem_cons_of_mem _ List.mem_cons_self)))
  have hi32 : I32 i := hst _ (List.mem_cons_of_mem _ List.mem_cons_self)
  have hx32 : I32 x := hst _ List.mem_cons_self
  have he := wsM_get (G := G) (ad := ad) ho
  rw [ent_20 hT] at he
  have e2 : ent G ad (setI m o i.toNat x) o = .inl (G.2 0, n, .inl (upd (fun j => Int32.ofInt (mI m o j)) i.toNat (Int32.ofInt x))) := by
    rw [ent_20 (m := setI m o i.toNat x) hT]
    refine congrArg (fun f => (.inl (G.2 0, n, .inl f) : va_E)) (funext fun j => ?_)
    show Int32.ofInt (up2 (mI m) o i.toNat x o j) = upd (fun j => Int32.ofInt (mI m o j)) i.toNat (Int32.ofInt x) j
    unfold upd
    by_cases h : j = i.toNat
    · rw [h, up2_s, if_pos rfl]
    · rw [up2_nk h, if_neg h]
  refine va_iast C.1 C.2.1 K.1 RL.1 RL.2.1 RL.2.2.1 o 0 he rfl (vpin hi32 hi) hd ?_
  rw [i32_tn hi32]
  exact fun H1 locs1 hP hD hS => next p l e R s mm args below meth c' G ad0 ad H1 locs1 la Q C K RR RT (Rl_put (m' := setI m o i.toNat x) RL rfl rfl rfl (fun _ _ => rfl) (fun q hq j => up2_no hq) (fun _ _ _ => rfl) e2 (okM_setI hM ho (by rw [hT]; exact okI_of hx32 ⟨show (20 : Nat) ≠ 21 by decide, show (20 : Nat) ≠ 24 by decide⟩)) hP hD hS) hls (stT (stT (stT hst))) hla
theorem V_last {o n : Nat} {i x : Int} (hd : decode (μc μ) pc = .ok (.lastore, 1)) (hT : mT m o = (21, n)) (hi : 0 ≤ i ∧ i < n) (next : V μ F m0 post (pc + 1) ls st (setI m o i.toNat x)) : V μ F m0 post pc ls (vl x :: vi i :: vr o :: st) m := by
  intro p l e R s mm args below meth c' G ad0 ad H locs la Q C K RR RT RL hls hst hla
  have hM := RL.2.2.2.1
  have ho := ok_lt hM hT ⟨by decide, by decide, by decide⟩ (hst _ (List.mem_cons_of_mem _ (List.mem_cons_of_mem _ List.mem_cons_self)))
  have hi32 : I32 i := hst _ (List.mem_cons_of_mem _ List.mem_cons_self)
  have hx64 : I64 x := hst _ List.mem_cons_self
  have he := wsM_get (G := G) (ad := ad) ho
  rw [ent_21 hT] at he
  have e2 : ent G ad (setI m o i.toNat x) o = .inl (G.2 1, n, .inr (.inl (vp_updL (fun j => Int64.ofInt (mI m o j)) i.toNat (Int64.ofInt x)))) := by
    rw [ent_21 (m := setI m o i.toNat x) hT]
    refine congrArg (fun f => (.inl (G.2 1, n, .inr (.inl f)) : va_E)) (funext fun j => ?_)
    show Int64.ofInt (up2 (mI m) o i.toNat x o j) = vp_updL (fun j => Int64.ofInt (mI m o j)) i.toNat (Int64.ofInt x) j
    unfold vp_updL
    by_cases h : j = i.toNat
    · rw [h, up2_s, if_pos rfl]
    · rw [up2_nk h, if_neg h]
  refine va_last C.1 C.2.1 K.1 RL.1 RL.2.1 RL.2.2.1 o 1 he rfl (vpin hi32 hi) hd ?_
  rw [i32_tn hi32]
  exact fun H1 locs1 hP hD hS => next p l e R s mm args below meth c' G ad0 ad H1 locs1 la Q C K RR RT (Rl_put (m' := setI m o i.toNat x) RL rfl rfl rfl (fun _ _ => rfl) (fun q hq j => up2_no hq) (fun _ _ _ => rfl) e2 (okM_setI hM ho (by rw [hT]; exact hx64)) hP hD hS) hls (stT (stT (stT hst))) hla
theorem V_aast {o c n cx N : Nat} {i : Int} {x : Option Nat} (hd : decode (μc μ) pc = .ok (.aastore, 1)) (hT : mT m o = (c, n)) (hc : (c = 22 ∧ cx = 2) ∨ (c = 23 ∧ cx = 0)) (hi : 0 ≤ i ∧ i < n) (hx : ∀ o', x = some o' → mT m o' = (cx, N)) (next : V μ F m0 post (pc + 1) ls st (setR m o i.toNat x)) : V μ F m0 post pc ls (vq x :: vi i :: vr o :: st) m := by
  intro p l e' R s mm args below meth c' G ad0 ad H locs la Q C K RR RT RL hls hst hla
  have hM := RL.2.2.2.1
  have ho := ok_lt hM hT ⟨by omega, by omega, by omega⟩ (hst _ (List.mem_cons_of_mem _ (List.mem_cons_of_mem _ List.mem_cons_self)))
  have hi32 : I32 i := hst _ (List.mem_cons_of_mem _ List.mem_cons_self)
  have hx1 : ∀ o', x = some o' → o' < mN m := fun o' h => by
    have h1 := hx o' h
    subst h
    exact ok_lt hM h1 ⟨by omega, by omega, by omega⟩ (hst _ List.mem_cons_self)
  have he := wsM_get (G := G) (ad := ad) ho
  have e0 : (fun j => (up2 (mR m) o i.toNat x o j).map ad) = va_up (fun j => (mR m o j).map ad) i.toNat (x.map ad) := by
    funext j
    unfold va_up
    by_cases h : j = i.toNat
    · rw [h, up2_s, if_pos rfl]
    · rw [up2_nk h, if_neg h]
  have nx : ∀ (e : va_E), ent G ad (setR m o i.toNat x) o = e → ∀ (H1 : Heap) (locs1 : List Loc), va_P G.1 clsL ((wsM G ad m).set o (ad o, e)) H1 → va_D (Aof ad0 (mN m0) s.heap.size) ((wsM G ad m).set o (ad o, e)) → va_S (Aof ad0 (mN m0) s.heap.size) s.heap H1 locs1 → WT p l e' R s mm args below meth c' m0 m H1 locs1 Q (pc + 1) la (st.map (cv ad)) := fun e e2 H1 locs1 hP hD hS =>
    next p l e' R s mm args below meth c' G ad0 ad H1 locs1 la Q C K RR RT (Rl_put (m' := setR m o i.toNat x) RL rfl rfl rfl (fun _ _ => rfl) (fun _ _ _ => rfl) (fun q hq j => up2_no hq) e2 (okM_setR hM ho (fun o' h => Or.inl (hx1 o' h))) hP hD hS) hls (stT (stT (stT hst))) hla
  rcases hc with ⟨rfl, rfl⟩ | ⟨rfl, rfl⟩
  · rw [ent_22 hT] at he
    have e2 : ent G ad (setR m o i.toNat x) o = .inl (G.2 2, n, .inr (.inr (.inr (.inr (va_up (fun j => (mR m o j).map ad) i.toNat (x.map ad)))))) := by
      rw [ent_22 (m := setR m o i.toNat x) hT, ← e0]; rfl
    cases x with
    | none =>
      refine va_astqN C.1 C.2.1 K.1 RL.1 RL.2.1 RL.2.2.1 o 2 he rfl (vpin hi32 hi) hd ?_
      rw [i32_tn hi32]
      exact nx _ e2
    | some v =>
      have hv := wsM_get (G := G) (ad := ad) (hx1 v rfl)
      rw [ent_obj (hx v rfl) (by decide)] at hv
      refine va_astq C.1 C.2.1 K.1 RL.1 RL.2.1 RL.2.2.1 o 2 v 2 (r := (RX2, TX2, 2)) he rfl hv rfl (vpin hi32 hi) hd ?_
      rw [i32_tn hi32]
      exact nx _ e2
  · rw [ent_23 hT] at he
    have e2 : ent G ad (setR m o i.toNat x) o = .inl (G.2 3, n, .inr (.inr (.inr (.inr (va_up (fun j => (mR m o j).map ad) i.toNat (x.map ad)))))) := by
      rw [ent_23 (m := setR m o i.toNat x) hT, ← e0]; rfl
    cases x with
    | none =>
      refine va_astqN C.1 C.2.1 K.1 RL.1 RL.2.1 RL.2.2.1 o 3 he rfl (vpin hi32 hi) hd ?_
      rw [i32_tn hi32]
      exact nx _ e2
    | some v =>
      have hv := wsM_get (G := G) (ad := ad) (hx1 v rfl)
      rw [ent_obj (hx v rfl) (by decide)] at hv
      refine va_astq C.1 C.2.1 K.1 RL.1 RL.2.1 RL.2.2.1 o 3 v 0 (r := (RX0, TX0, 1)) he rfl hv rfl (vpin hi32 hi) hd ?_
      rw [i32_tn hi32]
      exact nx _ e2
end ROWS4
