/-! ROWS OF THE WALK, 5: what is made, what is copied -/
section ROWS5
variable {μ : MI} {F : Nat} {m0 : Mem} {post : Option AV → Mem → Prop} {pc : Nat} {ls : AL} {st : List AV} {m : Mem}
def adN (ad : Nat → Nat) (n q : Nat) : Nat → Nat := fun o => if o = n then q else ad o
theorem adN_lt {ad : Nat → Nat} {n q o : Nat} (h : o < n) : adN ad n q o = ad o := if_neg (by omega)
theorem adN_s {ad : Nat → Nat} {n q : Nat} : adN ad n q n = q := if_pos rfl
theorem adN_out {ad : Nat → Nat} {n q o : Nat} (h : n ≤ NN) (ho : isOut o) : adN ad n q o = ad o := if_neg (by unfold isOut SC at ho; unfold NN at h; omega)
theorem cv_ext {ad ad' : Nat → Nat} {n : Nat} {v : AV} (h : ∀ o, o < n ∨ isOut o → ad' o = ad o) (hv : okv n v) : cv ad' v = cv ad v := by
  rcases v with x | x | (_ | o)
  · rfl
  · rfl
  · rfl
  · exact congrArg Value.ref (h o hv)
theorem cvl_ext {ad ad' : Nat → Nat} {n : Nat} {ls : AL} (h : ∀ o, o < n ∨ isOut o → ad' o = ad o) (hv : ∀ q ∈ ls, okv n q.2) : cvl ad' ls = cvl ad ls :=
  List.map_congr_left fun q hq => by rw [cv_ext h (hv q hq)]
theorem cvs_ext {ad ad' : Nat → Nat} {n : Nat} {st : List AV} (h : ∀ o, o < n ∨ isOut o → ad' o = ad o) (hv : ∀ v ∈ st, okv n v) : st.map (cv ad') = st.map (cv ad) :=
  List.map_congr_left fun v hq => cv_ext h (hv v hq)
theorem okv_le {n n' : Nat} {v : AV} (h : n ≤ n') (hv : okv n v) : okv n' v := by
  rcases v with x | x | (_ | o)
  · exact hv
  · exact hv
  · trivial
  · exact hv.imp (fun h1 => Nat.lt_of_lt_of_le h1 h) id
theorem mT_new {c n : Nat} : mT (newO m c n) (mN m) = (c, n) := if_pos rfl
theorem okM_new {c n : Nat} (h : okM m) (hn : mN m + 1 ≤ NN) (hz : mZ m + n ≤ ZZ) : okM (newO m c n) := by
  refine ⟨fun o k ho => ?_, fun o k o' ho h1 => ?_, hn, hz, fun o ho => ?_, h.2.2.2.2.2⟩
  · by_cases e : o = mN m
    · have e1 : mI (newO m c n) o k = 0 := if_pos e
      rw [e1]
      unfold okI I64 I8 I32
      split <;> (try split) <;> omega
    · have e1 : mI (newO m c n) o k = mI m o k := if_neg e
      have e2 : mT (newO m c n) o = mT m o := if_neg e
      have ho : o < mN m + 1 := ho
      rw [e1, e2]
      exact h.1 o k (by omega)
  · by_cases e : o = mN m
    · have e1 : mR (newO m c n) o k = none := if_pos e
      rw [e1] at h1; cases h1
    · have e1 : mR (newO m c n) o k = mR m o k := if_neg e
      have ho : o < mN m + 1 := ho
      rw [e1] at h1
      exact (h.2.1 o k o' (by omega) h1).imp Nat.lt_succ_of_lt id
  · have e : o ≠ mN m := out_ne hn (Nat.lt_succ_self _) ho
    have e1 : mT (newO m c n) o = mT m o := if_neg e
    have e2 : ∀ k, mI (newO m c n) o k = mI m o k := fun k => if_neg e
    have e3 : ∀ k, mR (newO m c n) o k = mR m o k := fun k => if_neg e
    rw [e1]
    exact ⟨(h.2.2.2.2.1 o ho).1, fun k => by rw [e2]; exact (h.2.2.2.2.1 o ho).2.1 k, fun k => by rw [e3]; exact (h.2.2.2.2.1 o ho).2.2 k⟩
theorem Rl_new {G : AG} {s : State} {ad0 ad : Nat → Nat} {H H1 : Heap} {locs locs1 : List Loc} {q c n : Nat} {e : va_E} (RL : Rl μ G s m0 m ad0 ad H locs) (hn : mN m + 1 ≤ NN) (hz : mZ m + n ≤ ZZ) (he : ent G (adN ad (mN m) q) (newO m c n) (mN m) = e)
    (hP : va_P G.1 clsL (wsM G ad m ++ [(q, e)]) H1) (hD : va_D (Aof ad0 (mN m0) s.heap.size) (wsM G ad m ++ [(q, e)])) (hS : va_S (Aof ad0 (mN m0) s.heap.size) s.heap H1 locs1) : Rl μ G s m0 (newO m c n) ad0 (adN ad (mN m) q) H1 locs1 := by
  obtain ⟨-, -, -, r4, r5, r6, r7, r8⟩ := RL
  have hw : wsM G (adN ad (mN m) q) (newO m c n) = wsM G ad m ++ [(q, e)] := by
    rw [wsM_new r4.2.1 (fun o ho => ho.elim adN_lt (adN_out r4.2.2.1)), adN_s, he]
  refine ⟨by rw [hw]; exact hP, by rw [hw]; exact hD, hS, okM_new r4 hn hz, Nat.le_succ_of_le r5, Nat.le_trans r6 (Nat.le_add_right _ _), fun o ho => ?_, r8.1.ad fun o ho => adN_out r4.2.2.1 ho, r8.2⟩
  rcases ho with ho | ho
  · rw [adN_lt (Nat.lt_of_lt_of_le ho r5)]; exact r7 o (Or.inl ho)
  · rw [adN_out r4.2.2.1 ho]; exact r7 o (Or.inr ho)
theorem V_after_new {p : Program} {l : Launch} {e' : Env} {R : Room} {s : State} {mm : MethodId} {args : Array Value} {below : List Frame} {meth : Method} {c' : Code} {G : AG} {ad0 ad : Nat → Nat} {H H1 : Heap} {locs locs1 : List Loc} {la : Array Slot} {Q : State → Prop} {q c n d : Nat} {e : va_E}
    (C : Cx μ p s mm args meth c') (K : Kn G s) (RR : RoomOK R F m0) (RT : RetOK μ post p l e' R s mm args below meth c' G m0 ad0 Q) (RL : Rl μ G s m0 m ad0 ad H locs) (hls : ∀ q ∈ ls, okv (mN m) q.2) (hst : ∀ v ∈ st, okv (mN m) v) (hla : lv_has la (μn μ) (cvl ad ls))
    (hn : mN m + 1 ≤ NN) (hz : mZ m + n ≤ ZZ) (he : ent G (adN ad (mN m) q) (newO m c n) (mN m) = e) (next : V μ F m0 post (pc + d) ls (vr (mN m) :: st) (newO m c n))
    (hP : va_P G.1 clsL (wsM G ad m ++ [(q, e)]) H1) (hD : va_D (Aof ad0 (mN m0) s.heap.size) (wsM G ad m ++ [(q, e)])) (hS : va_S (Aof ad0 (mN m0) s.heap.size) s.heap H1 locs1) :
    W p l e' R s mm args below meth c' H1 locs1 (mN m - mN m0 + 1) (mZ m - mZ m0 + n) Q (F0 mm (pc + d) la (.ref q :: st.map (cv ad))) := by
  have hN : mN m ≤ mN (newO m c n) := Nat.le_succ _
  have hext : ∀ o, o < mN m ∨ isOut o → adN ad (mN m) q o = ad o := fun o ho => ho.elim (fun h => adN_lt h) (fun h => adN_out RL.2.2.2.1.2.2.1 h)
  have h := next p l e' R s mm args below meth c' G ad0 (adN ad (mN m) q) H1 locs1 la Q C K RR RT (Rl_new RL hn hz he hP hD hS) (fun q hq => okv_le hN (hls q hq)) (st0 (fun v hv => okv_le hN (hst v hv)) (Or.inl (Nat.lt_succ_self _))) (by rw [cvl_ext hext hls]; exact hla)
  have e1 : mN (newO m c n) - mN m0 = mN m - mN m0 + 1 := by
    have := RL.2.2.2.2.1
    show mN m + 1 - mN m0 = _
    omega
  have e2 : mZ (newO m c n) - mZ m0 = mZ m - mZ m0 + n := by
    have := RL.2.2.2.2.2.1
    show mZ m + n - mZ m0 = _
    omega
  unfold WT at h
  rw [e1, e2, List.map_cons, cvs_ext hext hst] at h
  rw [show cv (adN ad (mN m) q) (vr (mN m)) = .ref q from congrArg Value.ref adN_s] at h
  exact h
def NW (own : String) (idx c N : Nat) : Prop := ∃ C T, ClsOK c C T N ∧ Cond.classLink own idx C ∈ lwg ∧ Cond.instantiable C N ∈ lwg ∧ Cond.initialized C ∈ lwg ∧ ∀ k, k < N → defaultValue (cty c k) = if isR (cty c k) then .null else .int 0
theorem V_new {idx c N : Nat} (hd : decode (μc μ) pc = .ok (.new idx, 3)) (hw : NW (μo μ) idx c N) (hn : mN m + 1 ≤ NN) (hz : mZ m + N ≤ ZZ) (next : V μ F m0 post (pc + 3) ls (vr (mN m) :: st) (newO m c N)) : V μ F m0 post pc ls st m := by
  intro p l e R s mm args below meth c' G ad0 ad H locs la Q C K RR RT RL hls hst hla
  obtain ⟨Cn, T, hc, hlk, hinst, hini, hdf⟩ := hw
  have e2 : ∀ q, ent G (adN ad (mN m) q) (newO m c N) (mN m) = .inr (c, (List.range N).map (fun k => if isR (cty c k) then Value.null else .int 0)) := fun q => by
    rw [ent_obj mT_new hc.1]
    refine congrArg (fun f => (.inr (c, f) : va_E)) (List.map_congr_left fun k _ => ?_)
    unfold sv
    rw [show mR (newO m c N) (mN m) k = none from if_pos rfl, show mI (newO m c N) (mN m) k = 0 from if_pos rfl]
    rfl
  refine va_new C.1 C.2.1 C.2.2.2.2.1 hc.2.2.1 (cty c) hc.2.2.2.1 C.2.2.2.1 (C.2.2.2.2.1 _ hlk) (C.2.2.2.2.1 _ hinst) (C.2.2.2.2.1 _ hini) K.1 RL.1 RL.2.1 RL.2.2.1 (fun q hq => Or.inr hq) hc.2.1 (fs := (List.range N).map (fun k => if isR (cty c k) then Value.null else .int 0)) (fun j hj => ?_) ?_ ?_ hd (fun q H1 hP hD hS => ?_)
  · rw [hdf j hj]
    unfold vp_V
    simp [List.getD, List.getElem?_map, List.getElem?_range hj]
  · have := RL.2.2.2.2.1
    rw [RR.2.2.1]; omega
  · have := RL.2.2.2.2.2.1
    rw [RR.2.2.2]; omega
  · exact V_after_new C K RR RT RL hls hst hla hn hz (e2 q) next hP hD hS
theorem V_newI {n : Int} (hd : decode (μc μ) pc = .ok (.newarray .int, 2)) (hn : mN m + 1 ≤ NN) (hz : mZ m + n.toNat ≤ ZZ) (h0 : 0 ≤ n) (h1 : n ≤ 1000000) (ha : Cond.arrayClass .int ∈ lwg) (next : V μ F m0 post (pc + 2) ls (vr (mN m) :: st) (newO m 20 n.toNat)) : V μ F m0 post pc ls (vi n :: st) m := by
  intro p l e R s mm args below meth c' G ad0 ad H locs la Q C K RR RT RL hls hst hla
  have h32 : I32 n := hst _ List.mem_cons_self
  have e2 : ∀ q, ent G (adN ad (mN m) q) (newO m 20 n.toNat) (mN m) = .inl (G.2 0, n.toNat, .inl (fun _ => 0)) := fun q => by
    rw [ent_20 mT_new]
    refine congrArg (fun f => (.inl (G.2 0, n.toNat, .inl f) : va_E)) (funext fun j => ?_)
    rw [show mI (newO m 20 n.toNat) (mN m) j = 0 from if_pos rfl]
    rfl
  refine va_newa (atype := .int) (ty := .int) (a0 := (n.toNat, .inl (fun _ => 0))) C.1 C.2.1 (C.2.2.2.2.1 _ ha) rfl K.1 RL.1 RL.2.1 RL.2.2.1 (fun q hq => Or.inr hq) (fun cA => rfl) (by rw [show (0 : Int32) = Int32.ofInt 0 from rfl, i32_lt h32 i32_0]; omega) (i32_tn h32) ?_ ?_ ?_ hd (fun q cA H1 hK hP hD hS => ?_)
  · show n.toNat * 4 ≤ _
    omega
  · have := RL.2.2.2.2.1
    rw [RR.2.2.1]; omega
  · have := RL.2.2.2.2.2.1
    rw [RR.2.2.2]; omega
  · have hcA : cA = G.2 0 := by
      have h1 : s.vm.findClass ("[" ++ FieldType.int.toString) = some cA := (hK.2 7 _ rfl).2
      have h2 : s.vm.findClass ("[" ++ FieldType.int.toString) = some (G.2 0) := (K.1.2 0 _ rfl).2
      rw [h1] at h2
      exact Option.some.inj h2
    rw [hcA] at hP hD
    exact V_after_new C K RR RT RL hls (stT hst) hla hn hz (e2 q) next hP hD hS
theorem V_newL {n : Int} (hd : decode (μc μ) pc = .ok (.newarray .long, 2)) (hn : mN m + 1 ≤ NN) (hz : mZ m + n.toNat ≤ ZZ) (h0 : 0 ≤ n) (h1 : n ≤ 1000000) (ha : Cond.arrayClass .long ∈ lwg) (next : V μ F m0 post (pc + 2) ls (vr (mN m) :: st) (newO m 21 n.toNat)) : V μ F m0 post pc ls (vi n :: st) m := by
  intro p l e R s mm args below meth c' G ad0 ad H locs la Q C K RR RT RL hls hst hla
  have h32 : I32 n := hst _ List.mem_cons_self
  have e2 : ∀ q, ent G (adN ad (mN m) q) (newO m 21 n.toNat) (mN m) = .inl (G.2 1, n.toNat, .inr (.inl (fun _ => 0))) := fun q => by
    rw [ent_21 mT_new]
    refine congrArg (fun f => (.inl (G.2 1, n.toNat, .inr (.inl f)) : va_E)) (funext fun j => ?_)
    rw [show mI (newO m 21 n.toNat) (mN m) j = 0 from if_pos rfl]
    rfl
  refine va_newa (atype := .long) (ty := .long) (a0 := (n.toNat, .inr (.inl (fun _ => 0)))) C.1 C.2.1 (C.2.2.2.2.1 _ ha) rfl K.1 RL.1 RL.2.1 RL.2.2.1 (fun q hq => Or.inr hq) (fun cA => rfl) (by rw [show (0 : Int32) = Int32.ofInt 0 from rfl, i32_lt h32 i32_0]; omega) (i32_tn h32) ?_ ?_ ?_ hd (fun q cA H1 hK hP hD hS => ?_)
  · show n.toNat * 8 ≤ _
    omega
  · have := RL.2.2.2.2.1
    rw [RR.2.2.1]; omega
  · have := RL.2.2.2.2.2.1
    rw [RR.2.2.2]; omega
  · have hcA : cA = G.2 1 := by
      have h1 : s.vm.findClass ("[" ++ FieldType.long.toString) = some cA := (hK.2 7 _ rfl).2
      have h2 : s.vm.findClass ("[" ++ FieldType.long.toString) = some (G.2 1) := (K.1.2 1 _ rfl).2
      rw [h1] at h2
      exact Option.some.inj h2
    rw [hcA] at hP hD
    exact V_after_new C K RR RT RL hls (stT hst) hla hn hz (e2 q) next hP hD hS
theorem V_newQ {n : Int} {idx c : Nat} {Cn : String} (hd : decode (μc μ) pc = .ok (.anewarray idx, 3)) (hn : mN m + 1 ≤ NN) (hz : mZ m + n.toNat ≤ ZZ) (h0 : 0 ≤ n) (h1 : n ≤ 1000000) (hc : (c = 22 ∧ Cn = RX2) ∨ (c = 23 ∧ Cn = RX0)) (hl : Cond.classLink (μo μ) idx Cn ∈ lwg) (next : V μ F m0 post (pc + 3) ls (vr (mN m) :: st) (newO m c n.toNat)) : V μ F m0 post pc ls (vi n :: st) m := by
  intro p l e R s mm args below meth c' G ad0 ad H locs la Q C K RR RT RL hls hst hla
  have h32 : I32 n := hst _ List.mem_cons_self
  refine va_newq C.1 C.2.1 C.2.2.2.1 (C.2.2.2.2.1 _ hl) (by rcases hc with ⟨-, rfl⟩ | ⟨-, rfl⟩; exact K.2.2.1; exact K.2.2.2.1) K.1 RL.1 RL.2.1 RL.2.2.1 (fun q hq => Or.inr hq) (by rw [show (0 : Int32) = Int32.ofInt 0 from rfl, i32_lt h32 i32_0]; omega) (i32_tn h32) ?_ ?_ ?_ hd (fun q cA H1 hK hP hD hS => ?_)
  · omega
  · have := RL.2.2.2.2.1
    rw [RR.2.2.1]; omega
  · have := RL.2.2.2.2.2.1
    rw [RR.2.2.2]; omega
  · have h1 := (hK.2 7 _ rfl).2
    obtain ⟨-, -, -, -, -, h1⟩ := h1
    rcases hc with ⟨rfl, rfl⟩ | ⟨rfl, rfl⟩
    · obtain ⟨-, -, -, -, -, h2⟩ := (K.1.2 2 _ rfl).2
      have hcA : cA = G.2 2 := by
        rw [h1] at h2
        exact Option.some.inj h2
      rw [hcA] at hP hD
      exact V_after_new C K RR RT RL hls (stT hst) hla hn hz (by
        rw [ent_22 mT_new]
        refine congrArg (fun f => (.inl (G.2 2, n.toNat, .inr (.inr (.inr (.inr f)))) : va_E)) (funext fun j => ?_)
        rw [show mR (newO m 22 n.toNat) (mN m) j = none from if_pos rfl]
        rfl) next hP hD hS
    · obtain ⟨-, -, -, -, -, h2⟩ := (K.1.2 3 _ rfl).2
      have hcA : cA = G.2 3 := by
        rw [h1] at h2
        exact Option.some.inj h2
      rw [hcA] at hP hD
      exact V_after_new C K RR RT RL hls (stT hst) hla hn hz (by
        rw [ent_23 mT_new]
        refine congrArg (fun f => (.inl (G.2 3, n.toNat, .inr (.inr (.inr (.inr f)))) : va_E)) (funext fun j => ?_)
        rw [show mR (newO m 23 n.toNat) (mN m) j = none from if_pos rfl]
        rfl) next hP hD hS
end ROWS5
