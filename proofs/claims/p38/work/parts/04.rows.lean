/-! ROWS OF THE WALK, 1: constants, locals, arithmetic, branches -/
section ROWS1
variable {μ : MI} {F : Nat} {m0 : Mem} {post : Option AV → Mem → Prop} {pc : Nat} {ls : AL} {st : List AV} {m : Mem}
theorem i32_lt {x y : Int} (hx : I32 x) (hy : I32 y) : Int32.ofInt x < Int32.ofInt y ↔ x < y := by
  rw [Int32.lt_iff_toInt_lt, Int32.toInt_ofInt_of_le hx.1 hx.2, Int32.toInt_ofInt_of_le hy.1 hy.2]
theorem i32_le {x y : Int} (hx : I32 x) (hy : I32 y) : Int32.ofInt x ≤ Int32.ofInt y ↔ x ≤ y := by
  rw [Int32.le_iff_toInt_le, Int32.toInt_ofInt_of_le hx.1 hx.2, Int32.toInt_ofInt_of_le hy.1 hy.2]
theorem i32_eq {x y : Int} (hx : I32 x) (hy : I32 y) : Int32.ofInt x = Int32.ofInt y ↔ x = y := by
  rw [← Int32.toInt_inj, Int32.toInt_ofInt_of_le hx.1 hx.2, Int32.toInt_ofInt_of_le hy.1 hy.2]
theorem i32_0 : I32 0 := by unfold I32; omega
theorem i64_of {x : Int} (h : I32 x) : I64 x := by unfold I32 at h; unfold I64; omega
theorem i64_toInt {x : Int} (h : I64 x) : (Int64.ofInt x).toInt = x := Int64.toInt_ofInt_of_le h.1 h.2
theorem i32_toInt {x : Int} (h : I32 x) : (Int32.ofInt x).toInt = x := Int32.toInt_ofInt_of_le h.1 h.2
theorem i32_tn {x : Int} (h : I32 x) : (Int32.ofInt x).toNatClampNeg = x.toNat := Int32.toNatClampNeg_ofInt_of_le h.1 h.2
theorem cv_cat1 {ad : Nat → Nat} {x : Int} : (cv ad (vi x)).category = 1 := rfl
def ac : AV → Nat
  | .inl _ => 1
  | .inr (.inl _) => 2
  | .inr (.inr _) => 1
theorem cv_cat (ad : Nat → Nat) (v : AV) : (cv ad v).category = ac v := by
  rcases v with x | x | (_ | o) <;> rfl
def vget : AL → Nat → Option AV
  | [], _ => none
  | q :: l, k => if q.1 = k then some q.2 else vget l k
theorem vget_mem {ls : AL} {k : Nat} {v : AV} (h : vget ls k = some v) : (k, v) ∈ ls := by
  induction ls with
  | nil => cases h
  | cons q l ih =>
    unfold vget at h
    by_cases hq : q.1 = k
    · rw [if_pos hq] at h
      obtain ⟨a, b⟩ := q
      cases Option.some.inj h
      cases hq
      exact List.mem_cons_self
    · rw [if_neg hq] at h
      exact List.mem_cons_of_mem _ (ih h)
theorem la_get {la : Array Slot} {n : Nat} {ad : Nat → Nat} {ls : AL} {k : Nat} {v : AV} (h : lv_has la n (cvl ad ls)) (hv : vget ls k = some v) : la[k]? = some (.val (cv ad v)) :=
  h.2.2 (k, cv ad v) (List.mem_map.mpr ⟨(k, v), vget_mem hv, rfl⟩)
def ldK : Instr → AV → Option (Nat × Nat)
  | .iload_n k, .inl _ => some (k, 1)
  | .iload k, .inl _ => some (k, 2)
  | .lload_n k, .inr (.inl _) => some (k, 1)
  | .lload k, .inr (.inl _) => some (k, 2)
  | .aload_n k, .inr (.inr _) => some (k, 1)
  | .aload k, .inr (.inr _) => some (k, 2)
  | _, _ => none
theorem V_ld {i : Instr} {n k : Nat} {v : AV} (hd : decode (μc μ) pc = .ok (i, n)) (hi : ldK i v = some (k, n)) (hv : vget ls k = some v) (next : V μ F m0 post (pc + n) ls (v :: st) m) : V μ F m0 post pc ls st m := by
  intro p l e R s mm args below meth c G ad0 ad H locs la Q C K RR RT RL hls hst hla
  have h1 := la_get hla hv
  have h2 := next p l e R s mm args below meth c G ad0 ad H locs la Q C K RR RT RL hls (fun w hw => (List.mem_cons.mp hw).elim (fun h => h ▸ hls _ (vget_mem hv)) (hst w)) hla
  unfold ldK at hi
  split at hi <;> (try cases hi) <;> (try cases Option.some.inj hi)
  · exact lv_iload_n C.1 C.2.1 hd rfl h1 h2
  · exact lv_iload C.1 C.2.1 hd h1 h2
  · exact lv_lload_n C.1 C.2.1 hd rfl h1 h2
  · exact lv_lload C.1 C.2.1 hd h1 h2
  · rename_i r
    cases r with
    | none => exact lv_aload_nN C.1 C.2.1 hd rfl h1 h2
    | some o => exact lv_aload_n C.1 C.2.1 hd rfl h1 h2
  · rename_i r
    cases r with
    | none => exact lv_aloadN C.1 C.2.1 hd h1 h2
    | some o => exact lv_aload C.1 C.2.1 hd h1 h2
def lset (ls : AL) (k : Nat) (v : AV) : AL := (k, v) :: ls.filter (fun q => !(q.1 == k) && (!(ac v == 2 && q.1 == k + 1) && !(q.1 + 1 == k && ac q.2 == 2)))
theorem cvl_filter {ad : Nat → Nat} {ls : AL} {f : Nat × Value → Bool} {g : Nat × AV → Bool} (h : ∀ q, f (q.1, cv ad q.2) = g q) : (cvl ad ls).filter f = cvl ad (ls.filter g) := by
  unfold cvl
  rw [List.filter_map]
  refine congrArg _ (List.filter_congr fun q _ => ?_)
  exact h q
def stK : Instr → AV → Option (Nat × Nat)
  | .istore_n k, .inl _ => some (k, 1)
  | .istore k, .inl _ => some (k, 2)
  | .lstore_n k, .inr (.inl _) => some (k, 1)
  | .lstore k, .inr (.inl _) => some (k, 2)
  | .astore_n k, .inr (.inr _) => some (k, 1)
  | .astore k, .inr (.inr _) => some (k, 2)
  | _, _ => none
theorem V_st {i : Instr} {n k : Nat} {v : AV} {ls' : AL} (hd : decode (μc μ) pc = .ok (i, n)) (hi : stK i v = some (k, n)) (hk : k + ac v ≤ μn μ) (hl : lset ls k v = ls') (next : V μ F m0 post (pc + n) ls' st m) : V μ F m0 post pc ls (v :: st) m := by
  intro p l e R s mm args below meth c G ad0 ad H locs la Q C K RR RT RL hls hst hla
  subst hl
  have h2 : ∀ la' : Array Slot, lv_has la' (μn μ) (cvl ad (lset ls k v)) → WT p l e R s mm args below meth c m0 m H locs Q (pc + n) la' (st.map (cv ad)) := fun la' h' => next p l e R s mm args below meth c G ad0 ad H locs la' Q C K RR RT RL (fun q hq => by
    rcases List.mem_cons.mp hq with rfl | hq
    · exact hst _ List.mem_cons_self
    · exact hls q (List.mem_filter.mp hq).1) (fun w hw => hst w (List.mem_cons_of_mem _ hw)) h'
  have e1 : ∀ v : AV, ac v = 1 → (cvl ad ls).filter (fun q => !(q.1 == k) && !(q.1 + 1 == k && q.2.category == 2)) = cvl ad (ls.filter (fun q => !(q.1 == k) && (!(ac v == 2 && q.1 == k + 1) && !(q.1 + 1 == k && ac q.2 == 2)))) := fun v hv => cvl_filter fun q => by
    rw [hv]
    simp [cv_cat]
  have e2 : ∀ v : AV, ac v = 2 → (cvl ad ls).filter (fun q => !(q.1 == k) && (!(q.1 == k + 1) && !(q.1 + 1 == k && q.2.category == 2))) = cvl ad (ls.filter (fun q => !(q.1 == k) && (!(ac v == 2 && q.1 == k + 1) && !(q.1 + 1 == k && ac q.2 == 2)))) := fun v hv => cvl_filter fun q => by
    rw [hv]
    simp [cv_cat]
  unfold stK at hi
  split at hi <;> (try cases hi) <;> (try cases Option.some.inj hi)
  · exact lv_istore_n C.1 C.2.1 hd rfl hla hk (congrArg _ (e1 _ rfl)) h2
  · exact lv_istore C.1 C.2.1 hd hla hk (congrArg _ (e1 _ rfl)) h2
  · exact lv_lstore_n C.1 C.2.1 hd rfl hla hk (congrArg _ (e2 _ rfl)) h2
  · exact lv_lstore C.1 C.2.1 hd hla hk (congrArg _ (e2 _ rfl)) h2
  · rename_i r
    cases r with
    | none => exact lv_astore_nN C.1 C.2.1 hd rfl hla hk (congrArg _ (e1 _ rfl)) h2
    | some o => exact lv_astore_n C.1 C.2.1 hd rfl hla hk (congrArg _ (e1 _ rfl)) h2
  · rename_i r
    cases r with
    | none => exact lv_astoreN C.1 C.2.1 hd hla hk (congrArg _ (e1 _ rfl)) h2
    | some o => exact lv_astore C.1 C.2.1 hd hla hk (congrArg _ (e1 _ rfl)) h2
end ROWS1
