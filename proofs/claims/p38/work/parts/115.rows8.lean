/-! ROWS OF THE WALK, 8: the same with what is read told -/
section ROWS8
variable {μ : MI} {F : Nat} {m0 : Mem} {post : Option AV → Mem → Prop} {pc : Nat} {ls : AL} {st : List AV} {m : Mem}
theorem V_getIv {o idx c k N : Nat} {fin : Bool} {v : Int} (hd : decode (μc μ) pc = .ok (.getfield idx, 3)) (hw : FW (μo μ) idx c k N fin) (hr : isR (cty c k) = false) (hT : mT m o = (c, N)) (hv : mI m o k = v) (next : I32 v → V μ F m0 post (pc + 3) ls (vi v :: st) m) (h11 : c ≠ 11 := by decide) : V μ F m0 post pc ls (vr o :: st) m := by
  subst hv
  exact V_getI hd hw hr hT (V_rs next) h11
theorem V_getRv {o idx c k N o' : Nat} {fin : Bool} (hd : decode (μc μ) pc = .ok (.getfield idx, 3)) (hw : FW (μo μ) idx c k N fin) (hr : isR (cty c k) = true) (hT : mT m o = (c, N)) (hv : mR m o k = some o') (next : V μ F m0 post (pc + 3) ls (vr o' :: st) m) (h11 : c ≠ 11 := by decide) : V μ F m0 post pc ls (vr o :: st) m := by
  refine V_getR hd hw hr hT ?_ h11
  rw [hv]
  exact next
theorem V_getRq {o idx c k N : Nat} {q : Option Nat} {fin : Bool} (hd : decode (μc μ) pc = .ok (.getfield idx, 3)) (hw : FW (μo μ) idx c k N fin) (hr : isR (cty c k) = true) (hT : mT m o = (c, N)) (hv : mR m o k = q) (next : V μ F m0 post (pc + 3) ls (vq q :: st) m) (h11 : c ≠ 11 := by decide) : V μ F m0 post pc ls (vr o :: st) m := by
  subst hv
  exact V_getR hd hw hr hT next h11
theorem V_ialdv {o n : Nat} {i v : Int} (hd : decode (μc μ) pc = .ok (.iaload, 1)) (hT : mT m o = (20, n)) (hi : 0 ≤ i ∧ i < n) (hv : mI m o i.toNat = v) (next : I32 v → V μ F m0 post (pc + 1) ls (vi v :: st) m) : V μ F m0 post pc ls (vi i :: vr o :: st) m := by
  subst hv
  exact V_iald hd hT hi (V_rs next)
theorem V_aaldv {o c n : Nat} {i : Int} {q : Option Nat} (hd : decode (μc μ) pc = .ok (.aaload, 1)) (hT : mT m o = (c, n)) (hc : c = 22 ∨ c = 23) (hi : 0 ≤ i ∧ i < n) (hv : mR m o i.toNat = q) (next : V μ F m0 post (pc + 1) ls (vq q :: st) m) : V μ F m0 post pc ls (vi i :: vr o :: st) m := by
  subst hv
  exact V_aald hd hT hc hi next
theorem V_laldv {o n : Nat} {i v : Int} (hd : decode (μc μ) pc = .ok (.laload, 1)) (hT : mT m o = (21, n)) (hi : 0 ≤ i ∧ i < n) (hv : mI m o i.toNat = v) (next : V μ F m0 post (pc + 1) ls (vl v :: st) m) : V μ F m0 post pc ls (vi i :: vr o :: st) m := by
  subst hv
  exact V_lald hd hT hi next
/-- the memory by another name -/
theorem V_mem {m' : Mem} (h : m = m') (next : V μ F m0 post pc ls st m') : V μ F m0 post pc ls st m := h ▸ next
/-- answers: a number, none, a reference -/
def ri (P : Int → Mem → Prop) : Option AV → Mem → Prop := fun r m' => ∃ x, r = some (vi x) ∧ P x m'
def rl (P : Int → Mem → Prop) : Option AV → Mem → Prop := fun r m' => ∃ x, r = some (vl x) ∧ P x m'
def rv (P : Mem → Prop) : Option AV → Mem → Prop := fun r m' => r = none ∧ P m'
def rq (P : Option Nat → Mem → Prop) : Option AV → Mem → Prop := fun r m' => ∃ x, r = some (vq x) ∧ P x m'
theorem V_reti {x : Int} {P : Int → Mem → Prop} (hd : decode (μc μ) pc = .ok (.ireturn, 1)) (hr : rok (μr μ) (some (vi x))) (hp : P x m) : V μ F m0 (ri P) pc ls [vi x] m := V_ret (r := some (vi x)) hd hr ⟨x, rfl, hp⟩
theorem V_retl {x : Int} {P : Int → Mem → Prop} (hd : decode (μc μ) pc = .ok (.lreturn, 1)) (hr : rok (μr μ) (some (vl x))) (hp : P x m) : V μ F m0 (rl P) pc ls [vl x] m := V_ret (r := some (vl x)) hd hr ⟨x, rfl, hp⟩
theorem V_retq {x : Option Nat} {P : Option Nat → Mem → Prop} (hd : decode (μc μ) pc = .ok (.areturn, 1)) (hr : rok (μr μ) (some (vq x))) (hp : P x m) : V μ F m0 (rq P) pc ls [vq x] m := V_ret (r := some (vq x)) hd hr ⟨x, rfl, hp⟩
theorem V_retv {P : Mem → Prop} (hd : decode (μc μ) pc = .ok (.return_, 1)) (hr : rok (μr μ) none) (hp : P m) : V μ F m0 (rv P) pc ls [] m := V_ret (r := none) hd hr ⟨rfl, hp⟩
theorem mI_setI {o k : Nat} {v : Int} : mI (setI m o k v) = up2 (mI m) o k v := rfl
theorem mR_setI {o k : Nat} {v : Int} : mR (setI m o k v) = mR m := rfl
theorem mT_setI {o k : Nat} {v : Int} : mT (setI m o k v) = mT m := rfl
theorem mN_setI {o k : Nat} {v : Int} : mN (setI m o k v) = mN m := rfl
theorem mI_setR {o k : Nat} {v : Option Nat} : mI (setR m o k v) = mI m := rfl
theorem mR_setR {o k : Nat} {v : Option Nat} : mR (setR m o k v) = up2 (mR m) o k v := rfl
theorem mT_setR {o k : Nat} {v : Option Nat} : mT (setR m o k v) = mT m := rfl
theorem mN_setR {o k : Nat} {v : Option Nat} : mN (setR m o k v) = mN m := rfl
end ROWS8
