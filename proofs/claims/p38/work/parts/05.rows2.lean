/-! ROWS OF THE WALK, 2: arithmetic and branches -/
section ROWS2
variable {μ : MI} {F : Nat} {m0 : Mem} {post : Option AV → Mem → Prop} {pc : Nat} {ls : AL} {st : List AV} {m : Mem}
def b32 (f : Int32 → Int32 → Int32) (x y : Int) : Int := (f (Int32.ofInt x) (Int32.ofInt y)).toInt
def b64 (f : Int64 → Int64 → Int64) (x y : Int) : Int := (f (Int64.ofInt x) (Int64.ofInt y)).toInt
def and32 (x y : Int) : Int := (Int32.ofInt x &&& Int32.ofInt y).toInt
def or32 (x y : Int) : Int := (Int32.ofInt x ||| Int32.ofInt y).toInt
def xor32 (x y : Int) : Int := (Int32.ofInt x ^^^ Int32.ofInt y).toInt
def shl32 (x y : Int) : Int := (Int32.ofInt x <<< (Int32.ofInt y &&& 31)).toInt
def shr32 (x y : Int) : Int := (Int32.ofInt x >>> (Int32.ofInt y &&& 31)).toInt
def ushr32 (x y : Int) : Int := (((Int32.ofInt x).toUInt32 >>> ((Int32.ofInt y).toUInt32 &&& Int32.toUInt32 31)).toInt32).toInt
def and64 (x y : Int) : Int := (Int64.ofInt x &&& Int64.ofInt y).toInt
def or64 (x y : Int) : Int := (Int64.ofInt x ||| Int64.ofInt y).toInt
def xor64 (x y : Int) : Int := (Int64.ofInt x ^^^ Int64.ofInt y).toInt
def shl64 (x y : Int) : Int := (Int64.ofInt x <<< ((Int32.ofInt y).toInt64 &&& 63)).toInt
def shr64 (x y : Int) : Int := (Int64.ofInt x >>> ((Int32.ofInt y).toInt64 &&& 63)).toInt
def cmpI (x y : Int) : Int := if y < x then 1 else if x = y then 0 else -1
theorem i32_of (x : Int32) : I32 x.toInt := ⟨x.le_toInt, x.toInt_lt⟩
theorem i64_ofx (x : Int64) : I64 x.toInt := ⟨x.le_toInt, x.toInt_lt⟩
theorem i64_lt {x y : Int} (hx : I64 x) (hy : I64 y) : Int64.ofInt x < Int64.ofInt y ↔ x < y := by
  rw [Int64.lt_iff_toInt_lt, i64_toInt hx, i64_toInt hy]
theorem i64_eq {x y : Int} (hx : I64 x) (hy : I64 y) : Int64.ofInt x = Int64.ofInt y ↔ x = y := by
  rw [← Int64.toInt_inj, i64_toInt hx, i64_toInt hy]
theorem st2 {P : AV → Prop} {a b v : AV} {st : List AV} (h : ∀ w ∈ a :: b :: st, P w) (hv : P v) : ∀ w ∈ v :: st, P w := fun w hw => (List.mem_cons.mp hw).elim (fun e => e ▸ hv) (fun e => h w (List.mem_cons_of_mem _ (List.mem_cons_of_mem _ e)))
theorem st1 {P : AV → Prop} {a v : AV} {st : List AV} (h : ∀ w ∈ a :: st, P w) (hv : P v) : ∀ w ∈ v :: st, P w := fun w hw => (List.mem_cons.mp hw).elim (fun e => e ▸ hv) (fun e => h w (List.mem_cons_of_mem _ e))
theorem st0 {P : AV → Prop} {v : AV} {st : List AV} (h : ∀ w ∈ st, P w) (hv : P v) : ∀ w ∈ v :: st, P w := fun w hw => (List.mem_cons.mp hw).elim (fun e => e ▸ hv) (h w)
theorem stT {P : AV → Prop} {v : AV} {st : List AV} (h : ∀ w ∈ v :: st, P w) : ∀ w ∈ st, P w := fun w hw => h w (List.mem_cons_of_mem _ hw)

theorem V_iadd {x y : Int} (hd : decode (μc μ) pc = .ok (.iadd, 1)) (hr : I32 (x + y)) (next : V μ F m0 post (pc + 1) ls (vi (x + y) :: st) m) : V μ F m0 post pc ls (vi y :: vi x :: st) m := by
  intro p l e R s mm args below meth c G ad0 ad H locs la Q C K RR RT RL hls hst hla
  have hx : I32 x := hst _ (List.mem_cons_of_mem _ List.mem_cons_self)
  have hy : I32 y := hst _ List.mem_cons_self
  have h := next p l e R s mm args below meth c G ad0 ad H locs la Q C K RR RT RL hls (st2 hst (v := vi (x + y)) hr) hla
  refine lv_iadd C.1 C.2.1 hd ?_
  rw [← Int32.ofInt_add]
  exact h
theorem V_isub {x y : Int} (hd : decode (μc μ) pc = .ok (.isub, 1)) (hr : I32 (x - y)) (next : V μ F m0 post (pc + 1) ls (vi (x - y) :: st) m) : V μ F m0 post pc ls (vi y :: vi x :: st) m := by
  intro p l e R s mm args below meth c G ad0 ad H locs la Q C K RR RT RL hls hst hla
  have hx : I32 x := hst _ (List.mem_cons_of_mem _ List.mem_cons_self)
  have hy : I32 y := hst _ List.mem_cons_self
  have h := next p l e R s mm args below meth c G ad0 ad H locs la Q C K RR RT RL hls (st2 hst (v := vi (x - y)) hr) hla
  refine lv_isub C.1 C.2.1 hd ?_
  rw [← Int32.ofInt_sub]
  exact h
theorem V_imul {x y : Int} (hd : decode (μc μ) pc = .ok (.imul, 1)) (hr : I32 (x * y)) (next : V μ F m0 post (pc + 1) ls (vi (x * y) :: st) m) : V μ F m0 post pc ls (vi y :: vi x :: st) m := by
  intro p l e R s mm args below meth c G ad0 ad H locs la Q C K RR RT RL hls hst hla
  have hx : I32 x := hst _ (List.mem_cons_of_mem _ List.mem_cons_self)
  have hy : I32 y := hst _ List.mem_cons_self
  have h := next p l e R s mm args below meth c G ad0 ad H locs la Q C K RR RT RL hls (st2 hst (v := vi (x * y)) hr) hla
  refine lv_imul C.1 C.2.1 hd ?_
  rw [← Int32.ofInt_mul]
  exact h
theorem V_ladd {x y : Int} (hd : decode (μc μ) pc = .ok (.ladd, 1)) (hr : I64 (x + y)) (next : V μ F m0 post (pc + 1) ls (vl (x + y) :: st) m) : V μ F m0 post pc ls (vl y :: vl x :: st) m := by
  intro p l e R s mm args below meth c G ad0 ad H locs la Q C K RR RT RL hls hst hla
  have hx : I64 x := hst _ (List.mem_cons_of_mem _ List.mem_cons_self)
  have hy : I64 y := hst _ List.mem_cons_self
  have h := next p l e R s mm args below meth c G ad0 ad H locs la Q C K RR RT RL hls (st2 hst (v := vl (x + y)) hr) hla
  refine lv_ladd C.1 C.2.1 hd ?_
  rw [← Int64.ofInt_add]
  exact h
theorem V_lsub {x y : Int} (hd : decode (μc μ) pc = .ok (.lsub, 1)) (hr : I64 (x - y)) (next : V μ F m0 post (pc + 1) ls (vl (x - y) :: st) m) : V μ F m0 post pc ls (vl y :: vl x :: st) m := by
  intro p l e R s mm args below meth c G ad0 ad H locs la Q C K RR RT RL hls hst hla
  have hx : I64 x := hst _ (List.mem_cons_of_mem _ List.mem_cons_self)
  have hy : I64 y := hst _ List.mem_cons_self
  have h := next p l e R s mm args below meth c G ad0 ad H locs la Q C K RR RT RL hls (st2 hst (v := vl (x - y)) hr) hla
  refine lv_lsub C.1 C.2.1 hd ?_
  rw [← Int64.ofInt_sub]
  exact h
theorem V_lmul {x y : Int} (hd : decode (μc μ) pc = .ok (.lmul, 1)) (hr : I64 (x * y)) (next : V μ F m0 post (pc + 1) ls (vl (x * y) :: st) m) : V μ F m0 post pc ls (vl y :: vl x :: st) m := by
  intro p l e R s mm args below meth c G ad0 ad H locs la Q C K RR RT RL hls hst hla
  have hx : I64 x := hst _ (List.mem_cons_of_mem _ List.mem_cons_self)
  have hy : I64 y := hst _ List.mem_cons_self
  have h := next p l e R s mm args below meth c G ad0 ad H locs la Q C K RR RT RL hls (st2 hst (v := vl (x * y)) hr) hla
  refine lv_lmul C.1 C.2.1 hd ?_
  rw [← Int64.ofInt_mul]
  exact h
theorem V_iand {x y : Int} (hd : decode (μc μ) pc = .ok (.iand, 1)) (next : V μ F m0 post (pc + 1) ls (vi (and32 x y) :: st) m) : V μ F m0 post pc ls (vi y :: vi x :: st) m := by
  intro p l e R s mm args below meth c G ad0 ad H locs la Q C K RR RT RL hls hst hla
  have hx : I32 x := hst _ (List.mem_cons_of_mem _ List.mem_cons_self)
  have hy : I32 y := hst _ List.mem_cons_self
  have h := next p l e R s mm args below meth c G ad0 ad H locs la Q C K RR RT RL hls (st2 hst (v := vi (and32 x y)) (i32_of _)) hla
  refine lv_iand C.1 C.2.1 hd ?_
  rw [← Int32.ofInt_toInt (_ &&& _)]
  exact h
theorem V_land {x y : Int} (hd : decode (μc μ) pc = .ok (.land, 1)) (next : V μ F m0 post (pc + 1) ls (vl (and64 x y) :: st) m) : V μ F m0 post pc ls (vl y :: vl x :: st) m := by
  intro p l e R s mm args below meth c G ad0 ad H locs la Q C K RR RT RL hls hst hla
  have hx : I64 x := hst _ (List.mem_cons_of_mem _ List.mem_cons_self)
  have hy : I64 y := hst _ List.mem_cons_self
  have h := next p l e R s mm args below meth c G ad0 ad H locs la Q C K RR RT RL hls (st2 hst (v := vl (and64 x y)) (i64_ofx _)) hla
  refine lv_land C.1 C.2.1 hd ?_
  rw [← Int64.ofInt_toInt (_ &&& _)]
  exact h
theorem V_ior {x y : Int} (hd : decode (μc μ) pc = .ok (.ior, 1)) (next : V μ F m0 post (pc + 1) ls (vi (or32 x y) :: st) m) : V μ F m0 post pc ls (vi y :: vi x :: st) m := by
  intro p l e R s mm args below meth c G ad0 ad H locs la Q C K RR RT RL hls hst hla
  have hx : I32 x := hst _ (List.mem_cons_of_mem _ List.mem_cons_self)
  have hy : I32 y := hst _ List.mem_cons_self
  have h := next p l e R s mm args below meth c G ad0 ad H locs la Q C K RR RT RL hls (st2 hst (v := vi (or32 x y)) (i32_of _)) hla
  refine lv_ior C.1 C.2.1 hd ?_
  rw [← Int32.ofInt_toInt (_ ||| _)]
  exact h
theorem V_lor {x y : Int} (hd : decode (μc μ) pc = .ok (.lor, 1)) (next : V μ F m0 post (pc + 1) ls (vl (or64 x y) :: st) m) : V μ F m0 post pc ls (vl y :: vl x :: st) m := by
  intro p l e R s mm args below meth c G ad0 ad H locs la Q C K RR RT RL hls hst hla
  have hx : I64 x := hst _ (List.mem_cons_of_mem _ List.mem_cons_self)
  have hy : I64 y := hst _ List.mem_cons_self
  have h := next p l e R s mm args below meth c G ad0 ad H locs la Q C K RR RT RL hls (st2 hst (v := vl (or64 x y)) (i64_ofx _)) hla
  refine lv_lor C.1 C.2.1 hd ?_
  rw [← Int64.ofInt_toInt (_ ||| _)]
  exact h
theorem V_ixor {x y : Int} (hd : decode (μc μ) pc = .ok (.ixor, 1)) (next : V μ F m0 post (pc + 1) ls (vi (xor32 x y) :: st) m) : V μ F m0 post pc ls (vi y :: vi x :: st) m := by
  intro p l e R s mm args below meth c G ad0 ad H locs la Q C K RR RT RL hls hst hla
  have hx : I32 x := hst _ (List.mem_cons_of_mem _ List.mem_cons_self)
  have hy : I32 y := hst _ List.mem_cons_self
  have h := next p l e R s mm args below meth c G ad0 ad H locs la Q C K RR RT RL hls (st2 hst (v := vi (xor32 x y)) (i32_of _)) hla
  refine lv_ixor C.1 C.2.1 hd ?_
  rw [← Int32.ofInt_toInt (_ ^^^ _)]
  exact h
theorem V_lxor {x y : Int} (hd : decode (μc μ) pc = .ok (.lxor, 1)) (next : V μ F m0 post (pc + 1) ls (vl (xor64 x y) :: st) m) : V μ F m0 post pc ls (vl y :: vl x :: st) m := by
  intro p l e R s mm args below meth c G ad0 ad H locs la Q C K RR RT RL hls hst hla
  have hx : I64 x := hst _ (List.mem_cons_of_mem _ List.mem_cons_self)
  have hy : I64 y := hst _ List.mem_cons_self
  have h := next p l e R s mm args below meth c G ad0 ad H locs la Q C K RR RT RL hls (st2 hst (v := vl (xor64 x y)) (i64_ofx _)) hla
  refine lv_lxor C.1 C.2.1 hd ?_
  rw [← Int64.ofInt_toInt (_ ^^^ _)]
  exact h
theorem V_ishl {x y : Int} (hd : decode (μc μ) pc = .ok (.ishl, 1)) (next : V μ F m0 post (pc + 1) ls (vi (shl32 x y) :: st) m) : V μ F m0 post pc ls (vi y :: vi x :: st) m := by
  intro p l e R s mm args below meth c G ad0 ad H locs la Q C K RR RT RL hls hst hla
  have hx : I32 x := hst _ (List.mem_cons_of_mem _ List.mem_cons_self)
  have hy : I32 y := hst _ List.mem_cons_self
  have h := next p l e R s mm args below meth c G ad0 ad H locs la Q C K RR RT RL hls (st2 hst (v := vi (shl32 x y)) (i32_of _)) hla
  refine lv_ishl C.1 C.2.1 hd ?_
  rw [← Int32.ofInt_toInt (_ <<< _)]
  exact h
theorem V_ishr {x y : Int} (hd : decode (μc μ) pc = .ok (.ishr, 1)) (next : V μ F m0 post (pc + 1) ls (vi (shr32 x y) :: st) m) : V μ F m0 post pc ls (vi y :: vi x :: st) m := by
  intro p l e R s mm args below meth c G ad0 ad H locs la Q C K RR RT RL hls hst hla
  have hx : I32 x := hst _ (List.mem_cons_of_mem _ List.mem_cons_self)
  have hy : I32 y := hst _ List.mem_cons_self
  have h := next p l e R s mm args below meth c G ad0 ad H locs la Q C K RR RT RL hls (st2 hst (v := vi (shr32 x y)) (i32_of _)) hla
  refine lv_ishr C.1 C.2.1 hd ?_
  rw [← Int32.ofInt_toInt (_ >>> _)]
  exact h
theorem V_iushr {x y : Int} (hd : decode (μc μ) pc = .ok (.iushr, 1)) (next : V μ F m0 post (pc + 1) ls (vi (ushr32 x y) :: st) m) : V μ F m0 post pc ls (vi y :: vi x :: st) m := by
  intro p l e R s mm args below meth c G ad0 ad H locs la Q C K RR RT RL hls hst hla
  have hx : I32 x := hst _ (List.mem_cons_of_mem _ List.mem_cons_self)
  have hy : I32 y := hst _ List.mem_cons_self
  have h := next p l e R s mm args below meth c G ad0 ad H locs la Q C K RR RT RL hls (st2 hst (v := vi (ushr32 x y)) (i32_of _)) hla
  refine lv_iushr C.1 C.2.1 hd (Int32.ofInt_toInt _).symm ?_
  skip
  exact h
theorem V_lshl {x y : Int} (hd : decode (μc μ) pc = .ok (.lshl, 1)) (next : V μ F m0 post (pc + 1) ls (vl (shl64 x y) :: st) m) : V μ F m0 post pc ls (vi y :: vl x :: st) m := by
  intro p l e R s mm args below meth c G ad0 ad H locs la Q C K RR RT RL hls hst hla
  have h := next p l e R s mm args below meth c G ad0 ad H locs la Q C K RR RT RL hls (st2 hst (v := vl (shl64 x y)) (i64_ofx _)) hla
  exact lv_lshl C.1 C.2.1 hd (Int64.ofInt_toInt _).symm h
theorem V_lshr {x y : Int} (hd : decode (μc μ) pc = .ok (.lshr, 1)) (next : V μ F m0 post (pc + 1) ls (vl (shr64 x y) :: st) m) : V μ F m0 post pc ls (vi y :: vl x :: st) m := by
  intro p l e R s mm args below meth c G ad0 ad H locs la Q C K RR RT RL hls hst hla
  have h := next p l e R s mm args below meth c G ad0 ad H locs la Q C K RR RT RL hls (st2 hst (v := vl (shr64 x y)) (i64_ofx _)) hla
  exact lv_lshr C.1 C.2.1 hd (Int64.ofInt_toInt _).symm h
theorem i32_div {x y : Int} (hx : I32 x) (hy : I32 y) (h0 : 0 ≤ x) (h1 : 0 < y) : Int32.ofInt x / Int32.ofInt y = Int32.ofInt (x / y) := by
  rw [← Int.tdiv_eq_ediv_of_nonneg h0]
  have em : Int32.maxValue.toInt = 2147483647 := by decide
  have en : Int32.minValue.toInt = -2147483648 := by decide
  unfold I32 at hx hy
  exact (Int32.ofInt_tdiv (by omega) (by omega) (by omega) (by omega)).symm
theorem i32_divr {x y : Int} (hx : I32 x) (h0 : 0 ≤ x) (h1 : 0 < y) : I32 (x / y) := by
  have h2 := Int.ediv_nonneg h0 (Int.le_of_lt h1)
  have h3 := Int.ediv_le_self y h0
  unfold I32 at *
  omega
theorem i32_modr {x y : Int} (hy : I32 y) (h1 : 0 < y) : I32 (x % y) := by
  have h2 := Int.emod_nonneg x (Int.ne_of_gt h1)
  have h3 := Int.emod_lt_of_pos x h1
  unfold I32 at *
  omega
theorem V_idiv {x y : Int} (hd : decode (μc μ) pc = .ok (.idiv, 1)) (h0 : 0 ≤ x) (h1 : 0 < y) (next : V μ F m0 post (pc + 1) ls (vi (x / y) :: st) m) : V μ F m0 post pc ls (vi y :: vi x :: st) m := by
  intro p l e R s mm args below meth c G ad0 ad H locs la Q C K RR RT RL hls hst hla
  have hx : I32 x := hst _ (List.mem_cons_of_mem _ List.mem_cons_self)
  have hy : I32 y := hst _ List.mem_cons_self
  have h := next p l e R s mm args below meth c G ad0 ad H locs la Q C K RR RT RL hls (st2 hst (v := vi (x / y)) (i32_divr hx h0 h1)) hla
  refine lv_idiv C.1 C.2.1 hd (fun e => absurd ((i32_eq hy i32_0).mp e) (by omega)) ?_
  rw [i32_div hx hy h0 h1]
  exact h
theorem V_irem {x y : Int} (hd : decode (μc μ) pc = .ok (.irem, 1)) (h0 : 0 ≤ x) (h1 : 0 < y) (next : V μ F m0 post (pc + 1) ls (vi (x % y) :: st) m) : V μ F m0 post pc ls (vi y :: vi x :: st) m := by
  intro p l e R s mm args below meth c G ad0 ad H locs la Q C K RR RT RL hls hst hla
  have hx : I32 x := hst _ (List.mem_cons_of_mem _ List.mem_cons_self)
  have hy : I32 y := hst _ List.mem_cons_self
  have h := next p l e R s mm args below meth c G ad0 ad H locs la Q C K RR RT RL hls (st2 hst (v := vi (x % y)) (i32_modr hy h1)) hla
  refine lv_irem C.1 C.2.1 hd (fun e => absurd ((i32_eq hy i32_0).mp e) (by omega)) ?_
  rw [i32_div hx hy h0 h1, ← Int32.ofInt_mul, ← Int32.ofInt_sub, show x - x / y * y = x % y from by rw [Int.emod_def, Int.mul_comm]]
  exact h
theorem V_ldiv {x y : Int} (hd : decode (μc μ) pc = .ok (.ldiv, 1)) (h1 : 0 < y) (hr : I64 (Int.tdiv x y)) (next : V μ F m0 post (pc + 1) ls (vl (Int.tdiv x y) :: st) m) : V μ F m0 post pc ls (vl y :: vl x :: st) m := by
  intro p l e R s mm args below meth c G ad0 ad H locs la Q C K RR RT RL hls hst hla
  have hx : I64 x := hst _ (List.mem_cons_of_mem _ List.mem_cons_self)
  have hy : I64 y := hst _ List.mem_cons_self
  have h := next p l e R s mm args below meth c G ad0 ad H locs la Q C K RR RT RL hls (st2 hst (v := vl (Int.tdiv x y)) hr) hla
  refine lv_ldiv C.1 C.2.1 hd (fun e => absurd ((i64_eq (y := 0) hy (by unfold I64; omega)).mp e) (by omega)) ?_
  have em : Int64.maxValue.toInt = 9223372036854775807 := by decide
  have en : Int64.minValue.toInt = -9223372036854775808 := by decide
  unfold I64 at hx hy
  rw [← Int64.ofInt_tdiv (by omega) (by omega) (by omega) (by omega)]
  exact h
theorem V_ineg {x : Int} (hd : decode (μc μ) pc = .ok (.ineg, 1)) (hr : I32 (-x)) (next : V μ F m0 post (pc + 1) ls (vi (-x) :: st) m) : V μ F m0 post pc ls (vi x :: st) m := by
  intro p l e R s mm args below meth c G ad0 ad H locs la Q C K RR RT RL hls hst hla
  have h := next p l e R s mm args below meth c G ad0 ad H locs la Q C K RR RT RL hls (st1 hst (v := vi (-x)) hr) hla
  refine lv_ineg C.1 C.2.1 hd ?_
  rw [← Int32.ofInt_neg]
  exact h
theorem V_i2l {x : Int} (hd : decode (μc μ) pc = .ok (.i2l, 1)) (next : V μ F m0 post (pc + 1) ls (vl x :: st) m) : V μ F m0 post pc ls (vi x :: st) m := by
  intro p l e R s mm args below meth c G ad0 ad H locs la Q C K RR RT RL hls hst hla
  have hx : I32 x := hst _ List.mem_cons_self
  have h := next p l e R s mm args below meth c G ad0 ad H locs la Q C K RR RT RL hls (st1 hst (v := vl x) (i64_of hx)) hla
  have em : Int32.maxValue.toInt = 2147483647 := by decide
  have en : Int32.minValue.toInt = -2147483648 := by decide
  unfold I32 at hx
  exact lv_i2l C.1 C.2.1 hd (Int32.toInt64_ofInt (n := x) (by omega) (by omega)) h
theorem V_l2i {x : Int} (hd : decode (μc μ) pc = .ok (.l2i, 1)) (hr : I32 x) (next : V μ F m0 post (pc + 1) ls (vi x :: st) m) : V μ F m0 post pc ls (vl x :: st) m := by
  intro p l e R s mm args below meth c G ad0 ad H locs la Q C K RR RT RL hls hst hla
  have h := next p l e R s mm args below meth c G ad0 ad H locs la Q C K RR RT RL hls (st1 hst (v := vi x) hr) hla
  exact lv_l2i C.1 C.2.1 hd Int64.toInt32_ofInt h
theorem i32_cmp (x y : Int) : I32 (cmpI x y) := by
  unfold I32 cmpI
  split
  · omega
  · split <;> omega
theorem V_lcmp {x y : Int} (hd : decode (μc μ) pc = .ok (.lcmp, 1)) (next : V μ F m0 post (pc + 1) ls (vi (cmpI x y) :: st) m) : V μ F m0 post pc ls (vl y :: vl x :: st) m := by
  intro p l e R s mm args below meth c G ad0 ad H locs la Q C K RR RT RL hls hst hla
  have hx : I64 x := hst _ (List.mem_cons_of_mem _ List.mem_cons_self)
  have hy : I64 y := hst _ List.mem_cons_self
  have h := next p l e R s mm args below meth c G ad0 ad H locs la Q C K RR RT RL hls (st2 hst (v := vi (cmpI x y)) (i32_cmp x y)) hla
  refine W.lcmp C.1 C.2.1 hd ?_
  have e : lg_cmp (Int64.ofInt x) (Int64.ofInt y) = Int32.ofInt (cmpI x y) := by
    unfold lg_cmp cmpI
    simp only [gt_iff_lt, i64_lt hy hx, i64_eq hx hy]
    split
    · rfl
    · split <;> rfl
  rw [e]
  exact h
theorem V_iinc {x n : Int} {k : Nat} {ls' : AL} (hd : decode (μc μ) pc = .ok (.iinc k n, 3)) (hv : vget ls k = some (vi x)) (hr : I32 (x + n)) (hk : k < μn μ) (hl : lset ls k (vi (x + n)) = ls') (next : V μ F m0 post (pc + 3) ls' st m) : V μ F m0 post pc ls st m := by
  intro p l e R s mm args below meth c G ad0 ad H locs la Q C K RR RT RL hls hst hla
  subst hl
  obtain ⟨j, hj⟩ := List.getElem?_of_mem (List.mem_map.mpr ⟨(k, vi x), vget_mem hv, rfl⟩ : (k, cv ad (vi x)) ∈ cvl ad ls)
  refine lv_iinc C.1 C.2.1 hd hla hj (Int32.ofInt_add x n).symm hk (congrArg _ (cvl_filter (g := fun q => !(q.1 == k) && (!(ac (vi (x + n)) == 2 && q.1 == k + 1) && !(q.1 + 1 == k && ac q.2 == 2))) fun q => ?_)) fun la' hla' => ?_
  · simp [cv_cat, ac]
  · exact next p l e R s mm args below meth c G ad0 ad H locs la' Q C K RR RT RL (fun q hq => by
      rcases List.mem_cons.mp hq with rfl | hq
      · exact hr
      · exact hls q (List.mem_filter.mp hq).1) hst hla'
theorem V_dup {v : AV} (hd : decode (μc μ) pc = .ok (.dup, 1)) (hv : ac v = 1) (next : V μ F m0 post (pc + 1) ls (v :: v :: st) m) : V μ F m0 post pc ls (v :: st) m := by
  intro p l e R s mm args below meth c G ad0 ad H locs la Q C K RR RT RL hls hst hla
  have h := next p l e R s mm args below meth c G ad0 ad H locs la Q C K RR RT RL hls (st0 hst (hst _ List.mem_cons_self)) hla
  exact lv_dup C.1 C.2.1 hd (by rw [cv_cat]; exact hv) h
theorem V_dup2 {v w : AV} (hd : decode (μc μ) pc = .ok (.dup2, 1)) (hv : ac v = 1) (hw : ac w = 1) (next : V μ F m0 post (pc + 1) ls (v :: w :: v :: w :: st) m) : V μ F m0 post pc ls (v :: w :: st) m := by
  intro p l e R s mm args below meth c G ad0 ad H locs la Q C K RR RT RL hls hst hla
  have h := next p l e R s mm args below meth c G ad0 ad H locs la Q C K RR RT RL hls (st0 (st0 hst (hst _ (List.mem_cons_of_mem _ List.mem_cons_self))) (hst _ List.mem_cons_self)) hla
  exact lv_dup2_11 C.1 C.2.1 hd (by rw [cv_cat]; exact hv) (by rw [cv_cat]; exact hw) h
theorem V_pop {v : AV} (hd : decode (μc μ) pc = .ok (.pop, 1)) (hv : ac v = 1) (next : V μ F m0 post (pc + 1) ls st m) : V μ F m0 post pc ls (v :: st) m := by
  intro p l e R s mm args below meth c G ad0 ad H locs la Q C K RR RT RL hls hst hla
  have h := next p l e R s mm args below meth c G ad0 ad H locs la Q C K RR RT RL hls (stT hst) hla
  exact lv_pop C.1 C.2.1 hd (by rw [cv_cat]; exact hv) h
theorem V_iconst {n : Int} (hd : decode (μc μ) pc = .ok (.iconst n, 1)) (hr : I32 n) (next : V μ F m0 post (pc + 1) ls (vi n :: st) m) : V μ F m0 post pc ls st m := by
  intro p l e R s mm args below meth c G ad0 ad H locs la Q C K RR RT RL hls hst hla
  have h := next p l e R s mm args below meth c G ad0 ad H locs la Q C K RR RT RL hls (st0 hst (v := vi n) hr) hla
  exact lv_iconst C.1 C.2.1 hd rfl h
theorem V_bipush {n : Int} (hd : decode (μc μ) pc = .ok (.bipush n, 2)) (hr : I32 n) (hn : (Int8.ofInt n).toInt32 = Int32.ofInt n) (next : V μ F m0 post (pc + 2) ls (vi n :: st) m) : V μ F m0 post pc ls st m := by
  intro p l e R s mm args below meth c G ad0 ad H locs la Q C K RR RT RL hls hst hla
  have h := next p l e R s mm args below meth c G ad0 ad H locs la Q C K RR RT RL hls (st0 hst (v := vi n) hr) hla
  exact lv_bipush C.1 C.2.1 hd hn h
theorem V_sipush {n : Int} (hd : decode (μc μ) pc = .ok (.sipush n, 3)) (hr : I32 n) (hn : (Int16.ofInt n).toInt32 = Int32.ofInt n) (next : V μ F m0 post (pc + 3) ls (vi n :: st) m) : V μ F m0 post pc ls st m := by
  intro p l e R s mm args below meth c G ad0 ad H locs la Q C K RR RT RL hls hst hla
  have h := next p l e R s mm args below meth c G ad0 ad H locs la Q C K RR RT RL hls (st0 hst (v := vi n) hr) hla
  exact lv_sipush C.1 C.2.1 hd hn h
theorem V_lconst {n : Fin 2} {x : Int} (hd : decode (μc μ) pc = .ok (.lconst n, 1)) (hr : I64 x) (hn : Int64.ofNat (n : Nat) = Int64.ofInt x) (next : V μ F m0 post (pc + 1) ls (vl x :: st) m) : V μ F m0 post pc ls st m := by
  intro p l e R s mm args below meth c G ad0 ad H locs la Q C K RR RT RL hls hst hla
  have h := next p l e R s mm args below meth c G ad0 ad H locs la Q C K RR RT RL hls (st0 hst (v := vl x) hr) hla
  exact lv_lconst C.1 C.2.1 hd hn h
theorem V_ldc {x : Int} {idx : Nat} {v : Int32} (hd : decode (μc μ) pc = .ok (.ldc idx, 2)) (hw : Cond.constant (μo μ) idx v ∈ lwg) (hr : I32 x) (hv : v = Int32.ofInt x) (next : V μ F m0 post (pc + 2) ls (vi x :: st) m) : V μ F m0 post pc ls st m := by
  intro p l e R s mm args below meth c G ad0 ad H locs la Q C K RR RT RL hls hst hla
  subst hv
  have h := next p l e R s mm args below meth c G ad0 ad H locs la Q C K RR RT RL hls (st0 hst (v := vi x) hr) hla
  exact lv_ldc C.1 C.2.1 C.2.2.2.1 (C.2.2.2.2.1 _ hw) hd h
theorem V_ldcw {x : Int} {idx : Nat} {v : Int32} (hd : decode (μc μ) pc = .ok (.ldc_w idx, 3)) (hw : Cond.constant (μo μ) idx v ∈ lwg) (hr : I32 x) (hv : v = Int32.ofInt x) (next : V μ F m0 post (pc + 3) ls (vi x :: st) m) : V μ F m0 post pc ls st m := by
  intro p l e R s mm args below meth c G ad0 ad H locs la Q C K RR RT RL hls hst hla
  subst hv
  have h := next p l e R s mm args below meth c G ad0 ad H locs la Q C K RR RT RL hls (st0 hst (v := vi x) hr) hla
  exact lv_ldcw C.1 C.2.1 C.2.2.2.1 (C.2.2.2.2.1 _ hw) hd h
theorem V_ldc2 {x : Int} {idx : Nat} {v : Int64} (hd : decode (μc μ) pc = .ok (.ldc2_w idx, 3)) (hw : Cond.constantLong (μo μ) idx v ∈ lwg) (hr : I64 x) (hv : v = Int64.ofInt x) (next : V μ F m0 post (pc + 3) ls (vl x :: st) m) : V μ F m0 post pc ls st m := by
  intro p l e R s mm args below meth c G ad0 ad H locs la Q C K RR RT RL hls hst hla
  subst hv
  have h := next p l e R s mm args below meth c G ad0 ad H locs la Q C K RR RT RL hls (st0 hst (v := vl x) hr) hla
  exact lv_ldc2 C.1 C.2.1 C.2.2.2.1 (C.2.2.2.2.1 _ hw) hd h
theorem V_null (hd : decode (μc μ) pc = .ok (.aconst_null, 1)) (next : V μ F m0 post (pc + 1) ls (vq none :: st) m) : V μ F m0 post pc ls st m := by
  intro p l e R s mm args below meth c G ad0 ad H locs la Q C K RR RT RL hls hst hla
  have h := next p l e R s mm args below meth c G ad0 ad H locs la Q C K RR RT RL hls (st0 hst (v := vq none) trivial) hla
  exact lv_null C.1 C.2.1 hd h
theorem V_goto {off : Int} {tgt : Nat} (hd : decode (μc μ) pc = .ok (.goto off, 3)) (ht : (pc : Int) + off = (tgt : Int)) (next : V μ F m0 post tgt ls st m) : V μ F m0 post pc ls st m := by
  intro p l e R s mm args below meth c G ad0 ad H locs la Q C K RR RT RL hls hst hla
  exact lv_goto C.1 C.2.1 hd ht (next p l e R s mm args below meth c G ad0 ad H locs la Q C K RR RT RL hls hst hla)
theorem V_ifnull {r : Option Nat} {off : Int} {tgt : Nat} (hd : decode (μc μ) pc = .ok (.ifnull off, 3)) (ht : (pc : Int) + off = (tgt : Int)) (kt : r = none → V μ F m0 post tgt ls st m) (kf : ∀ o, r = some o → V μ F m0 post (pc + 3) ls st m) : V μ F m0 post pc ls (vq r :: st) m := by
  intro p l e R s mm args below meth c G ad0 ad H locs la Q C K RR RT RL hls hst hla
  cases r with
  | none => exact lv_ifnullN C.1 C.2.1 hd ht (kt rfl p l e R s mm args below meth c G ad0 ad H locs la Q C K RR RT RL hls (stT hst) hla)
  | some o => exact lv_ifnull C.1 C.2.1 hd (kf o rfl p l e R s mm args below meth c G ad0 ad H locs la Q C K RR RT RL hls (stT hst) hla)
theorem V_ifnonnull {r : Option Nat} {off : Int} {tgt : Nat} (hd : decode (μc μ) pc = .ok (.ifnonnull off, 3)) (ht : (pc : Int) + off = (tgt : Int)) (kt : ∀ o, r = some o → V μ F m0 post tgt ls st m) (kf : r = none → V μ F m0 post (pc + 3) ls st m) : V μ F m0 post pc ls (vq r :: st) m := by
  intro p l e R s mm args below meth c G ad0 ad H locs la Q C K RR RT RL hls hst hla
  cases r with
  | none => exact lv_ifnonnullN C.1 C.2.1 hd (kf rfl p l e R s mm args below meth c G ad0 ad H locs la Q C K RR RT RL hls (stT hst) hla)
  | some o => exact lv_ifnonnull C.1 C.2.1 hd ht (kt o rfl p l e R s mm args below meth c G ad0 ad H locs la Q C K RR RT RL hls (stT hst) hla)
theorem V_tsIn {dflt lo hi : Int} {offs : Array Int} {len : Nat} {x cx off : Int} {tgt : Nat} (hd : decode (μc μ) pc = .ok (.tableswitch dflt lo hi offs, len)) (hx : x = cx) (h1 : lo ≤ cx ∧ cx ≤ hi) (ho : offs[(cx - lo).toNat]? = some off) (ht : (pc : Int) + off = (tgt : Int)) (next : V μ F m0 post tgt ls st m) : V μ F m0 post pc ls (vi x :: st) m := by
  intro p l e R s mm args below meth c G ad0 ad H locs la Q C K RR RT RL hls hst hla
  subst hx
  have hi : I32 x := hst _ List.mem_cons_self
  exact lv_tableIn C.1 C.2.1 hd (by rw [i32_toInt hi]; omega) (by rw [i32_toInt hi]; omega) (by rw [i32_toInt hi]; exact ho) ht (next p l e R s mm args below meth c G ad0 ad H locs la Q C K RR RT RL hls (stT hst) hla)
theorem V_tsOut {dflt lo hi : Int} {offs : Array Int} {len : Nat} {x : Int} {tgt : Nat} (hd : decode (μc μ) pc = .ok (.tableswitch dflt lo hi offs, len)) (hx : x < lo ∨ hi < x) (ht : (pc : Int) + dflt = (tgt : Int)) (next : V μ F m0 post tgt ls st m) : V μ F m0 post pc ls (vi x :: st) m := by
  intro p l e R s mm args below meth c G ad0 ad H locs la Q C K RR RT RL hls hst hla
  have hi : I32 x := hst _ List.mem_cons_self
  exact lv_tableOut C.1 C.2.1 hd (by rw [i32_toInt hi]; exact hx) ht (next p l e R s mm args below meth c G ad0 ad H locs la Q C K RR RT RL hls (stT hst) hla)
theorem V_lsw {dflt : Int} {ps : Array (Int × Int)} {len : Nat} {x off : Int} {tgt : Nat} (hd : decode (μc μ) pc = .ok (.lookupswitch dflt ps, len)) (hp : (ps.toList.zip (ps.toList.drop 1)).all (fun (a, next) => a.1 < next.1) = true) (ho : Op.lookupswitch.offset ps.toList dflt x = off) (ht : (pc : Int) + off = (tgt : Int)) (next : V μ F m0 post tgt ls st m) : V μ F m0 post pc ls (vi x :: st) m := by
  intro p l e R s mm args below meth c G ad0 ad H locs la Q C K RR RT RL hls hst hla
  have hi : I32 x := hst _ List.mem_cons_self
  exact lv_lookup C.1 C.2.1 hd hp (by rw [i32_toInt hi]; exact ho) ht (next p l e R s mm args below meth c G ad0 ad H locs la Q C K RR RT RL hls (stT hst) hla)
/-- what a value of the stack or of a local may be -/
theorem V_rg {k : Nat} {x : Int} (hv : vget ls k = some (vi x)) (next : I32 x → V μ F m0 post pc ls st m) : V μ F m0 post pc ls st m := by
  intro p l e R s mm args below meth c G ad0 ad H locs la Q C K RR RT RL hls hst hla
  exact next (hls _ (vget_mem hv)) p l e R s mm args below meth c G ad0 ad H locs la Q C K RR RT RL hls hst hla
theorem V_rgl {k : Nat} {x : Int} (hv : vget ls k = some (vl x)) (next : I64 x → V μ F m0 post pc ls st m) : V μ F m0 post pc ls st m := by
  intro p l e R s mm args below meth c G ad0 ad H locs la Q C K RR RT RL hls hst hla
  exact next (hls _ (vget_mem hv)) p l e R s mm args below meth c G ad0 ad H locs la Q C K RR RT RL hls hst hla
theorem V_rs {x : Int} (next : I32 x → V μ F m0 post pc ls (vi x :: st) m) : V μ F m0 post pc ls (vi x :: st) m := by
  intro p l e R s mm args below meth c G ad0 ad H locs la Q C K RR RT RL hls hst hla
  exact next (hst _ List.mem_cons_self) p l e R s mm args below meth c G ad0 ad H locs la Q C K RR RT RL hls hst hla
/-- fewer locals -/
theorem V_ls {ls' : AL} (h : ∀ q ∈ ls', q ∈ ls) (next : V μ F m0 post pc ls' st m) : V μ F m0 post pc ls st m := by
  intro p l e R s mm args below meth c G ad0 ad H locs la Q C K RR RT RL hls hst hla
  exact next p l e R s mm args below meth c G ad0 ad H locs la Q C K RR RT RL (fun q hq => hls q (h q hq)) hst ⟨hla.1, hla.2.1, fun q hq => by
    obtain ⟨q', h1, rfl⟩ := List.mem_map.mp hq
    exact hla.2.2 _ (List.mem_map.mpr ⟨q', h q' h1, rfl⟩)⟩
theorem V_okM (next : okM m → V μ F m0 post pc ls st m) : V μ F m0 post pc ls st m := by
  intro p l e R s mm args below meth c G ad0 ad H locs la Q C K RR RT RL hls hst hla
  exact next RL.2.2.2.1 p l e R s mm args below meth c G ad0 ad H locs la Q C K RR RT RL hls hst hla

theorem V_if_eq {x : Int} {off : Int} {tgt : Nat} (hd : decode (μc μ) pc = .ok (.ifCond .eq off, 3)) (ht : (pc : Int) + off = (tgt : Int)) (kt : x = 0 → V μ F m0 post tgt ls st m) (kf : ¬ x = 0 → V μ F m0 post (pc + 3) ls st m) : V μ F m0 post pc ls (vi x :: st) m := by
  intro p l e' R s mm args below meth c G ad0 ad H locs la Q C K RR RT RL hls hst hla
  have hx : I32 x := hst _ List.mem_cons_self
  have e := i32_eq hx i32_0
  exact lv_if_eq C.1 C.2.1 hd ht (fun h => kt (e.mp h) p l e' R s mm args below meth c G ad0 ad H locs la Q C K RR RT RL hls (stT hst) hla) (fun h => kf (fun h_ => h (e.mpr h_)) p l e' R s mm args below meth c G ad0 ad H locs la Q C K RR RT RL hls (stT hst) hla)
theorem V_icmp_eq {x y : Int} {off : Int} {tgt : Nat} (hd : decode (μc μ) pc = .ok (.if_icmp .eq off, 3)) (ht : (pc : Int) + off = (tgt : Int)) (kt : x = y → V μ F m0 post tgt ls st m) (kf : ¬ x = y → V μ F m0 post (pc + 3) ls st m) : V μ F m0 post pc ls (vi y :: vi x :: st) m := by
  intro p l e' R s mm args below meth c G ad0 ad H locs la Q C K RR RT RL hls hst hla
  have hx : I32 x := hst _ (List.mem_cons_of_mem _ List.mem_cons_self)
  have hy : I32 y := hst _ List.mem_cons_self
  have e := i32_eq hx hy
  exact lv_icmp_eq C.1 C.2.1 hd ht (fun h => kt (e.mp h) p l e' R s mm args below meth c G ad0 ad H locs la Q C K RR RT RL hls (stT (stT hst)) hla) (fun h => kf (fun h_ => h (e.mpr h_)) p l e' R s mm args below meth c G ad0 ad H locs la Q C K RR RT RL hls (stT (stT hst)) hla)
theorem V_if_ne {x : Int} {off : Int} {tgt : Nat} (hd : decode (μc μ) pc = .ok (.ifCond .ne off, 3)) (ht : (pc : Int) + off = (tgt : Int)) (kt : ¬ x = 0 → V μ F m0 post tgt ls st m) (kf : x = 0 → V μ F m0 post (pc + 3) ls st m) : V μ F m0 post pc ls (vi x :: st) m := by
  intro p l e' R s mm args below meth c G ad0 ad H locs la Q C K RR RT RL hls hst hla
  have hx : I32 x := hst _ List.mem_cons_self
  have e := not_congr (i32_eq hx i32_0)
  exact lv_if_ne C.1 C.2.1 hd ht (fun h => kt (e.mp h) p l e' R s mm args below meth c G ad0 ad H locs la Q C K RR RT RL hls (stT hst) hla) (fun h => kf ((i32_eq hx i32_0).mp h) p l e' R s mm args below meth c G ad0 ad H locs la Q C K RR RT RL hls (stT hst) hla)
theorem V_icmp_ne {x y : Int} {off : Int} {tgt : Nat} (hd : decode (μc μ) pc = .ok (.if_icmp .ne off, 3)) (ht : (pc : Int) + off = (tgt : Int)) (kt : ¬ x = y → V μ F m0 post tgt ls st m) (kf : x = y → V μ F m0 post (pc + 3) ls st m) : V μ F m0 post pc ls (vi y :: vi x :: st) m := by
  intro p l e' R s mm args below meth c G ad0 ad H locs la Q C K RR RT RL hls hst hla
  have hx : I32 x := hst _ (List.mem_cons_of_mem _ List.mem_cons_self)
  have hy : I32 y := hst _ List.mem_cons_self
  have e := not_congr (i32_eq hx hy)
  exact lv_icmp_ne C.1 C.2.1 hd ht (fun h => kt (e.mp h) p l e' R s mm args below meth c G ad0 ad H locs la Q C K RR RT RL hls (stT (stT hst)) hla) (fun h => kf ((i32_eq hx hy).mp h) p l e' R s mm args below meth c G ad0 ad H locs la Q C K RR RT RL hls (stT (stT hst)) hla)
theorem V_if_lt {x : Int} {off : Int} {tgt : Nat} (hd : decode (μc μ) pc = .ok (.ifCond .lt off, 3)) (ht : (pc : Int) + off = (tgt : Int)) (kt : x < 0 → V μ F m0 post tgt ls st m) (kf : ¬ x < 0 → V μ F m0 post (pc + 3) ls st m) : V μ F m0 post pc ls (vi x :: st) m := by
  intro p l e' R s mm args below meth c G ad0 ad H locs la Q C K RR RT RL hls hst hla
  have hx : I32 x := hst _ List.mem_cons_self
  have e := i32_lt hx i32_0
  exact lv_if_lt C.1 C.2.1 hd ht (fun h => kt (e.mp h) p l e' R s mm args below meth c G ad0 ad H locs la Q C K RR RT RL hls (stT hst) hla) (fun h => kf (fun h_ => h (e.mpr h_)) p l e' R s mm args below meth c G ad0 ad H locs la Q C K RR RT RL hls (stT hst) hla)
theorem V_icmp_lt {x y : Int} {off : Int} {tgt : Nat} (hd : decode (μc μ) pc = .ok (.if_icmp .lt off, 3)) (ht : (pc : Int) + off = (tgt : Int)) (kt : x < y → V μ F m0 post tgt ls st m) (kf : ¬ x < y → V μ F m0 post (pc + 3) ls st m) : V μ F m0 post pc ls (vi y :: vi x :: st) m := by
  intro p l e' R s mm args below meth c G ad0 ad H locs la Q C K RR RT RL hls hst hla
  have hx : I32 x := hst _ (List.mem_cons_of_mem _ List.mem_cons_self)
  have hy : I32 y := hst _ List.mem_cons_self
  have e := i32_lt hx hy
  exact lv_icmp_lt C.1 C.2.1 hd ht (fun h => kt (e.mp h) p l e' R s mm args below meth c G ad0 ad H locs la Q C K RR RT RL hls (stT (stT hst)) hla) (fun h => kf (fun h_ => h (e.mpr h_)) p l e' R s mm args below meth c G ad0 ad H locs la Q C K RR RT RL hls (stT (stT hst)) hla)
theorem V_if_ge {x : Int} {off : Int} {tgt : Nat} (hd : decode (μc μ) pc = .ok (.ifCond .ge off, 3)) (ht : (pc : Int) + off = (tgt : Int)) (kt : 0 ≤ x → V μ F m0 post tgt ls st m) (kf : ¬ 0 ≤ x → V μ F m0 post (pc + 3) ls st m) : V μ F m0 post pc ls (vi x :: st) m := by
  intro p l e' R s mm args below meth c G ad0 ad H locs la Q C K RR RT RL hls hst hla
  have hx : I32 x := hst _ List.mem_cons_self
  have e := i32_le i32_0 hx
  exact lv_if_ge C.1 C.2.1 hd ht (fun h => kt (e.mp h) p l e' R s mm args below meth c G ad0 ad H locs la Q C K RR RT RL hls (stT hst) hla) (fun h => kf (fun h_ => h (e.mpr h_)) p l e' R s mm args below meth c G ad0 ad H locs la Q C K RR RT RL hls (stT hst) hla)
theorem V_icmp_ge {x y : Int} {off : Int} {tgt : Nat} (hd : decode (μc μ) pc = .ok (.if_icmp .ge off, 3)) (ht : (pc : Int) + off = (tgt : Int)) (kt : y ≤ x → V μ F m0 post tgt ls st m) (kf : ¬ y ≤ x → V μ F m0 post (pc + 3) ls st m) : V μ F m0 post pc ls (vi y :: vi x :: st) m := by
  intro p l e' R s mm args below meth c G ad0 ad H locs la Q C K RR RT RL hls hst hla
  have hx : I32 x := hst _ (List.mem_cons_of_mem _ List.mem_cons_self)
  have hy : I32 y := hst _ List.mem_cons_self
  have e := i32_le hy hx
  exact lv_icmp_ge C.1 C.2.1 hd ht (fun h => kt (e.mp h) p l e' R s mm args below meth c G ad0 ad H locs la Q C K RR RT RL hls (stT (stT hst)) hla) (fun h => kf (fun h_ => h (e.mpr h_)) p l e' R s mm args below meth c G ad0 ad H locs la Q C K RR RT RL hls (stT (stT hst)) hla)
theorem V_if_gt {x : Int} {off : Int} {tgt : Nat} (hd : decode (μc μ) pc = .ok (.ifCond .gt off, 3)) (ht : (pc : Int) + off = (tgt : Int)) (kt : 0 < x → V μ F m0 post tgt ls st m) (kf : ¬ 0 < x → V μ F m0 post (pc + 3) ls st m) : V μ F m0 post pc ls (vi x :: st) m := by
  intro p l e' R s mm args below meth c G ad0 ad H locs la Q C K RR RT RL hls hst hla
  have hx : I32 x := hst _ List.mem_cons_self
  have e := i32_lt i32_0 hx
  exact lv_if_gt C.1 C.2.1 hd ht (fun h => kt (e.mp h) p l e' R s mm args below meth c G ad0 ad H locs la Q C K RR RT RL hls (stT hst) hla) (fun h => kf (fun h_ => h (e.mpr h_)) p l e' R s mm args below meth c G ad0 ad H locs la Q C K RR RT RL hls (stT hst) hla)
theorem V_icmp_gt {x y : Int} {off : Int} {tgt : Nat} (hd : decode (μc μ) pc = .ok (.if_icmp .gt off, 3)) (ht : (pc : Int) + off = (tgt : Int)) (kt : y < x → V μ F m0 post tgt ls st m) (kf : ¬ y < x → V μ F m0 post (pc + 3) ls st m) : V μ F m0 post pc ls (vi y :: vi x :: st) m := by
  intro p l e' R s mm args below meth c G ad0 ad H locs la Q C K RR RT RL hls hst hla
  have hx : I32 x := hst _ (List.mem_cons_of_mem _ List.mem_cons_self)
  have hy : I32 y := hst _ List.mem_cons_self
  have e := i32_lt hy hx
  exact lv_icmp_gt C.1 C.2.1 hd ht (fun h => kt (e.mp h) p l e' R s mm args below meth c G ad0 ad H locs la Q C K RR RT RL hls (stT (stT hst)) hla) (fun h => kf (fun h_ => h (e.mpr h_)) p l e' R s mm args below meth c G ad0 ad H locs la Q C K RR RT RL hls (stT (stT hst)) hla)
theorem V_if_le {x : Int} {off : Int} {tgt : Nat} (hd : decode (μc μ) pc = .ok (.ifCond .le off, 3)) (ht : (pc : Int) + off = (tgt : Int)) (kt : x ≤ 0 → V μ F m0 post tgt ls st m) (kf : ¬ x ≤ 0 → V μ F m0 post (pc + 3) ls st m) : V μ F m0 post pc ls (vi x :: st) m := by
  intro p l e' R s mm args below meth c G ad0 ad H locs la Q C K RR RT RL hls hst hla
  have hx : I32 x := hst _ List.mem_cons_self
  have e := i32_le hx i32_0
  exact lv_if_le C.1 C.2.1 hd ht (fun h => kt (e.mp h) p l e' R s mm args below meth c G ad0 ad H locs la Q C K RR RT RL hls (stT hst) hla) (fun h => kf (fun h_ => h (e.mpr h_)) p l e' R s mm args below meth c G ad0 ad H locs la Q C K RR RT RL hls (stT hst) hla)
theorem V_icmp_le {x y : Int} {off : Int} {tgt : Nat} (hd : decode (μc μ) pc = .ok (.if_icmp .le off, 3)) (ht : (pc : Int) + off = (tgt : Int)) (kt : x ≤ y → V μ F m0 post tgt ls st m) (kf : ¬ x ≤ y → V μ F m0 post (pc + 3) ls st m) : V μ F m0 post pc ls (vi y :: vi x :: st) m := by
  intro p l e' R s mm args below meth c G ad0 ad H locs la Q C K RR RT RL hls hst hla
  have hx : I32 x := hst _ (List.mem_cons_of_mem _ List.mem_cons_self)
  have hy : I32 y := hst _ List.mem_cons_self
  have e := i32_le hx hy
  exact lv_icmp_le C.1 C.2.1 hd ht (fun h => kt (e.mp h) p l e' R s mm args below meth c G ad0 ad H locs la Q C K RR RT RL hls (stT (stT hst)) hla) (fun h => kf (fun h_ => h (e.mpr h_)) p l e' R s mm args below meth c G ad0 ad H locs la Q C K RR RT RL hls (stT (stT hst)) hla)
end ROWS2
