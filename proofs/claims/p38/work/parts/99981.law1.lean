/-! THE LAW'S SMALL METHODS -/
section ROWSW
variable {μ : MI} {F : Nat} {m0 : Mem} {post : Option AV → Mem → Prop} {pc : Nat} {ls : AL} {st : List AV} {m : Mem}
theorem V_iaddW {x y : Int} (hd : decode (μc μ) pc = .ok (.iadd, 1)) (next : ∀ z : Int, V μ F m0 post (pc + 1) ls (vi z :: st) m) : V μ F m0 post pc ls (vi y :: vi x :: st) m := by
  intro p l e R s mm args below meth c G ad0 ad H locs la Q C K RR RT RL hls hst hla
  have h := next (Int32.ofInt x + Int32.ofInt y).toInt p l e R s mm args below meth c G ad0 ad H locs la Q C K RR RT RL hls (st2 hst (v := vi _) (i32_of _)) hla
  refine lv_iadd C.1 C.2.1 hd ?_
  rw [← Int32.ofInt_toInt (_ + _)]
  exact h
theorem V_isubW {x y : Int} (hd : decode (μc μ) pc = .ok (.isub, 1)) (next : ∀ z : Int, V μ F m0 post (pc + 1) ls (vi z :: st) m) : V μ F m0 post pc ls (vi y :: vi x :: st) m := by
  intro p l e R s mm args below meth c G ad0 ad H locs la Q C K RR RT RL hls hst hla
  have h := next (Int32.ofInt x - Int32.ofInt y).toInt p l e R s mm args below meth c G ad0 ad H locs la Q C K RR RT RL hls (st2 hst (v := vi _) (i32_of _)) hla
  refine lv_isub C.1 C.2.1 hd ?_
  rw [← Int32.ofInt_toInt (_ - _)]
  exact h
theorem V_imulW {x y : Int} (hd : decode (μc μ) pc = .ok (.imul, 1)) (next : ∀ z : Int, V μ F m0 post (pc + 1) ls (vi z :: st) m) : V μ F m0 post pc ls (vi y :: vi x :: st) m := by
  intro p l e R s mm args below meth c G ad0 ad H locs la Q C K RR RT RL hls hst hla
  have h := next (Int32.ofInt x * Int32.ofInt y).toInt p l e R s mm args below meth c G ad0 ad H locs la Q C K RR RT RL hls (st2 hst (v := vi _) (i32_of _)) hla
  refine lv_imul C.1 C.2.1 hd ?_
  rw [← Int32.ofInt_toInt (_ * _)]
  exact h
end ROWSW
theorem ushr8 {x : Int} : 0 ≤ ushr32 x 8 := by
  unfold ushr32
  rw [show (Int32.ofInt 8).toUInt32 &&& Int32.toUInt32 31 = 8 from by decide]
  generalize (Int32.ofInt x).toUInt32 = u
  have h1 : (u >>> 8).toNat < 2147483648 := by
    rw [UInt32.toNat_shiftRight]
    have := u.toNat_lt
    rw [Nat.shiftRight_eq_div_pow]
    have e : (8 : UInt32).toNat % 32 = 8 := by decide
    rw [e]
    omega
  show 0 ≤ (u >>> 8).toBitVec.toInt
  rw [BitVec.toInt_eq_toNat_cond]
  have h2 : (u >>> 8).toBitVec.toNat < 2147483648 := h1
  rw [if_pos (by omega)]
  omega
/-- the law's rows: o, and what they have -/
def RwO (m : Mem) (o n : Nat) (v : Nat → Nat → Int) : Prop := mT m o = (25, n) ∧ n ≤ 7 ∧ ∀ r, r < n → ∃ q, mR m o r = some q ∧ mT m q = (20, 2) ∧ (mI m q 0 = v r 0 ∧ mI m q 1 = v r 1) ∧ (-10 ≤ v r 0 ∧ v r 0 ≤ 1000) ∧ -10 ≤ v r 1 ∧ v r 1 ≤ 1000
theorem RwO.row {m : Mem} {o n : Nat} {v : Nat → Nat → Int} (h : RwO m o n v) {r : Int} (hr : 0 ≤ r ∧ r < (n : Int)) : ∃ q, mR m o r.toNat = some q ∧ mT m q = (20, 2) ∧ (mI m q 0 = v r.toNat 0 ∧ mI m q 1 = v r.toNat 1) ∧ (-10 ≤ v r.toNat 0 ∧ v r.toNat 0 ≤ 1000) ∧ -10 ≤ v r.toNat 1 ∧ v r.toNat 1 ≤ 1000 := h.2.2 _ (by omega)
def valR (v : Nat → Nat → Int) (n : Nat) (r c : Int) : Int := if 0 ≤ r ∧ r < (n : Int) then v r.toNat c.toNat else 1000
theorem valR_in {v : Nat → Nat → Int} {n : Nat} {r c : Int} (h : 0 ≤ r ∧ r < (n : Int)) : valR v n r c = v r.toNat c.toNat := if_pos h
theorem valR_out {v : Nat → Nat → Int} {n : Nat} {r c : Int} (h : ¬ (0 ≤ r ∧ r < (n : Int))) : valR v n r c = 1000 := if_neg h
/-- what the law's rows are for a condition -/
def ceR (v : Nat → Nat → Int) : Nat → Int := fun k => v (k / 2) (k % 2)
theorem ceR_v {v : Nat → Nat → Int} {r c : Int} (hr : 0 ≤ r) (hc : c = 0 ∨ c = 1) : ceR v (2 * r + c).toNat = v r.toNat c.toNat := by
  unfold ceR
  rw [show (2 * r + c).toNat / 2 = r.toNat by omega, show (2 * r + c).toNat % 2 = c.toNat by omega]
theorem lsE_top {le : Nat → Int} {w : Int} : ∀ (d : Nat) (k : Int), 0 ≤ k → (lsE le w d k = -1 ∨ k ≤ lsE le w d k) ∧ lsE le w (d + 1) k = if 0 ≤ lsE le w d (k + 1) then lsE le w d (k + 1) else if le k.toNat = w then k else -1
  | 0, k, hk => by
    refine ⟨Or.inl rfl, ?_⟩
    show (if le (k + ((0 : Nat) : Int)).toNat = w then k + ((0 : Nat) : Int) else -1) = if (0 : Int) ≤ -1 then _ else _
    rw [if_neg (show ¬ (0 : Int) ≤ -1 by decide), show k + ((0 : Nat) : Int) = k by omega]
  | d + 1, k, hk => by
    obtain ⟨i1, i2⟩ := lsE_top (le := le) (w := w) d k hk
    obtain ⟨j1, j2⟩ := lsE_top (le := le) (w := w) d (k + 1) (by omega)
    have e1 : lsE le w (d + 1) k = if le (k + (d : Int)).toNat = w then k + (d : Int) else lsE le w d k := rfl
    have e2 : lsE le w (d + 1 + 1) k = if le (k + ((d + 1 : Nat) : Int)).toNat = w then k + ((d + 1 : Nat) : Int) else lsE le w (d + 1) k := rfl
    have e3 : lsE le w (d + 1) (k + 1) = if le (k + 1 + (d : Int)).toNat = w then k + 1 + (d : Int) else lsE le w d (k + 1) := rfl
    rw [show k + 1 + (d : Int) = k + ((d + 1 : Nat) : Int) by omega] at e3
    constructor
    · rw [e1]
      split
      · omega
      · exact i1
    · rw [e2, e3]
      by_cases c : le (k + ((d + 1 : Nat) : Int)).toNat = w
      · rw [if_pos c, if_pos c, if_pos (by omega)]
      · rw [if_neg c, if_neg c, i2]
set_option maxHeartbeats 4000000 in
theorem w_cell  (m : Mem) (i : Int)   (hi : 0 ≤ i) : Ct μL_cell 0 [vr SC, vi i] m (ri fun x_ m' => (True) ∧ m = m') := by
  refine Ct_of_V rfl (by decide) rfl (Nat.le_of_ble_eq_true rfl) ?_
  show V μL_cell 0 m _ 0 [(0, vr SC), (1, vi i)] [] m
  refine V_rg (k := 1) (x := i) rfl fun r_i => ?_
  refine V_ldc (pc := 0) dL_cell_0 (x := 69069) kc_RL_7 (by unfold I32; omega) rfl ?_
  refine V_ld (pc := 2) dL_cell_2 (v := vi i) rfl rfl ?_
  refine V_ld (pc := 3) dL_cell_3 (v := vr SC) rfl rfl ?_
  refine V_slen (pc := 4) dL_cell_4 (fun n_le => ?_)
  refine V_icmp_ge (pc := 5) dL_cell_5 (tgt := 14) rfl (fun h5 => ?_) (fun h5 => ?_)
  · skip
    refine V_iconst (pc := 14) dL_cell_14 (by unfold I32; omega) ?_
    refine V_sipush (pc := 15) dL_cell_15 (by unfold I32; omega) (by decide) ?_
    refine V_ld (pc := 18) dL_cell_18 (v := vi i) rfl rfl ?_
    refine V_imulW (pc := 19) dL_cell_19 (fun z19 => ?_)
    refine V_iaddW (pc := 20) dL_cell_20 (fun z20 => ?_)
    refine V_imulW (pc := 21) dL_cell_21 (fun z21 => ?_)
    refine V_sipush (pc := 22) dL_cell_22 (by unfold I32; omega) (by decide) ?_
    refine V_iaddW (pc := 25) dL_cell_25 (fun z25 => ?_)
    refine V_st (pc := 26) dL_cell_26 (ls' := [(2, vi z25), (0, vr SC), (1, vi i)]) rfl (Nat.le_of_ble_eq_true rfl) rfl ?_
    refine V_ld (pc := 27) dL_cell_27 (v := vi z25) rfl rfl ?_
    refine V_ld (pc := 28) dL_cell_28 (v := vi z25) rfl rfl ?_
    refine V_bipush (pc := 29) dL_cell_29 (by unfold I32; omega) (by decide) ?_
    refine V_iushr (pc := 31) dL_cell_31 ?_
    generalize ushr32 z25 13 = z31
    refine V_ixor (pc := 32) dL_cell_32 ?_
    generalize xor32 z25 z31 = z32
    refine V_ldc (pc := 33) dL_cell_33 (x := 1103515245) kc_RL_8 (by unfold I32; omega) rfl ?_
    refine V_imulW (pc := 35) dL_cell_35 (fun z35 => ?_)
    refine V_st (pc := 36) dL_cell_36 (ls' := [(2, vi z35), (0, vr SC), (1, vi i)]) rfl (Nat.le_of_ble_eq_true rfl) rfl ?_
    refine V_ld (pc := 37) dL_cell_37 (v := vi z35) rfl rfl ?_
    refine V_ld (pc := 38) dL_cell_38 (v := vi z35) rfl rfl ?_
    refine V_bipush (pc := 39) dL_cell_39 (by unfold I32; omega) (by decide) ?_
    refine V_iushr (pc := 41) dL_cell_41 ?_
    generalize ushr32 z35 16 = z41
    refine V_ixor (pc := 42) dL_cell_42 ?_
    generalize xor32 z35 z41 = z42
    refine V_reti (pc := 43) dL_cell_43 trivial ?_
    exact ⟨trivial, rfl⟩
  · skip
    refine V_ld (pc := 8) dL_cell_8 (v := vr SC) rfl rfl ?_
    refine V_ld (pc := 9) dL_cell_9 (v := vi i) rfl rfl ?_
    refine V_sld (pc := 10) dL_cell_10 (by omega) ?_
    refine V_goto (pc := 11) dL_cell_11 (tgt := 15) rfl ?_
    refine V_sipush (pc := 15) dL_cell_15 (by unfold I32; omega) (by decide) ?_
    refine V_ld (pc := 18) dL_cell_18 (v := vi i) rfl rfl ?_
    refine V_imulW (pc := 19) dL_cell_19 (fun z19 => ?_)
    refine V_iaddW (pc := 20) dL_cell_20 (fun z20 => ?_)
    refine V_imulW (pc := 21) dL_cell_21 (fun z21 => ?_)
    refine V_sipush (pc := 22) dL_cell_22 (by unfold I32; omega) (by decide) ?_
    refine V_iaddW (pc := 25) dL_cell_25 (fun z25 => ?_)
    refine V_st (pc := 26) dL_cell_26 (ls' := [(2, vi z25), (0, vr SC), (1, vi i)]) rfl (Nat.le_of_ble_eq_true rfl) rfl ?_
    refine V_ld (pc := 27) dL_cell_27 (v := vi z25) rfl rfl ?_
    refine V_ld (pc := 28) dL_cell_28 (v := vi z25) rfl rfl ?_
    refine V_bipush (pc := 29) dL_cell_29 (by unfold I32; omega) (by decide) ?_
    refine V_iushr (pc := 31) dL_cell_31 ?_
    generalize ushr32 z25 13 = z31
    refine V_ixor (pc := 32) dL_cell_32 ?_
    generalize xor32 z25 z31 = z32
    refine V_ldc (pc := 33) dL_cell_33 (x := 1103515245) kc_RL_8 (by unfold I32; omega) rfl ?_
    refine V_imulW (pc := 35) dL_cell_35 (fun z35 => ?_)
    refine V_st (pc := 36) dL_cell_36 (ls' := [(2, vi z35), (0, vr SC), (1, vi i)]) rfl (Nat.le_of_ble_eq_true rfl) rfl ?_
    refine V_ld (pc := 37) dL_cell_37 (v := vi z35) rfl rfl ?_
    refine V_ld (pc := 38) dL_cell_38 (v := vi z35) rfl rfl ?_
    refine V_bipush (pc := 39) dL_cell_39 (by unfold I32; omega) (by decide) ?_
    refine V_iushr (pc := 41) dL_cell_41 ?_
    generalize ushr32 z35 16 = z41
    refine V_ixor (pc := 42) dL_cell_42 ?_
    generalize xor32 z35 z41 = z42
    refine V_reti (pc := 43) dL_cell_43 trivial ?_
    exact ⟨trivial, rfl⟩

set_option maxHeartbeats 4000000 in
theorem w_pick  (m : Mem) (i : Int) (k : Int)   (hi : 0 ≤ i ∧ 0 < k) : Ct μL_pick 1 [vr SC, vi i, vi k] m (ri fun x_ m' => (0 ≤ x_ ∧ x_ < k) ∧ m = m') := by
  refine Ct_of_V rfl (by decide) rfl (Nat.le_of_ble_eq_true rfl) ?_
  show V μL_pick 1 m _ 0 [(0, vr SC), (1, vi i), (2, vi k)] [] m
  refine V_rg (k := 1) (x := i) rfl fun r_i => ?_
  refine V_rg (k := 2) (x := k) rfl fun r_k => ?_
  refine V_ld (pc := 0) dL_pick_0 (v := vr SC) rfl rfl ?_
  refine V_ld (pc := 1) dL_pick_1 (v := vi i) rfl rfl ?_
  refine V_callS (pc := 2) dL_pick_2 (F' := 0) (As := [vr SC, vi i]) (st := []) cw_RL_9 rfl rfl (Nat.le_of_ble_eq_true rfl) (by omega) (w_cell  m i   hi.1) ?_
  rintro _ _ ⟨x2, rfl, hx2, rfl⟩ ok2 le2
  refine V_bipush (pc := 5) dL_pick_5 (by unfold I32; omega) (by decide) ?_
  refine V_iushr (pc := 7) dL_pick_7 ?_
  refine V_ld (pc := 8) dL_pick_8 (v := vi k) rfl rfl ?_
  refine V_irem (pc := 9) dL_pick_9 ushr8 (by omega) ?_
  refine V_reti (pc := 10) dL_pick_10 trivial ?_
  exact ⟨⟨Int.emod_nonneg _ (by omega), Int.emod_lt_of_pos _ (by omega)⟩, rfl⟩

def lsI (a b : Int) : Int := if a < 1000 ∧ b < 1000 ∧ a < b then 1 else 0
def lqI (a b : Int) : Int := if a < 1000 ∧ a = b then 1 else 0
theorem lsI_v (a b : Int) : lsI a b = 0 ∨ lsI a b = 1 := by unfold lsI; split <;> omega
theorem lqI_v (a b : Int) : lqI a b = 0 ∨ lqI a b = 1 := by unfold lqI; split <;> omega
set_option maxHeartbeats 4000000 in
theorem w_less  (m : Mem) (a : Int) (b : Int)    : Ct μL_isLess 0 [vi a, vi b] m (ri fun x_ m' => (x_ = lsI a b) ∧ m = m') := by
  refine Ct_of_V rfl (by decide) rfl (Nat.le_of_ble_eq_true rfl) ?_
  show V μL_isLess 0 m _ 0 [(0, vi a), (1, vi b)] [] m
  refine V_rg (k := 0) (x := a) rfl fun r_a => ?_
  refine V_rg (k := 1) (x := b) rfl fun r_b => ?_
  refine V_ld (pc := 0) dL_isLess_0 (v := vi a) rfl rfl ?_
  refine V_sipush (pc := 1) dL_isLess_1 (by unfold I32; omega) (by decide) ?_
  refine V_icmp_ge (pc := 4) dL_isLess_4 (tgt := 23) rfl (fun h4 => ?_) (fun h4 => ?_)
  · skip
    refine V_iconst (pc := 23) dL_isLess_23 (by unfold I32; omega) ?_
    refine V_reti (pc := 24) dL_isLess_24 (show _ = (0 : Int) ∨ _ = (1 : Int) from by first | exact Or.inl rfl | exact Or.inr rfl | omega) ?_
    refine ⟨?_, rfl⟩
    unfold lsI
    split <;> omega
  · skip
    refine V_ld (pc := 7) dL_isLess_7 (v := vi b) rfl rfl ?_
    refine V_sipush (pc := 8) dL_isLess_8 (by unfold I32; omega) (by decide) ?_
    refine V_icmp_ge (pc := 11) dL_isLess_11 (tgt := 23) rfl (fun h11 => ?_) (fun h11 => ?_)
    · skip
      refine V_iconst (pc := 23) dL_isLess_23 (by unfold I32; omega) ?_
      refine V_reti (pc := 24) dL_isLess_24 (show _ = (0 : Int) ∨ _ = (1 : Int) from by first | exact Or.inl rfl | exact Or.inr rfl | omega) ?_
      refine ⟨?_, rfl⟩
      unfold lsI
      split <;> omega
    · skip
      refine V_ld (pc := 14) dL_isLess_14 (v := vi a) rfl rfl ?_
      refine V_ld (pc := 15) dL_isLess_15 (v := vi b) rfl rfl ?_
      refine V_icmp_ge (pc := 16) dL_isLess_16 (tgt := 23) rfl (fun h16 => ?_) (fun h16 => ?_)
      · skip
        refine V_iconst (pc := 23) dL_isLess_23 (by unfold I32; omega) ?_
        refine V_reti (pc := 24) dL_isLess_24 (show _ = (0 : Int) ∨ _ = (1 : Int) from by first | exact Or.inl rfl | exact Or.inr rfl | omega) ?_
        refine ⟨?_, rfl⟩
        unfold lsI
        split <;> omega
      · skip
        refine V_iconst (pc := 19) dL_isLess_19 (by unfold I32; omega) ?_
        refine V_goto (pc := 20) dL_isLess_20 (tgt := 24) rfl ?_
        refine V_reti (pc := 24) dL_isLess_24 (show _ = (0 : Int) ∨ _ = (1 : Int) from by first | exact Or.inl rfl | exact Or.inr rfl | omega) ?_
        refine ⟨?_, rfl⟩
        unfold lsI
        split <;> omega

set_option maxHeartbeats 4000000 in
theorem w_like  (m : Mem) (a : Int) (b : Int)    : Ct μL_isLike 0 [vi a, vi b] m (ri fun x_ m' => (x_ = lqI a b) ∧ m = m') := by
  refine Ct_of_V rfl (by decide) rfl (Nat.le_of_ble_eq_true rfl) ?_
  show V μL_isLike 0 m _ 0 [(0, vi a), (1, vi b)] [] m
  refine V_rg (k := 0) (x := a) rfl fun r_a => ?_
  refine V_rg (k := 1) (x := b) rfl fun r_b => ?_
  refine V_ld (pc := 0) dL_isLike_0 (v := vi a) rfl rfl ?_
  refine V_sipush (pc := 1) dL_isLike_1 (by unfold I32; omega) (by decide) ?_
  refine V_icmp_ge (pc := 4) dL_isLike_4 (tgt := 16) rfl (fun h4 => ?_) (fun h4 => ?_)
  · skip
    refine V_iconst (pc := 16) dL_isLike_16 (by unfold I32; omega) ?_
    refine V_reti (pc := 17) dL_isLike_17 (show _ = (0 : Int) ∨ _ = (1 : Int) from by first | exact Or.inl rfl | exact Or.inr rfl | omega) ?_
    refine ⟨?_, rfl⟩
    unfold lqI
    split <;> omega
  · skip
    refine V_ld (pc := 7) dL_isLike_7 (v := vi a) rfl rfl ?_
    refine V_ld (pc := 8) dL_isLike_8 (v := vi b) rfl rfl ?_
    refine V_icmp_ne (pc := 9) dL_isLike_9 (tgt := 16) rfl (fun h9 => ?_) (fun h9 => ?_)
    · skip
      refine V_iconst (pc := 16) dL_isLike_16 (by unfold I32; omega) ?_
      refine V_reti (pc := 17) dL_isLike_17 (show _ = (0 : Int) ∨ _ = (1 : Int) from by first | exact Or.inl rfl | exact Or.inr rfl | omega) ?_
      refine ⟨?_, rfl⟩
      unfold lqI
      split <;> omega
    · skip
      refine V_iconst (pc := 12) dL_isLike_12 (by unfold I32; omega) ?_
      refine V_goto (pc := 13) dL_isLike_13 (tgt := 17) rfl ?_
      refine V_reti (pc := 17) dL_isLike_17 (show _ = (0 : Int) ∨ _ = (1 : Int) from by first | exact Or.inl rfl | exact Or.inr rfl | omega) ?_
      refine ⟨?_, rfl⟩
      unfold lqI
      split <;> omega

set_option maxHeartbeats 4000000 in
theorem w_value0 (n : Nat) (v : Nat → Nat → Int) (m : Mem) (o : Nat) (r : Int)   (T_o : mT m o = (25, n)) (hR : RwO m o n v) : Ct μL_value 0 [vr o, vi r, vi 0] m (ri fun x_ m' => (x_ = valR v n r 0) ∧ m = m') := by
  refine Ct_of_V rfl (by decide) rfl (Nat.le_of_ble_eq_true rfl) ?_
  show V μL_value 0 m _ 0 [(0, vr o), (1, vi r), (2, vi 0)] [] m
  refine V_rg (k := 1) (x := r) rfl fun r_r => ?_
  refine V_rg (k := 2) (x := 0) rfl fun r_0 => ?_
  have hn7_ := hR.2.1
  refine V_ld (pc := 0) dL_value_0 (v := vi r) rfl rfl ?_
  refine V_if_lt (pc := 1) dL_value_1 (tgt := 10) rfl (fun h1 => ?_) (fun h1 => ?_)
  · skip
    refine V_sipush (pc := 10) dL_value_10 (by unfold I32; omega) (by decide) ?_
    refine V_goto (pc := 13) dL_value_13 (tgt := 21) rfl ?_
    refine V_reti (pc := 21) dL_value_21 trivial ?_
    first | exact ⟨(valR_in (v := v) (n := n) (r := r) (c := 0) (by omega)).symm, rfl⟩ | exact ⟨(valR_out (by omega)).symm, rfl⟩
  · skip
    refine V_ld (pc := 4) dL_value_4 (v := vi r) rfl rfl ?_
    refine V_ld (pc := 5) dL_value_5 (v := vr o) rfl rfl ?_
    refine V_alenQ (pc := 6) dL_value_6 T_o (by decide) (by omega) ?_
    refine V_icmp_lt (pc := 7) dL_value_7 (tgt := 16) rfl (fun h7 => ?_) (fun h7 => ?_)
    · skip
      refine V_ld (pc := 16) dL_value_16 (v := vr o) rfl rfl ?_
      refine V_ld (pc := 17) dL_value_17 (v := vi r) rfl rfl ?_
      obtain ⟨q18, Rq18, Tq18, Vq18, Bq18⟩ := hR.row (r := r) (by omega)
      refine V_aaldQ (pc := 18) dL_value_18 (q := some q18) T_o (by decide) (by omega) Rq18 ?_
      refine V_ld (pc := 19) dL_value_19 (v := vi 0) rfl rfl ?_
      refine V_ialdv (pc := 20) dL_value_20 (v := v r.toNat 0) Tq18 (by omega) Vq18.1 (fun g20 => ?_)
      refine V_reti (pc := 21) dL_value_21 trivial ?_
      first | exact ⟨(valR_in (v := v) (n := n) (r := r) (c := 0) (by omega)).symm, rfl⟩ | exact ⟨(valR_out (by omega)).symm, rfl⟩
    · skip
      refine V_sipush (pc := 10) dL_value_10 (by unfold I32; omega) (by decide) ?_
      refine V_goto (pc := 13) dL_value_13 (tgt := 21) rfl ?_
      refine V_reti (pc := 21) dL_value_21 trivial ?_
      first | exact ⟨(valR_in (v := v) (n := n) (r := r) (c := 0) (by omega)).symm, rfl⟩ | exact ⟨(valR_out (by omega)).symm, rfl⟩

set_option maxHeartbeats 4000000 in
theorem w_value1 (n : Nat) (v : Nat → Nat → Int) (m : Mem) (o : Nat) (r : Int)   (T_o : mT m o = (25, n)) (hR : RwO m o n v) : Ct μL_value 0 [vr o, vi r, vi 1] m (ri fun x_ m' => (x_ = valR v n r 1) ∧ m = m') := by
  refine Ct_of_V rfl (by decide) rfl (Nat.le_of_ble_eq_true rfl) ?_
  show V μL_value 0 m _ 0 [(0, vr o), (1, vi r), (2, vi 1)] [] m
  refine V_rg (k := 1) (x := r) rfl fun r_r => ?_
  refine V_rg (k := 2) (x := 1) rfl fun r_1 => ?_
  have hn7_ := hR.2.1
  refine V_ld (pc := 0) dL_value_0 (v := vi r) rfl rfl ?_
  refine V_if_lt (pc := 1) dL_value_1 (tgt := 10) rfl (fun h1 => ?_) (fun h1 => ?_)
  · skip
    refine V_sipush (pc := 10) dL_value_10 (by unfold I32; omega) (by decide) ?_
    refine V_goto (pc := 13) dL_value_13 (tgt := 21) rfl ?_
    refine V_reti (pc := 21) dL_value_21 trivial ?_
    first | exact ⟨(valR_in (v := v) (n := n) (r := r) (c := 1) (by omega)).symm, rfl⟩ | exact ⟨(valR_out (by omega)).symm, rfl⟩
  · skip
    refine V_ld (pc := 4) dL_value_4 (v := vi r) rfl rfl ?_
    refine V_ld (pc := 5) dL_value_5 (v := vr o) rfl rfl ?_
    refine V_alenQ (pc := 6) dL_value_6 T_o (by decide) (by omega) ?_
    refine V_icmp_lt (pc := 7) dL_value_7 (tgt := 16) rfl (fun h7 => ?_) (fun h7 => ?_)
    · skip
      refine V_ld (pc := 16) dL_value_16 (v := vr o) rfl rfl ?_
      refine V_ld (pc := 17) dL_value_17 (v := vi r) rfl rfl ?_
      obtain ⟨q18, Rq18, Tq18, Vq18, Bq18⟩ := hR.row (r := r) (by omega)
      refine V_aaldQ (pc := 18) dL_value_18 (q := some q18) T_o (by decide) (by omega) Rq18 ?_
      refine V_ld (pc := 19) dL_value_19 (v := vi 1) rfl rfl ?_
      refine V_ialdv (pc := 20) dL_value_20 (v := v r.toNat 1) Tq18 (by omega) Vq18.2 (fun g20 => ?_)
      refine V_reti (pc := 21) dL_value_21 trivial ?_
      first | exact ⟨(valR_in (v := v) (n := n) (r := r) (c := 1) (by omega)).symm, rfl⟩ | exact ⟨(valR_out (by omega)).symm, rfl⟩
    · skip
      refine V_sipush (pc := 10) dL_value_10 (by unfold I32; omega) (by decide) ?_
      refine V_goto (pc := 13) dL_value_13 (tgt := 21) rfl ?_
      refine V_reti (pc := 21) dL_value_21 trivial ?_
      first | exact ⟨(valR_in (v := v) (n := n) (r := r) (c := 1) (by omega)).symm, rfl⟩ | exact ⟨(valR_out (by omega)).symm, rfl⟩

theorem smE_y {le : Nat → Int} {v : Nat → Nat → Int} {w c a : Int} {i : Nat} (ha : 0 ≤ a) (hc : c = 0 ∨ c = 1) (h1 : le (a + (i : Int)).toNat = w) (h2 : v (a + (i : Int)).toNat c.toNat ≠ 1000) : smE le (ceR v) w c (i + 1) a = smE le (ceR v) w c i a + v (a + (i : Int)).toNat c.toNat := by
  show smE le (ceR v) w c i a + (if le (a + (i : Int)).toNat = w ∧ ceR v (2 * (a + (i : Int)) + c).toNat ≠ 1000 then ceR v (2 * (a + (i : Int)) + c).toNat else 0) = _
  rw [ceR_v (by omega) hc, if_pos ⟨h1, h2⟩]
theorem smE_n {le : Nat → Int} {v : Nat → Nat → Int} {w c a : Int} {i : Nat} (ha : 0 ≤ a) (hc : c = 0 ∨ c = 1) (h : ¬ (le (a + (i : Int)).toNat = w ∧ v (a + (i : Int)).toNat c.toNat ≠ 1000)) : smE le (ceR v) w c (i + 1) a = smE le (ceR v) w c i a + 0 := by
  show smE le (ceR v) w c i a + (if le (a + (i : Int)).toNat = w ∧ ceR v (2 * (a + (i : Int)) + c).toNat ≠ 1000 then ceR v (2 * (a + (i : Int)) + c).toNat else 0) = _
  rw [ceR_v (by omega) hc, if_neg h]
theorem cnE_y {le : Nat → Int} {w a : Int} {i : Nat} (h : le (a + (i : Int)).toNat = w) : cnE le w (i + 1) a = cnE le w i a + 1 := by
  show cnE le w i a + (if le (a + (i : Int)).toNat = w then 1 else 0) = _
  rw [if_pos h]
theorem cnE_n {le : Nat → Int} {w a : Int} {i : Nat} (h : ¬ le (a + (i : Int)).toNat = w) : cnE le w (i + 1) a = cnE le w i a + 0 := by
  show cnE le w i a + (if le (a + (i : Int)).toNat = w then 1 else 0) = _
  rw [if_neg h]
theorem smE_bd {le ce : Nat → Int} {w c : Int} (h : ∀ k, -10 ≤ ce k ∧ ce k ≤ 1000) : ∀ (d : Nat) (a : Int), -10 * (d : Int) ≤ smE le ce w c d a ∧ smE le ce w c d a ≤ 1000 * (d : Int)
  | 0, a => ⟨by show -10 * ((0 : Nat) : Int) ≤ 0; omega, by show (0 : Int) ≤ 1000 * ((0 : Nat) : Int); omega⟩
  | d + 1, a => by
    have i := smE_bd (le := le) (w := w) (c := c) h d a
    have e : smE le ce w c (d + 1) a = smE le ce w c d a + (if le (a + d).toNat = w ∧ ce (2 * (a + d) + c).toNat ≠ 1000 then ce (2 * (a + d) + c).toNat else 0) := rfl
    have hk := h (2 * (a + d) + c).toNat
    rw [e]
    split <;> omega
theorem frE_bd {le : Nat → Int} {w : Int} : ∀ (d : Nat) (k : Int), frE le w d k = -1 ∨ k ≤ frE le w d k ∧ frE le w d k < k + (d : Int)
  | 0, k => Or.inl rfl
  | d + 1, k => by
    have i := frE_bd (le := le) (w := w) d (k + 1)
    have e : frE le w (d + 1) k = if le k.toNat = w then k else frE le w d (k + 1) := rfl
    rw [e]
    split <;> omega
theorem lsE_bd {le : Nat → Int} {w : Int} : ∀ (d : Nat) (k : Int), lsE le w d k = -1 ∨ k ≤ lsE le w d k ∧ lsE le w d k < k + (d : Int)
  | 0, k => Or.inl rfl
  | d + 1, k => by
    have i := lsE_bd (le := le) (w := w) d k
    have e : lsE le w (d + 1) k = if le (k + d).toNat = w then k + d else lsE le w d k := rfl
    rw [e]
    split <;> omega
theorem cnE_bd {le : Nat → Int} {w : Int} : ∀ (d : Nat) (a : Int), 0 ≤ cnE le w d a ∧ cnE le w d a ≤ (d : Int)
  | 0, a => ⟨Int.le_refl _, Int.le_refl _⟩
  | d + 1, a => by
    have i := cnE_bd (le := le) (w := w) d a
    have e : cnE le w (d + 1) a = cnE le w d a + (if le (a + d).toNat = w then 1 else 0) := rfl
    rw [e]
    split <;> omega
set_option maxHeartbeats 4000000 in
theorem L_sumN {F : Nat} {m0 m : Mem} {post : Option AV → Mem → Prop} {o L n a N : Nat} {w r : Int} {v : Nat → Nat → Int} (hR : RwO m o n v) (T_L : mT m L = (20, 40)) (hr : r + 1 = (a : Int) + (N : Int)) (hn : r < (n : Int)) (hv : ∀ k, -10 ≤ ceR v k ∧ ceR v k ≤ 1000) (kx : V μL_summed F m0 post 64 [(7, vi ((a : Int) + ((N : Nat) : Int))), (6, vi (cnE (fun k_ : Nat => mI m L k_) w N (a : Int))), (0, vr o), (1, vr L), (2, vi (a : Int)), (3, vi r), (4, vi w), (5, vi (-1))] [] m) : ∀ (dd i : Nat), dd + i = N → V μL_summed F m0 post 6 [(7, vi ((a : Int) + ((i : Nat) : Int))), (6, vi (cnE (fun k_ : Nat => mI m L k_) w i (a : Int))), (0, vr o), (1, vr L), (2, vi (a : Int)), (3, vi r), (4, vi w), (5, vi (-1))] [] m := by
  intro dd
  induction dd with
  | zero =>
    intro i hi
    obtain rfl : N = i := by omega
    have hn7_ := hR.2.1
    have hbd_ := cnE_bd (le := (fun k_ : Nat => mI m L k_)) (w := w) N (a : Int)
    refine V_ld (pc := 6) dL_summed_6 (v := vi ((a : Int) + ((N : Nat) : Int))) rfl rfl ?_
    refine V_ld (pc := 8) dL_summed_8 (v := vi r) rfl rfl ?_
    refine V_icmp_gt (pc := 9) dL_summed_9 (tgt := 64) rfl (fun h9 => ?_) (fun h9 => ?_)
    · skip
      first | exact kx | (skip; exact kx) | (exfalso; omega)
    · skip
      refine V_ld (pc := 12) dL_summed_12 (v := vi (-1)) rfl rfl ?_
      refine V_if_ge (pc := 14) dL_summed_14 (tgt := 21) rfl (fun h_ => absurd h_ (by decide)) (fun _ => ?_)
      refine V_iconst (pc := 17) dL_summed_17 (by unfold I32; omega) ?_
      refine V_goto (pc := 18) dL_summed_18 (tgt := 28) rfl ?_
      refine V_st (pc := 28) dL_summed_28 (ls' := [(8, vi 1), (7, vi ((a : Int) + ((N : Nat) : Int))), (6, vi (cnE (fun k_ : Nat => mI m L k_) w N (a : Int))), (0, vr o), (1, vr L), (2, vi (a : Int)), (3, vi r), (4, vi w), (5, vi (-1))]) rfl (Nat.le_of_ble_eq_true rfl) rfl ?_
      refine V_ld (pc := 30) dL_summed_30 (v := vi (cnE (fun k_ : Nat => mI m L k_) w N (a : Int))) rfl rfl ?_
      refine V_ld (pc := 32) dL_summed_32 (v := vr L) rfl rfl ?_
      refine V_ld (pc := 33) dL_summed_33 (v := vi ((a : Int) + ((N : Nat) : Int))) rfl rfl ?_
      refine V_ialdv (pc := 35) dL_summed_35 (v := mI m L (((a : Int) + ((N : Nat) : Int)).toNat)) T_L (by omega) rfl (fun g35 => ?_)
      refine V_ld (pc := 36) dL_summed_36 (v := vi w) rfl rfl ?_
      refine V_icmp_ne (pc := 38) dL_summed_38 (tgt := 54) rfl (fun h38 => ?_) (fun h38 => ?_)
      · skip
        refine V_iconst (pc := 54) dL_summed_54 (by unfold I32; omega) ?_
        refine V_iadd (pc := 55) dL_summed_55 (by unfold I32 at *; omega) ?_
        refine V_st (pc := 56) dL_summed_56 (ls' := [(6, vi ((cnE (fun k_ : Nat => mI m L k_) w N (a : Int)) + 0)), (8, vi 1), (7, vi ((a : Int) + ((N : Nat) : Int))), (0, vr o), (1, vr L), (2, vi (a : Int)), (3, vi r), (4, vi w), (5, vi (-1))]) rfl (Nat.le_of_ble_eq_true rfl) rfl ?_
        refine V_iinc (pc := 58) dL_summed_58 (x := ((a : Int) + ((N : Nat) : Int))) (ls' := [(7, vi (((a : Int) + ((N : Nat) : Int)) + 1)), (6, vi ((cnE (fun k_ : Nat => mI m L k_) w N (a : Int)) + 0)), (8, vi 1), (0, vr o), (1, vr L), (2, vi (a : Int)), (3, vi r), (4, vi w), (5, vi (-1))]) rfl (by unfold I32 at *; omega) (Nat.le_of_ble_eq_true rfl) rfl ?_
        refine V_goto (pc := 61) dL_summed_61 (tgt := 6) rfl ?_
        exfalso; omega
      · skip
        refine V_ld (pc := 41) dL_summed_41 (v := vi 1) rfl rfl ?_
        refine V_sipush (pc := 43) dL_summed_43 (by unfold I32; omega) (by decide) ?_
        refine V_icmp_ge (pc := 46) dL_summed_46 (tgt := 54) rfl (fun h_ => absurd h_ (by decide)) (fun _ => ?_)
        refine V_ld (pc := 49) dL_summed_49 (v := vi 1) rfl rfl ?_
        refine V_goto (pc := 51) dL_summed_51 (tgt := 55) rfl ?_
        refine V_iadd (pc := 55) dL_summed_55 (by unfold I32 at *; omega) ?_
        refine V_st (pc := 56) dL_summed_56 (ls' := [(6, vi ((cnE (fun k_ : Nat => mI m L k_) w N (a : Int)) + 1)), (8, vi 1), (7, vi ((a : Int) + ((N : Nat) : Int))), (0, vr o), (1, vr L), (2, vi (a : Int)), (3, vi r), (4, vi w), (5, vi (-1))]) rfl (Nat.le_of_ble_eq_true rfl) rfl ?_
        refine V_iinc (pc := 58) dL_summed_58 (x := ((a : Int) + ((N : Nat) : Int))) (ls' := [(7, vi (((a : Int) + ((N : Nat) : Int)) + 1)), (6, vi ((cnE (fun k_ : Nat => mI m L k_) w N (a : Int)) + 1)), (8, vi 1), (0, vr o), (1, vr L), (2, vi (a : Int)), (3, vi r), (4, vi w), (5, vi (-1))]) rfl (by unfold I32 at *; omega) (Nat.le_of_ble_eq_true rfl) rfl ?_
        refine V_goto (pc := 61) dL_summed_61 (tgt := 6) rfl ?_
        exfalso; omega
  | succ dd ih =>
    intro i hi
    have hn7_ := hR.2.1
    have hbd_ := cnE_bd (le := (fun k_ : Nat => mI m L k_)) (w := w) i (a : Int)
    refine V_ld (pc := 6) dL_summed_6 (v := vi ((a : Int) + ((i : Nat) : Int))) rfl rfl ?_
    refine V_ld (pc := 8) dL_summed_8 (v := vi r) rfl rfl ?_
    refine V_icmp_gt (pc := 9) dL_summed_9 (tgt := 64) rfl (fun h9 => ?_) (fun h9 => ?_)
    · skip
      exfalso; omega
    · skip
      refine V_ld (pc := 12) dL_summed_12 (v := vi (-1)) rfl rfl ?_
      refine V_if_ge (pc := 14) dL_summed_14 (tgt := 21) rfl (fun h_ => absurd h_ (by decide)) (fun _ => ?_)
      refine V_iconst (pc := 17) dL_summed_17 (by unfold I32; omega) ?_
      refine V_goto (pc := 18) dL_summed_18 (tgt := 28) rfl ?_
      refine V_st (pc := 28) dL_summed_28 (ls' := [(8, vi 1), (7, vi ((a : Int) + ((i : Nat) : Int))), (6, vi (cnE (fun k_ : Nat => mI m L k_) w i (a : Int))), (0, vr o), (1, vr L), (2, vi (a : Int)), (3, vi r), (4, vi w), (5, vi (-1))]) rfl (Nat.le_of_ble_eq_true rfl) rfl ?_
      refine V_ld (pc := 30) dL_summed_30 (v := vi (cnE (fun k_ : Nat => mI m L k_) w i (a : Int))) rfl rfl ?_
      refine V_ld (pc := 32) dL_summed_32 (v := vr L) rfl rfl ?_
      refine V_ld (pc := 33) dL_summed_33 (v := vi ((a : Int) + ((i : Nat) : Int))) rfl rfl ?_
      refine V_ialdv (pc := 35) dL_summed_35 (v := mI m L (((a : Int) + ((i : Nat) : Int)).toNat)) T_L (by omega) rfl (fun g35 => ?_)
      refine V_ld (pc := 36) dL_summed_36 (v := vi w) rfl rfl ?_
      refine V_icmp_ne (pc := 38) dL_summed_38 (tgt := 54) rfl (fun h38 => ?_) (fun h38 => ?_)
      · skip
        refine V_iconst (pc := 54) dL_summed_54 (by unfold I32; omega) ?_
        refine V_iadd (pc := 55) dL_summed_55 (by unfold I32 at *; omega) ?_
        refine V_st (pc := 56) dL_summed_56 (ls' := [(6, vi ((cnE (fun k_ : Nat => mI m L k_) w i (a : Int)) + 0)), (8, vi 1), (7, vi ((a : Int) + ((i : Nat) : Int))), (0, vr o), (1, vr L), (2, vi (a : Int)), (3, vi r), (4, vi w), (5, vi (-1))]) rfl (Nat.le_of_ble_eq_true rfl) rfl ?_
        refine V_iinc (pc := 58) dL_summed_58 (x := ((a : Int) + ((i : Nat) : Int))) (ls' := [(7, vi (((a : Int) + ((i : Nat) : Int)) + 1)), (6, vi ((cnE (fun k_ : Nat => mI m L k_) w i (a : Int)) + 0)), (8, vi 1), (0, vr o), (1, vr L), (2, vi (a : Int)), (3, vi r), (4, vi w), (5, vi (-1))]) rfl (by unfold I32 at *; omega) (Nat.le_of_ble_eq_true rfl) rfl ?_
        refine V_goto (pc := 61) dL_summed_61 (tgt := 6) rfl ?_
        refine V_ls (ls' := [(7, vi (((a : Int) + ((i : Nat) : Int)) + 1)), (6, vi ((cnE (fun k_ : Nat => mI m L k_) w i (a : Int)) + 0)), (0, vr o), (1, vr L), (2, vi (a : Int)), (3, vi r), (4, vi w), (5, vi (-1))]) (by intro q_ h_; simp only [List.mem_cons, List.not_mem_nil, or_false] at h_ ⊢; rcases h_ with rfl | rfl | rfl | rfl | rfl | rfl | rfl | rfl <;> simp) ?_
        have h_ := ih (i + 1) (by omega)
        have e1_ : (a : Int) + ((i + 1 : Nat) : Int) = (a : Int) + (i : Int) + 1 := by omega
        have e2_ : cnE (fun k_ : Nat => mI m L k_) w (i + 1) (a : Int) = (cnE (fun k_ : Nat => mI m L k_) w i (a : Int)) + 0 := cnE_n (by omega)
        rw [e1_, e2_] at h_
        exact h_
      · skip
        refine V_ld (pc := 41) dL_summed_41 (v := vi 1) rfl rfl ?_
        refine V_sipush (pc := 43) dL_summed_43 (by unfold I32; omega) (by decide) ?_
        refine V_icmp_ge (pc := 46) dL_summed_46 (tgt := 54) rfl (fun h_ => absurd h_ (by decide)) (fun _ => ?_)
        refine V_ld (pc := 49) dL_summed_49 (v := vi 1) rfl rfl ?_
        refine V_goto (pc := 51) dL_summed_51 (tgt := 55) rfl ?_
        refine V_iadd (pc := 55) dL_summed_55 (by unfold I32 at *; omega) ?_
        refine V_st (pc := 56) dL_summed_56 (ls' := [(6, vi ((cnE (fun k_ : Nat => mI m L k_) w i (a : Int)) + 1)), (8, vi 1), (7, vi ((a : Int) + ((i : Nat) : Int))), (0, vr o), (1, vr L), (2, vi (a : Int)), (3, vi r), (4, vi w), (5, vi (-1))]) rfl (Nat.le_of_ble_eq_true rfl) rfl ?_
        refine V_iinc (pc := 58) dL_summed_58 (x := ((a : Int) + ((i : Nat) : Int))) (ls' := [(7, vi (((a : Int) + ((i : Nat) : Int)) + 1)), (6, vi ((cnE (fun k_ : Nat => mI m L k_) w i (a : Int)) + 1)), (8, vi 1), (0, vr o), (1, vr L), (2, vi (a : Int)), (3, vi r), (4, vi w), (5, vi (-1))]) rfl (by unfold I32 at *; omega) (Nat.le_of_ble_eq_true rfl) rfl ?_
        refine V_goto (pc := 61) dL_summed_61 (tgt := 6) rfl ?_
        refine V_ls (ls' := [(7, vi (((a : Int) + ((i : Nat) : Int)) + 1)), (6, vi ((cnE (fun k_ : Nat => mI m L k_) w i (a : Int)) + 1)), (0, vr o), (1, vr L), (2, vi (a : Int)), (3, vi r), (4, vi w), (5, vi (-1))]) (by intro q_ h_; simp only [List.mem_cons, List.not_mem_nil, or_false] at h_ ⊢; rcases h_ with rfl | rfl | rfl | rfl | rfl | rfl | rfl | rfl <;> simp) ?_
        have h_ := ih (i + 1) (by omega)
        have e1_ : (a : Int) + ((i + 1 : Nat) : Int) = (a : Int) + (i : Int) + 1 := by omega
        have e2_ : cnE (fun k_ : Nat => mI m L k_) w (i + 1) (a : Int) = (cnE (fun k_ : Nat => mI m L k_) w i (a : Int)) + 1 := cnE_y (by omega)
        rw [e1_, e2_] at h_
        exact h_

set_option maxHeartbeats 4000000 in
theorem w_sumN (n : Nat) (v : Nat → Nat → Int) (a : Nat) (N : Nat) (m : Mem) (o : Nat) (L : Nat) (r : Int) (w : Int)   (hR : RwO m o n v) (T_L : mT m L = (20, 40)) (hr : r + 1 = (a : Int) + (N : Int)) (hn : r < (n : Int)) (hv : ∀ k, -10 ≤ ceR v k ∧ ceR v k ≤ 1000) : Ct μL_summed 0 [vr o, vr L, vi ((a : Nat) : Int), vi r, vi w, vi (-1)] m (ri fun x_ m' => (x_ = cnE (fun k_ : Nat => mI m L k_) w N (a : Int)) ∧ m = m') := by
  refine Ct_of_V rfl (by decide) rfl (Nat.le_of_ble_eq_true rfl) ?_
  show V μL_summed 0 m _ 0 [(0, vr o), (1, vr L), (2, vi ((a : Nat) : Int)), (3, vi r), (4, vi w), (5, vi (-1))] [] m
  refine V_iconst (pc := 0) dL_summed_0 (by unfold I32; omega) ?_
  refine V_st (pc := 1) dL_summed_1 (ls' := [(6, vi 0), (0, vr o), (1, vr L), (2, vi ((a : Nat) : Int)), (3, vi r), (4, vi w), (5, vi (-1))]) rfl (Nat.le_of_ble_eq_true rfl) rfl ?_
  refine V_ld (pc := 3) dL_summed_3 (v := vi ((a : Nat) : Int)) rfl rfl ?_
  refine V_st (pc := 4) dL_summed_4 (ls' := [(7, vi ((a : Nat) : Int)), (6, vi 0), (0, vr o), (1, vr L), (2, vi ((a : Nat) : Int)), (3, vi r), (4, vi w), (5, vi (-1))]) rfl (Nat.le_of_ble_eq_true rfl) rfl ?_
  skip
  refine V_ls (ls' := [(7, vi ((a : Int) + ((0 : Nat) : Int))), (6, vi (cnE (fun k_ : Nat => mI m L k_) w 0 (a : Int))), (0, vr o), (1, vr L), (2, vi (a : Int)), (3, vi r), (4, vi w), (5, vi (-1))]) (by intro q_ h_; rw [show (a : Int) + ((0 : Nat) : Int) = (a : Int) by omega] at h_; exact h_) ?_
  refine L_sumN (F := 0) (m := m) hR T_L hr hn hv ?_ N 0 (by omega)
  refine V_ld (pc := 64) dL_summed_64 (v := vi (cnE (fun k_ : Nat => mI m L k_) w N (a : Int))) rfl rfl ?_
  refine V_reti (pc := 66) dL_summed_66 trivial ?_
  exact ⟨rfl, rfl⟩

set_option maxHeartbeats 4000000 in
theorem L_sum0 {F : Nat} {m0 m : Mem} {post : Option AV → Mem → Prop} {o L n a N : Nat} {w r : Int} {v : Nat → Nat → Int} (hR : RwO m o n v) (T_L : mT m L = (20, 40)) (hr : r + 1 = (a : Int) + (N : Int)) (hn : r < (n : Int)) (hv : ∀ k, -10 ≤ ceR v k ∧ ceR v k ≤ 1000) (kx : V μL_summed F m0 post 64 [(7, vi ((a : Int) + ((N : Nat) : Int))), (6, vi (smE (fun k_ : Nat => mI m L k_) (ceR v) w 0 N (a : Int))), (0, vr o), (1, vr L), (2, vi (a : Int)), (3, vi r), (4, vi w), (5, vi 0)] [] m) : ∀ (dd i : Nat), dd + i = N → V μL_summed F m0 post 6 [(7, vi ((a : Int) + ((i : Nat) : Int))), (6, vi (smE (fun k_ : Nat => mI m L k_) (ceR v) w 0 i (a : Int))), (0, vr o), (1, vr L), (2, vi (a : Int)), (3, vi r), (4, vi w), (5, vi 0)] [] m := by
  intro dd
  induction dd with
  | zero =>
    intro i hi
    obtain rfl : N = i := by omega
    have hn7_ := hR.2.1
    have hbd_ := smE_bd (le := (fun k_ : Nat => mI m L k_)) (ce := ceR v) (w := w) (c := 0) hv N (a : Int)
    refine V_ld (pc := 6) dL_summed_6 (v := vi ((a : Int) + ((N : Nat) : Int))) rfl rfl ?_
    refine V_ld (pc := 8) dL_summed_8 (v := vi r) rfl rfl ?_
    refine V_icmp_gt (pc := 9) dL_summed_9 (tgt := 64) rfl (fun h9 => ?_) (fun h9 => ?_)
    · skip
      first | exact kx | (skip; exact kx) | (exfalso; omega)
    · skip
      refine V_ld (pc := 12) dL_summed_12 (v := vi 0) rfl rfl ?_
      refine V_if_ge (pc := 14) dL_summed_14 (tgt := 21) rfl (fun _ => ?_) (fun h_ => absurd h_ (by decide))
      refine V_ld (pc := 21) dL_summed_21 (v := vr o) rfl rfl ?_
      refine V_ld (pc := 22) dL_summed_22 (v := vi ((a : Int) + ((N : Nat) : Int))) rfl rfl ?_
      obtain ⟨q24, Rq24, Tq24, Vq24, Bq24⟩ := hR.row (r := ((a : Int) + ((N : Nat) : Int))) (by omega)
      refine V_aaldQ (pc := 24) dL_summed_24 (q := some q24) hR.1 (by decide) (by omega) Rq24 ?_
      refine V_ld (pc := 25) dL_summed_25 (v := vi 0) rfl rfl ?_
      refine V_ialdv (pc := 27) dL_summed_27 (v := v ((a : Int) + ((N : Nat) : Int)).toNat 0) Tq24 (by omega) Vq24.1 (fun g27 => ?_)
      refine V_st (pc := 28) dL_summed_28 (ls' := [(8, vi (v ((a : Int) + ((N : Nat) : Int)).toNat 0)), (7, vi ((a : Int) + ((N : Nat) : Int))), (6, vi (smE (fun k_ : Nat => mI m L k_) (ceR v) w 0 N (a : Int))), (0, vr o), (1, vr L), (2, vi (a : Int)), (3, vi r), (4, vi w), (5, vi 0)]) rfl (Nat.le_of_ble_eq_true rfl) rfl ?_
      refine V_ld (pc := 30) dL_summed_30 (v := vi (smE (fun k_ : Nat => mI m L k_) (ceR v) w 0 N (a : Int))) rfl rfl ?_
      refine V_ld (pc := 32) dL_summed_32 (v := vr L) rfl rfl ?_
      refine V_ld (pc := 33) dL_summed_33 (v := vi ((a : Int) + ((N : Nat) : Int))) rfl rfl ?_
      refine V_ialdv (pc := 35) dL_summed_35 (v := mI m L (((a : Int) + ((N : Nat) : Int)).toNat)) T_L (by omega) rfl (fun g35 => ?_)
      refine V_ld (pc := 36) dL_summed_36 (v := vi w) rfl rfl ?_
      refine V_icmp_ne (pc := 38) dL_summed_38 (tgt := 54) rfl (fun h38 => ?_) (fun h38 => ?_)
      · skip
        refine V_iconst (pc := 54) dL_summed_54 (by unfold I32; omega) ?_
        refine V_iadd (pc := 55) dL_summed_55 (by unfold I32 at *; omega) ?_
        refine V_st (pc := 56) dL_summed_56 (ls' := [(6, vi ((smE (fun k_ : Nat => mI m L k_) (ceR v) w 0 N (a : Int)) + 0)), (8, vi (v ((a : Int) + ((N : Nat) : Int)).toNat 0)), (7, vi ((a : Int) + ((N : Nat) : Int))), (0, vr o), (1, vr L), (2, vi (a : Int)), (3, vi r), (4, vi w), (5, vi 0)]) rfl (Nat.le_of_ble_eq_true rfl) rfl ?_
        refine V_iinc (pc := 58) dL_summed_58 (x := ((a : Int) + ((N : Nat) : Int))) (ls' := [(7, vi (((a : Int) + ((N : Nat) : Int)) + 1)), (6, vi ((smE (fun k_ : Nat => mI m L k_) (ceR v) w 0 N (a : Int)) + 0)), (8, vi (v ((a : Int) + ((N : Nat) : Int)).toNat 0)), (0, vr o), (1, vr L), (2, vi (a : Int)), (3, vi r), (4, vi w), (5, vi 0)]) rfl (by unfold I32 at *; omega) (Nat.le_of_ble_eq_true rfl) rfl ?_
        refine V_goto (pc := 61) dL_summed_61 (tgt := 6) rfl ?_
        exfalso; omega
      · skip
        refine V_ld (pc := 41) dL_summed_41 (v := vi (v ((a : Int) + ((N : Nat) : Int)).toNat 0)) rfl rfl ?_
        refine V_sipush (pc := 43) dL_summed_43 (by unfold I32; omega) (by decide) ?_
        refine V_icmp_ge (pc := 46) dL_summed_46 (tgt := 54) rfl (fun h46 => ?_) (fun h46 => ?_)
        · skip
          refine V_iconst (pc := 54) dL_summed_54 (by unfold I32; omega) ?_
          refine V_iadd (pc := 55) dL_summed_55 (by unfold I32 at *; omega) ?_
          refine V_st (pc := 56) dL_summed_56 (ls' := [(6, vi ((smE (fun k_ : Nat => mI m L k_) (ceR v) w 0 N (a : Int)) + 0)), (8, vi (v ((a : Int) + ((N : Nat) : Int)).toNat 0)), (7, vi ((a : Int) + ((N : Nat) : Int))), (0, vr o), (1, vr L), (2, vi (a : Int)), (3, vi r), (4, vi w), (5, vi 0)]) rfl (Nat.le_of_ble_eq_true rfl) rfl ?_
          refine V_iinc (pc := 58) dL_summed_58 (x := ((a : Int) + ((N : Nat) : Int))) (ls' := [(7, vi (((a : Int) + ((N : Nat) : Int)) + 1)), (6, vi ((smE (fun k_ : Nat => mI m L k_) (ceR v) w 0 N (a : Int)) + 0)), (8, vi (v ((a : Int) + ((N : Nat) : Int)).toNat 0)), (0, vr o), (1, vr L), (2, vi (a : Int)), (3, vi r), (4, vi w), (5, vi 0)]) rfl (by unfold I32 at *; omega) (Nat.le_of_ble_eq_true rfl) rfl ?_
          refine V_goto (pc := 61) dL_summed_61 (tgt := 6) rfl ?_
          exfalso; omega
        · skip
          refine V_ld (pc := 49) dL_summed_49 (v := vi (v ((a : Int) + ((N : Nat) : Int)).toNat 0)) rfl rfl ?_
          refine V_goto (pc := 51) dL_summed_51 (tgt := 55) rfl ?_
          refine V_iadd (pc := 55) dL_summed_55 (by unfold I32 at *; omega) ?_
          refine V_st (pc := 56) dL_summed_56 (ls' := [(6, vi ((smE (fun k_ : Nat => mI m L k_) (ceR v) w 0 N (a : Int)) + (v ((a : Int) + ((N : Nat) : Int)).toNat 0))), (8, vi (v ((a : Int) + ((N : Nat) : Int)).toNat 0)), (7, vi ((a : Int) + ((N : Nat) : Int))), (0, vr o), (1, vr L), (2, vi (a : Int)), (3, vi r), (4, vi w), (5, vi 0)]) rfl (Nat.le_of_ble_eq_true rfl) rfl ?_
          refine V_iinc (pc := 58) dL_summed_58 (x := ((a : Int) + ((N : Nat) : Int))) (ls' := [(7, vi (((a : Int) + ((N : Nat) : Int)) + 1)), (6, vi ((smE (fun k_ : Nat => mI m L k_) (ceR v) w 0 N (a : Int)) + (v ((a : Int) + ((N : Nat) : Int)).toNat 0))), (8, vi (v ((a : Int) + ((N : Nat) : Int)).toNat 0)), (0, vr o), (1, vr L), (2, vi (a : Int)), (3, vi r), (4, vi w), (5, vi 0)]) rfl (by unfold I32 at *; omega) (Nat.le_of_ble_eq_true rfl) rfl ?_
          refine V_goto (pc := 61) dL_summed_61 (tgt := 6) rfl ?_
          exfalso; omega
  | succ dd ih =>
    intro i hi
    have hn7_ := hR.2.1
    have hbd_ := smE_bd (le := (fun k_ : Nat => mI m L k_)) (ce := ceR v) (w := w) (c := 0) hv i (a : Int)
    refine V_ld (pc := 6) dL_summed_6 (v := vi ((a : Int) + ((i : Nat) : Int))) rfl rfl ?_
    refine V_ld (pc := 8) dL_summed_8 (v := vi r) rfl rfl ?_
    refine V_icmp_gt (pc := 9) dL_summed_9 (tgt := 64) rfl (fun h9 => ?_) (fun h9 => ?_)
    · skip
      exfalso; omega
    · skip
      refine V_ld (pc := 12) dL_summed_12 (v := vi 0) rfl rfl ?_
      refine V_if_ge (pc := 14) dL_summed_14 (tgt := 21) rfl (fun _ => ?_) (fun h_ => absurd h_ (by decide))
      refine V_ld (pc := 21) dL_summed_21 (v := vr o) rfl rfl ?_
      refine V_ld (pc := 22) dL_summed_22 (v := vi ((a : Int) + ((i : Nat) : Int))) rfl rfl ?_
      obtain ⟨q24, Rq24, Tq24, Vq24, Bq24⟩ := hR.row (r := ((a : Int) + ((i : Nat) : Int))) (by omega)
      refine V_aaldQ (pc := 24) dL_summed_24 (q := some q24) hR.1 (by decide) (by omega) Rq24 ?_
      refine V_ld (pc := 25) dL_summed_25 (v := vi 0) rfl rfl ?_
      refine V_ialdv (pc := 27) dL_summed_27 (v := v ((a : Int) + ((i : Nat) : Int)).toNat 0) Tq24 (by omega) Vq24.1 (fun g27 => ?_)
      refine V_st (pc := 28) dL_summed_28 (ls' := [(8, vi (v ((a : Int) + ((i : Nat) : Int)).toNat 0)), (7, vi ((a : Int) + ((i : Nat) : Int))), (6, vi (smE (fun k_ : Nat => mI m L k_) (ceR v) w 0 i (a : Int))), (0, vr o), (1, vr L), (2, vi (a : Int)), (3, vi r), (4, vi w), (5, vi 0)]) rfl (Nat.le_of_ble_eq_true rfl) rfl ?_
      refine V_ld (pc := 30) dL_summed_30 (v := vi (smE (fun k_ : Nat => mI m L k_) (ceR v) w 0 i (a : Int))) rfl rfl ?_
      refine V_ld (pc := 32) dL_summed_32 (v := vr L) rfl rfl ?_
      refine V_ld (pc := 33) dL_summed_33 (v := vi ((a : Int) + ((i : Nat) : Int))) rfl rfl ?_
      refine V_ialdv (pc := 35) dL_summed_35 (v := mI m L (((a : Int) + ((i : Nat) : Int)).toNat)) T_L (by omega) rfl (fun g35 => ?_)
      refine V_ld (pc := 36) dL_summed_36 (v := vi w) rfl rfl ?_
      refine V_icmp_ne (pc := 38) dL_summed_38 (tgt := 54) rfl (fun h38 => ?_) (fun h38 => ?_)
      · skip
        refine V_iconst (pc := 54) dL_summed_54 (by unfold I32; omega) ?_
        refine V_iadd (pc := 55) dL_summed_55 (by unfold I32 at *; omega) ?_
        refine V_st (pc := 56) dL_summed_56 (ls' := [(6, vi ((smE (fun k_ : Nat => mI m L k_) (ceR v) w 0 i (a : Int)) + 0)), (8, vi (v ((a : Int) + ((i : Nat) : Int)).toNat 0)), (7, vi ((a : Int) + ((i : Nat) : Int))), (0, vr o), (1, vr L), (2, vi (a : Int)), (3, vi r), (4, vi w), (5, vi 0)]) rfl (Nat.le_of_ble_eq_true rfl) rfl ?_
        refine V_iinc (pc := 58) dL_summed_58 (x := ((a : Int) + ((i : Nat) : Int))) (ls' := [(7, vi (((a : Int) + ((i : Nat) : Int)) + 1)), (6, vi ((smE (fun k_ : Nat => mI m L k_) (ceR v) w 0 i (a : Int)) + 0)), (8, vi (v ((a : Int) + ((i : Nat) : Int)).toNat 0)), (0, vr o), (1, vr L), (2, vi (a : Int)), (3, vi r), (4, vi w), (5, vi 0)]) rfl (by unfold I32 at *; omega) (Nat.le_of_ble_eq_true rfl) rfl ?_
        refine V_goto (pc := 61) dL_summed_61 (tgt := 6) rfl ?_
        refine V_ls (ls' := [(7, vi (((a : Int) + ((i : Nat) : Int)) + 1)), (6, vi ((smE (fun k_ : Nat => mI m L k_) (ceR v) w 0 i (a : Int)) + 0)), (0, vr o), (1, vr L), (2, vi (a : Int)), (3, vi r), (4, vi w), (5, vi 0)]) (by intro q_ h_; simp only [List.mem_cons, List.not_mem_nil, or_false] at h_ ⊢; rcases h_ with rfl | rfl | rfl | rfl | rfl | rfl | rfl | rfl <;> simp) ?_
        have h_ := ih (i + 1) (by omega)
        have e1_ : (a : Int) + ((i + 1 : Nat) : Int) = (a : Int) + (i : Int) + 1 := by omega
        have e2_ : smE (fun k_ : Nat => mI m L k_) (ceR v) w 0 (i + 1) (a : Int) = (smE (fun k_ : Nat => mI m L k_) (ceR v) w 0 i (a : Int)) + 0 := smE_n (by omega) (by decide) (fun z_ => by have z1_ := z_.1; have z2_ : v _ 0 ≠ 1000 := z_.2; omega)
        rw [e1_, e2_] at h_
        exact h_
      · skip
        refine V_ld (pc := 41) dL_summed_41 (v := vi (v ((a : Int) + ((i : Nat) : Int)).toNat 0)) rfl rfl ?_
        refine V_sipush (pc := 43) dL_summed_43 (by unfold I32; omega) (by decide) ?_
        refine V_icmp_ge (pc := 46) dL_summed_46 (tgt := 54) rfl (fun h46 => ?_) (fun h46 => ?_)
        · skip
          refine V_iconst (pc := 54) dL_summed_54 (by unfold I32; omega) ?_
          refine V_iadd (pc := 55) dL_summed_55 (by unfold I32 at *; omega) ?_
          refine V_st (pc := 56) dL_summed_56 (ls' := [(6, vi ((smE (fun k_ : Nat => mI m L k_) (ceR v) w 0 i (a : Int)) + 0)), (8, vi (v ((a : Int) + ((i : Nat) : Int)).toNat 0)), (7, vi ((a : Int) + ((i : Nat) : Int))), (0, vr o), (1, vr L), (2, vi (a : Int)), (3, vi r), (4, vi w), (5, vi 0)]) rfl (Nat.le_of_ble_eq_true rfl) rfl ?_
          refine V_iinc (pc := 58) dL_summed_58 (x := ((a : Int) + ((i : Nat) : Int))) (ls' := [(7, vi (((a : Int) + ((i : Nat) : Int)) + 1)), (6, vi ((smE (fun k_ : Nat => mI m L k_) (ceR v) w 0 i (a : Int)) + 0)), (8, vi (v ((a : Int) + ((i : Nat) : Int)).toNat 0)), (0, vr o), (1, vr L), (2, vi (a : Int)), (3, vi r), (4, vi w), (5, vi 0)]) rfl (by unfold I32 at *; omega) (Nat.le_of_ble_eq_true rfl) rfl ?_
          refine V_goto (pc := 61) dL_summed_61 (tgt := 6) rfl ?_
          refine V_ls (ls' := [(7, vi (((a : Int) + ((i : Nat) : Int)) + 1)), (6, vi ((smE (fun k_ : Nat => mI m L k_) (ceR v) w 0 i (a : Int)) + 0)), (0, vr o), (1, vr L), (2, vi (a : Int)), (3, vi r), (4, vi w), (5, vi 0)]) (by intro q_ h_; simp only [List.mem_cons, List.not_mem_nil, or_false] at h_ ⊢; rcases h_ with rfl | rfl | rfl | rfl | rfl | rfl | rfl | rfl <;> simp) ?_
          have h_ := ih (i + 1) (by omega)
          have e1_ : (a : Int) + ((i + 1 : Nat) : Int) = (a : Int) + (i : Int) + 1 := by omega
          have e2_ : smE (fun k_ : Nat => mI m L k_) (ceR v) w 0 (i + 1) (a : Int) = (smE (fun k_ : Nat => mI m L k_) (ceR v) w 0 i (a : Int)) + 0 := smE_n (by omega) (by decide) (fun z_ => by have z1_ := z_.1; have z2_ : v _ 0 ≠ 1000 := z_.2; omega)
          rw [e1_, e2_] at h_
          exact h_
        · skip
          refine V_ld (pc := 49) dL_summed_49 (v := vi (v ((a : Int) + ((i : Nat) : Int)).toNat 0)) rfl rfl ?_
          refine V_goto (pc := 51) dL_summed_51 (tgt := 55) rfl ?_
          refine V_iadd (pc := 55) dL_summed_55 (by unfold I32 at *; omega) ?_
          refine V_st (pc := 56) dL_summed_56 (ls' := [(6, vi ((smE (fun k_ : Nat => mI m L k_) (ceR v) w 0 i (a : Int)) + (v ((a : Int) + ((i : Nat) : Int)).toNat 0))), (8, vi (v ((a : Int) + ((i : Nat) : Int)).toNat 0)), (7, vi ((a : Int) + ((i : Nat) : Int))), (0, vr o), (1, vr L), (2, vi (a : Int)), (3, vi r), (4, vi w), (5, vi 0)]) rfl (Nat.le_of_ble_eq_true rfl) rfl ?_
          refine V_iinc (pc := 58) dL_summed_58 (x := ((a : Int) + ((i : Nat) : Int))) (ls' := [(7, vi (((a : Int) + ((i : Nat) : Int)) + 1)), (6, vi ((smE (fun k_ : Nat => mI m L k_) (ceR v) w 0 i (a : Int)) + (v ((a : Int) + ((i : Nat) : Int)).toNat 0))), (8, vi (v ((a : Int) + ((i : Nat) : Int)).toNat 0)), (0, vr o), (1, vr L), (2, vi (a : Int)), (3, vi r), (4, vi w), (5, vi 0)]) rfl (by unfold I32 at *; omega) (Nat.le_of_ble_eq_true rfl) rfl ?_
          refine V_goto (pc := 61) dL_summed_61 (tgt := 6) rfl ?_
          refine V_ls (ls' := [(7, vi (((a : Int) + ((i : Nat) : Int)) + 1)), (6, vi ((smE (fun k_ : Nat => mI m L k_) (ceR v) w 0 i (a : Int)) + (v ((a : Int) + ((i : Nat) : Int)).toNat 0))), (0, vr o), (1, vr L), (2, vi (a : Int)), (3, vi r), (4, vi w), (5, vi 0)]) (by intro q_ h_; simp only [List.mem_cons, List.not_mem_nil, or_false] at h_ ⊢; rcases h_ with rfl | rfl | rfl | rfl | rfl | rfl | rfl | rfl <;> simp) ?_
          have h_ := ih (i + 1) (by omega)
          have e1_ : (a : Int) + ((i + 1 : Nat) : Int) = (a : Int) + (i : Int) + 1 := by omega
          have e2_ : smE (fun k_ : Nat => mI m L k_) (ceR v) w 0 (i + 1) (a : Int) = (smE (fun k_ : Nat => mI m L k_) (ceR v) w 0 i (a : Int)) + (v ((a : Int) + ((i : Nat) : Int)).toNat 0) := smE_y (by omega) (by decide) (by omega) (by show v _ 0 ≠ 1000; omega)
          rw [e1_, e2_] at h_
          exact h_

set_option maxHeartbeats 4000000 in
theorem w_sum0 (n : Nat) (v : Nat → Nat → Int) (a : Nat) (N : Nat) (m : Mem) (o : Nat) (L : Nat) (r : Int) (w : Int)   (hR : RwO m o n v) (T_L : mT m L = (20, 40)) (hr : r + 1 = (a : Int) + (N : Int)) (hn : r < (n : Int)) (hv : ∀ k, -10 ≤ ceR v k ∧ ceR v k ≤ 1000) : Ct μL_summed 0 [vr o, vr L, vi ((a : Nat) : Int), vi r, vi w, vi 0] m (ri fun x_ m' => (x_ = smE (fun k_ : Nat => mI m L k_) (ceR v) w 0 N (a : Int)) ∧ m = m') := by
  refine Ct_of_V rfl (by decide) rfl (Nat.le_of_ble_eq_true rfl) ?_
  show V μL_summed 0 m _ 0 [(0, vr o), (1, vr L), (2, vi ((a : Nat) : Int)), (3, vi r), (4, vi w), (5, vi 0)] [] m
  refine V_iconst (pc := 0) dL_summed_0 (by unfold I32; omega) ?_
  refine V_st (pc := 1) dL_summed_1 (ls' := [(6, vi 0), (0, vr o), (1, vr L), (2, vi ((a : Nat) : Int)), (3, vi r), (4, vi w), (5, vi 0)]) rfl (Nat.le_of_ble_eq_true rfl) rfl ?_
  refine V_ld (pc := 3) dL_summed_3 (v := vi ((a : Nat) : Int)) rfl rfl ?_
  refine V_st (pc := 4) dL_summed_4 (ls' := [(7, vi ((a : Nat) : Int)), (6, vi 0), (0, vr o), (1, vr L), (2, vi ((a : Nat) : Int)), (3, vi r), (4, vi w), (5, vi 0)]) rfl (Nat.le_of_ble_eq_true rfl) rfl ?_
  skip
  refine V_ls (ls' := [(7, vi ((a : Int) + ((0 : Nat) : Int))), (6, vi (smE (fun k_ : Nat => mI m L k_) (ceR v) w 0 0 (a : Int))), (0, vr o), (1, vr L), (2, vi (a : Int)), (3, vi r), (4, vi w), (5, vi 0)]) (by intro q_ h_; rw [show (a : Int) + ((0 : Nat) : Int) = (a : Int) by omega] at h_; exact h_) ?_
  refine L_sum0 (F := 0) (m := m) hR T_L hr hn hv ?_ N 0 (by omega)
  refine V_ld (pc := 64) dL_summed_64 (v := vi (smE (fun k_ : Nat => mI m L k_) (ceR v) w 0 N (a : Int))) rfl rfl ?_
  refine V_reti (pc := 66) dL_summed_66 trivial ?_
  exact ⟨rfl, rfl⟩

set_option maxHeartbeats 4000000 in
theorem L_sum1 {F : Nat} {m0 m : Mem} {post : Option AV → Mem → Prop} {o L n a N : Nat} {w r : Int} {v : Nat → Nat → Int} (hR : RwO m o n v) (T_L : mT m L = (20, 40)) (hr : r + 1 = (a : Int) + (N : Int)) (hn : r < (n : Int)) (hv : ∀ k, -10 ≤ ceR v k ∧ ceR v k ≤ 1000) (kx : V μL_summed F m0 post 64 [(7, vi ((a : Int) + ((N : Nat) : Int))), (6, vi (smE (fun k_ : Nat => mI m L k_) (ceR v) w 1 N (a : Int))), (0, vr o), (1, vr L), (2, vi (a : Int)), (3, vi r), (4, vi w), (5, vi 1)] [] m) : ∀ (dd i : Nat), dd + i = N → V μL_summed F m0 post 6 [(7, vi ((a : Int) + ((i : Nat) : Int))), (6, vi (smE (fun k_ : Nat => mI m L k_) (ceR v) w 1 i (a : Int))), (0, vr o), (1, vr L), (2, vi (a : Int)), (3, vi r), (4, vi w), (5, vi 1)] [] m := by
  intro dd
  induction dd with
  | zero =>
    intro i hi
    obtain rfl : N = i := by omega
    have hn7_ := hR.2.1
    have hbd_ := smE_bd (le := (fun k_ : Nat => mI m L k_)) (ce := ceR v) (w := w) (c := 1) hv N (a : Int)
    refine V_ld (pc := 6) dL_summed_6 (v := vi ((a : Int) + ((N : Nat) : Int))) rfl rfl ?_
    refine V_ld (pc := 8) dL_summed_8 (v := vi r) rfl rfl ?_
    refine V_icmp_gt (pc := 9) dL_summed_9 (tgt := 64) rfl (fun h9 => ?_) (fun h9 => ?_)
    · skip
      first | exact kx | (skip; exact kx) | (exfalso; omega)
    · skip
      refine V_ld (pc := 12) dL_summed_12 (v := vi 1) rfl rfl ?_
      refine V_if_ge (pc := 14) dL_summed_14 (tgt := 21) rfl (fun _ => ?_) (fun h_ => absurd h_ (by decide))
      refine V_ld (pc := 21) dL_summed_21 (v := vr o) rfl rfl ?_
      refine V_ld (pc := 22) dL_summed_22 (v := vi ((a : Int) + ((N : Nat) : Int))) rfl rfl ?_
      obtain ⟨q24, Rq24, Tq24, Vq24, Bq24⟩ := hR.row (r := ((a : Int) + ((N : Nat) : Int))) (by omega)
      refine V_aaldQ (pc := 24) dL_summed_24 (q := some q24) hR.1 (by decide) (by omega) Rq24 ?_
      refine V_ld (pc := 25) dL_summed_25 (v := vi 1) rfl rfl ?_
      refine V_ialdv (pc := 27) dL_summed_27 (v := v ((a : Int) + ((N : Nat) : Int)).toNat 1) Tq24 (by omega) Vq24.2 (fun g27 => ?_)
      refine V_st (pc := 28) dL_summed_28 (ls' := [(8, vi (v ((a : Int) + ((N : Nat) : Int)).toNat 1)), (7, vi ((a : Int) + ((N : Nat) : Int))), (6, vi (smE (fun k_ : Nat => mI m L k_) (ceR v) w 1 N (a : Int))), (0, vr o), (1, vr L), (2, vi (a : Int)), (3, vi r), (4, vi w), (5, vi 1)]) rfl (Nat.le_of_ble_eq_true rfl) rfl ?_
      refine V_ld (pc := 30) dL_summed_30 (v := vi (smE (fun k_ : Nat => mI m L k_) (ceR v) w 1 N (a : Int))) rfl rfl ?_
      refine V_ld (pc := 32) dL_summed_32 (v := vr L) rfl rfl ?_
      refine V_ld (pc := 33) dL_summed_33 (v := vi ((a : Int) + ((N : Nat) : Int))) rfl rfl ?_
      refine V_ialdv (pc := 35) dL_summed_35 (v := mI m L (((a : Int) + ((N : Nat) : Int)).toNat)) T_L (by omega) rfl (fun g35 => ?_)
      refine V_ld (pc := 36) dL_summed_36 (v := vi w) rfl rfl ?_
      refine V_icmp_ne (pc := 38) dL_summed_38 (tgt := 54) rfl (fun h38 => ?_) (fun h38 => ?_)
      · skip
        refine V_iconst (pc := 54) dL_summed_54 (by unfold I32; omega) ?_
        refine V_iadd (pc := 55) dL_summed_55 (by unfold I32 at *; omega) ?_
        refine V_st (pc := 56) dL_summed_56 (ls' := [(6, vi ((smE (fun k_ : Nat => mI m L k_) (ceR v) w 1 N (a : Int)) + 0)), (8, vi (v ((a : Int) + ((N : Nat) : Int)).toNat 1)), (7, vi ((a : Int) + ((N : Nat) : Int))), (0, vr o), (1, vr L), (2, vi (a : Int)), (3, vi r), (4, vi w), (5, vi 1)]) rfl (Nat.le_of_ble_eq_true rfl) rfl ?_
        refine V_iinc (pc := 58) dL_summed_58 (x := ((a : Int) + ((N : Nat) : Int))) (ls' := [(7, vi (((a : Int) + ((N : Nat) : Int)) + 1)), (6, vi ((smE (fun k_ : Nat => mI m L k_) (ceR v) w 1 N (a : Int)) + 0)), (8, vi (v ((a : Int) + ((N : Nat) : Int)).toNat 1)), (0, vr o), (1, vr L), (2, vi (a : Int)), (3, vi r), (4, vi w), (5, vi 1)]) rfl (by unfold I32 at *; omega) (Nat.le_of_ble_eq_true rfl) rfl ?_
        refine V_goto (pc := 61) dL_summed_61 (tgt := 6) rfl ?_
        exfalso; omega
      · skip
        refine V_ld (pc := 41) dL_summed_41 (v := vi (v ((a : Int) + ((N : Nat) : Int)).toNat 1)) rfl rfl ?_
        refine V_sipush (pc := 43) dL_summed_43 (by unfold I32; omega) (by decide) ?_
        refine V_icmp_ge (pc := 46) dL_summed_46 (tgt := 54) rfl (fun h46 => ?_) (fun h46 => ?_)
        · skip
          refine V_iconst (pc := 54) dL_summed_54 (by unfold I32; omega) ?_
          refine V_iadd (pc := 55) dL_summed_55 (by unfold I32 at *; omega) ?_
          refine V_st (pc := 56) dL_summed_56 (ls' := [(6, vi ((smE (fun k_ : Nat => mI m L k_) (ceR v) w 1 N (a : Int)) + 0)), (8, vi (v ((a : Int) + ((N : Nat) : Int)).toNat 1)), (7, vi ((a : Int) + ((N : Nat) : Int))), (0, vr o), (1, vr L), (2, vi (a : Int)), (3, vi r), (4, vi w), (5, vi 1)]) rfl (Nat.le_of_ble_eq_true rfl) rfl ?_
          refine V_iinc (pc := 58) dL_summed_58 (x := ((a : Int) + ((N : Nat) : Int))) (ls' := [(7, vi (((a : Int) + ((N : Nat) : Int)) + 1)), (6, vi ((smE (fun k_ : Nat => mI m L k_) (ceR v) w 1 N (a : Int)) + 0)), (8, vi (v ((a : Int) + ((N : Nat) : Int)).toNat 1)), (0, vr o), (1, vr L), (2, vi (a : Int)), (3, vi r), (4, vi w), (5, vi 1)]) rfl (by unfold I32 at *; omega) (Nat.le_of_ble_eq_true rfl) rfl ?_
          refine V_goto (pc := 61) dL_summed_61 (tgt := 6) rfl ?_
          exfalso; omega
        · skip
          refine V_ld (pc := 49) dL_summed_49 (v := vi (v ((a : Int) + ((N : Nat) : Int)).toNat 1)) rfl rfl ?_
          refine V_goto (pc := 51) dL_summed_51 (tgt := 55) rfl ?_
          refine V_iadd (pc := 55) dL_summed_55 (by unfold I32 at *; omega) ?_
          refine V_st (pc := 56) dL_summed_56 (ls' := [(6, vi ((smE (fun k_ : Nat => mI m L k_) (ceR v) w 1 N (a : Int)) + (v ((a : Int) + ((N : Nat) : Int)).toNat 1))), (8, vi (v ((a : Int) + ((N : Nat) : Int)).toNat 1)), (7, vi ((a : Int) + ((N : Nat) : Int))), (0, vr o), (1, vr L), (2, vi (a : Int)), (3, vi r), (4, vi w), (5, vi 1)]) rfl (Nat.le_of_ble_eq_true rfl) rfl ?_
          refine V_iinc (pc := 58) dL_summed_58 (x := ((a : Int) + ((N : Nat) : Int))) (ls' := [(7, vi (((a : Int) + ((N : Nat) : Int)) + 1)), (6, vi ((smE (fun k_ : Nat => mI m L k_) (ceR v) w 1 N (a : Int)) + (v ((a : Int) + ((N : Nat) : Int)).toNat 1))), (8, vi (v ((a : Int) + ((N : Nat) : Int)).toNat 1)), (0, vr o), (1, vr L), (2, vi (a : Int)), (3, vi r), (4, vi w), (5, vi 1)]) rfl (by unfold I32 at *; omega) (Nat.le_of_ble_eq_true rfl) rfl ?_
          refine V_goto (pc := 61) dL_summed_61 (tgt := 6) rfl ?_
          exfalso; omega
  | succ dd ih =>
    intro i hi
    have hn7_ := hR.2.1
    have hbd_ := smE_bd (le := (fun k_ : Nat => mI m L k_)) (ce := ceR v) (w := w) (c := 1) hv i (a : Int)
    refine V_ld (pc := 6) dL_summed_6 (v := vi ((a : Int) + ((i : Nat) : Int))) rfl rfl ?_
    refine V_ld (pc := 8) dL_summed_8 (v := vi r) rfl rfl ?_
    refine V_icmp_gt (pc := 9) dL_summed_9 (tgt := 64) rfl (fun h9 => ?_) (fun h9 => ?_)
    · skip
      exfalso; omega
    · skip
      refine V_ld (pc := 12) dL_summed_12 (v := vi 1) rfl rfl ?_
      refine V_if_ge (pc := 14) dL_summed_14 (tgt := 21) rfl (fun _ => ?_) (fun h_ => absurd h_ (by decide))
      refine V_ld (pc := 21) dL_summed_21 (v := vr o) rfl rfl ?_
      refine V_ld (pc := 22) dL_summed_22 (v := vi ((a : Int) + ((i : Nat) : Int))) rfl rfl ?_
      obtain ⟨q24, Rq24, Tq24, Vq24, Bq24⟩ := hR.row (r := ((a : Int) + ((i : Nat) : Int))) (by omega)
      refine V_aaldQ (pc := 24) dL_summed_24 (q := some q24) hR.1 (by decide) (by omega) Rq24 ?_
      refine V_ld (pc := 25) dL_summed_25 (v := vi 1) rfl rfl ?_
      refine V_ialdv (pc := 27) dL_summed_27 (v := v ((a : Int) + ((i : Nat) : Int)).toNat 1) Tq24 (by omega) Vq24.2 (fun g27 => ?_)
      refine V_st (pc := 28) dL_summed_28 (ls' := [(8, vi (v ((a : Int) + ((i : Nat) : Int)).toNat 1)), (7, vi ((a : Int) + ((i : Nat) : Int))), (6, vi (smE (fun k_ : Nat => mI m L k_) (ceR v) w 1 i (a : Int))), (0, vr o), (1, vr L), (2, vi (a : Int)), (3, vi r), (4, vi w), (5, vi 1)]) rfl (Nat.le_of_ble_eq_true rfl) rfl ?_
      refine V_ld (pc := 30) dL_summed_30 (v := vi (smE (fun k_ : Nat => mI m L k_) (ceR v) w 1 i (a : Int))) rfl rfl ?_
      refine V_ld (pc := 32) dL_summed_32 (v := vr L) rfl rfl ?_
      refine V_ld (pc := 33) dL_summed_33 (v := vi ((a : Int) + ((i : Nat) : Int))) rfl rfl ?_
      refine V_ialdv (pc := 35) dL_summed_35 (v := mI m L (((a : Int) + ((i : Nat) : Int)).toNat)) T_L (by omega) rfl (fun g35 => ?_)
      refine V_ld (pc := 36) dL_summed_36 (v := vi w) rfl rfl ?_
      refine V_icmp_ne (pc := 38) dL_summed_38 (tgt := 54) rfl (fun h38 => ?_) (fun h38 => ?_)
      · skip
        refine V_iconst (pc := 54) dL_summed_54 (by unfold I32; omega) ?_
        refine V_iadd (pc := 55) dL_summed_55 (by unfold I32 at *; omega) ?_
        refine V_st (pc := 56) dL_summed_56 (ls' := [(6, vi ((smE (fun k_ : Nat => mI m L k_) (ceR v) w 1 i (a : Int)) + 0)), (8, vi (v ((a : Int) + ((i : Nat) : Int)).toNat 1)), (7, vi ((a : Int) + ((i : Nat) : Int))), (0, vr o), (1, vr L), (2, vi (a : Int)), (3, vi r), (4, vi w), (5, vi 1)]) rfl (Nat.le_of_ble_eq_true rfl) rfl ?_
        refine V_iinc (pc := 58) dL_summed_58 (x := ((a : Int) + ((i : Nat) : Int))) (ls' := [(7, vi (((a : Int) + ((i : Nat) : Int)) + 1)), (6, vi ((smE (fun k_ : Nat => mI m L k_) (ceR v) w 1 i (a : Int)) + 0)), (8, vi (v ((a : Int) + ((i : Nat) : Int)).toNat 1)), (0, vr o), (1, vr L), (2, vi (a : Int)), (3, vi r), (4, vi w), (5, vi 1)]) rfl (by unfold I32 at *; omega) (Nat.le_of_ble_eq_true rfl) rfl ?_
        refine V_goto (pc := 61) dL_summed_61 (tgt := 6) rfl ?_
        refine V_ls (ls' := [(7, vi (((a : Int) + ((i : Nat) : Int)) + 1)), (6, vi ((smE (fun k_ : Nat => mI m L k_) (ceR v) w 1 i (a : Int)) + 0)), (0, vr o), (1, vr L), (2, vi (a : Int)), (3, vi r), (4, vi w), (5, vi 1)]) (by intro q_ h_; simp only [List.mem_cons, List.not_mem_nil, or_false] at h_ ⊢; rcases h_ with rfl | rfl | rfl | rfl | rfl | rfl | rfl | rfl <;> simp) ?_
        have h_ := ih (i + 1) (by omega)
        have e1_ : (a : Int) + ((i + 1 : Nat) : Int) = (a : Int) + (i : Int) + 1 := by omega
        have e2_ : smE (fun k_ : Nat => mI m L k_) (ceR v) w 1 (i + 1) (a : Int) = (smE (fun k_ : Nat => mI m L k_) (ceR v) w 1 i (a : Int)) + 0 := smE_n (by omega) (by decide) (fun z_ => by have z1_ := z_.1; have z2_ : v _ 1 ≠ 1000 := z_.2; omega)
        rw [e1_, e2_] at h_
        exact h_
      · skip
        refine V_ld (pc := 41) dL_summed_41 (v := vi (v ((a : Int) + ((i : Nat) : Int)).toNat 1)) rfl rfl ?_
        refine V_sipush (pc := 43) dL_summed_43 (by unfold I32; omega) (by decide) ?_
        refine V_icmp_ge (pc := 46) dL_summed_46 (tgt := 54) rfl (fun h46 => ?_) (fun h46 => ?_)
        · skip
          refine V_iconst (pc := 54) dL_summed_54 (by unfold I32; omega) ?_
          refine V_iadd (pc := 55) dL_summed_55 (by unfold I32 at *; omega) ?_
          refine V_st (pc := 56) dL_summed_56 (ls' := [(6, vi ((smE (fun k_ : Nat => mI m L k_) (ceR v) w 1 i (a : Int)) + 0)), (8, vi (v ((a : Int) + ((i : Nat) : Int)).toNat 1)), (7, vi ((a : Int) + ((i : Nat) : Int))), (0, vr o), (1, vr L), (2, vi (a : Int)), (3, vi r), (4, vi w), (5, vi 1)]) rfl (Nat.le_of_ble_eq_true rfl) rfl ?_
          refine V_iinc (pc := 58) dL_summed_58 (x := ((a : Int) + ((i : Nat) : Int))) (ls' := [(7, vi (((a : Int) + ((i : Nat) : Int)) + 1)), (6, vi ((smE (fun k_ : Nat => mI m L k_) (ceR v) w 1 i (a : Int)) + 0)), (8, vi (v ((a : Int) + ((i : Nat) : Int)).toNat 1)), (0, vr o), (1, vr L), (2, vi (a : Int)), (3, vi r), (4, vi w), (5, vi 1)]) rfl (by unfold I32 at *; omega) (Nat.le_of_ble_eq_true rfl) rfl ?_
          refine V_goto (pc := 61) dL_summed_61 (tgt := 6) rfl ?_
          refine V_ls (ls' := [(7, vi (((a : Int) + ((i : Nat) : Int)) + 1)), (6, vi ((smE (fun k_ : Nat => mI m L k_) (ceR v) w 1 i (a : Int)) + 0)), (0, vr o), (1, vr L), (2, vi (a : Int)), (3, vi r), (4, vi w), (5, vi 1)]) (by intro q_ h_; simp only [List.mem_cons, List.not_mem_nil, or_false] at h_ ⊢; rcases h_ with rfl | rfl | rfl | rfl | rfl | rfl | rfl | rfl <;> simp) ?_
          have h_ := ih (i + 1) (by omega)
          have e1_ : (a : Int) + ((i + 1 : Nat) : Int) = (a : Int) + (i : Int) + 1 := by omega
          have e2_ : smE (fun k_ : Nat => mI m L k_) (ceR v) w 1 (i + 1) (a : Int) = (smE (fun k_ : Nat => mI m L k_) (ceR v) w 1 i (a : Int)) + 0 := smE_n (by omega) (by decide) (fun z_ => by have z1_ := z_.1; have z2_ : v _ 1 ≠ 1000 := z_.2; omega)
          rw [e1_, e2_] at h_
          exact h_
        · skip
          refine V_ld (pc := 49) dL_summed_49 (v := vi (v ((a : Int) + ((i : Nat) : Int)).toNat 1)) rfl rfl ?_
          refine V_goto (pc := 51) dL_summed_51 (tgt := 55) rfl ?_
          refine V_iadd (pc := 55) dL_summed_55 (by unfold I32 at *; omega) ?_
          refine V_st (pc := 56) dL_summed_56 (ls' := [(6, vi ((smE (fun k_ : Nat => mI m L k_) (ceR v) w 1 i (a : Int)) + (v ((a : Int) + ((i : Nat) : Int)).toNat 1))), (8, vi (v ((a : Int) + ((i : Nat) : Int)).toNat 1)), (7, vi ((a : Int) + ((i : Nat) : Int))), (0, vr o), (1, vr L), (2, vi (a : Int)), (3, vi r), (4, vi w), (5, vi 1)]) rfl (Nat.le_of_ble_eq_true rfl) rfl ?_
          refine V_iinc (pc := 58) dL_summed_58 (x := ((a : Int) + ((i : Nat) : Int))) (ls' := [(7, vi (((a : Int) + ((i : Nat) : Int)) + 1)), (6, vi ((smE (fun k_ : Nat => mI m L k_) (ceR v) w 1 i (a : Int)) + (v ((a : Int) + ((i : Nat) : Int)).toNat 1))), (8, vi (v ((a : Int) + ((i : Nat) : Int)).toNat 1)), (0, vr o), (1, vr L), (2, vi (a : Int)), (3, vi r), (4, vi w), (5, vi 1)]) rfl (by unfold I32 at *; omega) (Nat.le_of_ble_eq_true rfl) rfl ?_
          refine V_goto (pc := 61) dL_summed_61 (tgt := 6) rfl ?_
          refine V_ls (ls' := [(7, vi (((a : Int) + ((i : Nat) : Int)) + 1)), (6, vi ((smE (fun k_ : Nat => mI m L k_) (ceR v) w 1 i (a : Int)) + (v ((a : Int) + ((i : Nat) : Int)).toNat 1))), (0, vr o), (1, vr L), (2, vi (a : Int)), (3, vi r), (4, vi w), (5, vi 1)]) (by intro q_ h_; simp only [List.mem_cons, List.not_mem_nil, or_false] at h_ ⊢; rcases h_ with rfl | rfl | rfl | rfl | rfl | rfl | rfl | rfl <;> simp) ?_
          have h_ := ih (i + 1) (by omega)
          have e1_ : (a : Int) + ((i + 1 : Nat) : Int) = (a : Int) + (i : Int) + 1 := by omega
          have e2_ : smE (fun k_ : Nat => mI m L k_) (ceR v) w 1 (i + 1) (a : Int) = (smE (fun k_ : Nat => mI m L k_) (ceR v) w 1 i (a : Int)) + (v ((a : Int) + ((i : Nat) : Int)).toNat 1) := smE_y (by omega) (by decide) (by omega) (by show v _ 1 ≠ 1000; omega)
          rw [e1_, e2_] at h_
          exact h_

set_option maxHeartbeats 4000000 in
theorem w_sum1 (n : Nat) (v : Nat → Nat → Int) (a : Nat) (N : Nat) (m : Mem) (o : Nat) (L : Nat) (r : Int) (w : Int)   (hR : RwO m o n v) (T_L : mT m L = (20, 40)) (hr : r + 1 = (a : Int) + (N : Int)) (hn : r < (n : Int)) (hv : ∀ k, -10 ≤ ceR v k ∧ ceR v k ≤ 1000) : Ct μL_summed 0 [vr o, vr L, vi ((a : Nat) : Int), vi r, vi w, vi 1] m (ri fun x_ m' => (x_ = smE (fun k_ : Nat => mI m L k_) (ceR v) w 1 N (a : Int)) ∧ m = m') := by
  refine Ct_of_V rfl (by decide) rfl (Nat.le_of_ble_eq_true rfl) ?_
  show V μL_summed 0 m _ 0 [(0, vr o), (1, vr L), (2, vi ((a : Nat) : Int)), (3, vi r), (4, vi w), (5, vi 1)] [] m
  refine V_iconst (pc := 0) dL_summed_0 (by unfold I32; omega) ?_
  refine V_st (pc := 1) dL_summed_1 (ls' := [(6, vi 0), (0, vr o), (1, vr L), (2, vi ((a : Nat) : Int)), (3, vi r), (4, vi w), (5, vi 1)]) rfl (Nat.le_of_ble_eq_true rfl) rfl ?_
  refine V_ld (pc := 3) dL_summed_3 (v := vi ((a : Nat) : Int)) rfl rfl ?_
  refine V_st (pc := 4) dL_summed_4 (ls' := [(7, vi ((a : Nat) : Int)), (6, vi 0), (0, vr o), (1, vr L), (2, vi ((a : Nat) : Int)), (3, vi r), (4, vi w), (5, vi 1)]) rfl (Nat.le_of_ble_eq_true rfl) rfl ?_
  skip
  refine V_ls (ls' := [(7, vi ((a : Int) + ((0 : Nat) : Int))), (6, vi (smE (fun k_ : Nat => mI m L k_) (ceR v) w 1 0 (a : Int))), (0, vr o), (1, vr L), (2, vi (a : Int)), (3, vi r), (4, vi w), (5, vi 1)]) (by intro q_ h_; rw [show (a : Int) + ((0 : Nat) : Int) = (a : Int) by omega] at h_; exact h_) ?_
  refine L_sum1 (F := 0) (m := m) hR T_L hr hn hv ?_ N 0 (by omega)
  refine V_ld (pc := 64) dL_summed_64 (v := vi (smE (fun k_ : Nat => mI m L k_) (ceR v) w 1 N (a : Int))) rfl rfl ?_
  refine V_reti (pc := 66) dL_summed_66 trivial ?_
  exact ⟨rfl, rfl⟩

set_option maxHeartbeats 4000000 in
theorem L_let1 {F : Nat} {m0 m : Mem} {post : Option AV → Mem → Prop} {L a N : Nat} {w r : Int} (T_L : mT m L = (20, 40)) (hr : r + 1 = (a : Int) + (N : Int)) (hn : r < 7) (kx : V μL_lettered F m0 post 45 [(6, vi (r - ((N : Nat) : Int))), (5, vi (frE (fun k_ : Nat => mI m L k_) w N (r - ((N : Nat) : Int) + 1))), (0, vr L), (1, vi (a : Int)), (2, vi r), (3, vi w), (4, vi 1)] [] m) : ∀ (dd i : Nat), dd + i = N → V μL_lettered F m0 post 6 [(6, vi (r - ((i : Nat) : Int))), (5, vi (frE (fun k_ : Nat => mI m L k_) w i (r - ((i : Nat) : Int) + 1))), (0, vr L), (1, vi (a : Int)), (2, vi r), (3, vi w), (4, vi 1)] [] m := by
  intro dd
  induction dd with
  | zero =>
    intro i hi
    obtain rfl : N = i := by omega
    have hm_ := frE_bd (le := (fun k_ : Nat => mI m L k_)) (w := w) N (r - (N : Int) + 1)
    refine V_ld (pc := 6) dL_lettered_6 (v := vi (r - ((N : Nat) : Int))) rfl rfl ?_
    refine V_ld (pc := 8) dL_lettered_8 (v := vi (a : Int)) rfl rfl ?_
    refine V_icmp_lt (pc := 9) dL_lettered_9 (tgt := 45) rfl (fun h9 => ?_) (fun h9 => ?_)
    · skip
      first | exact kx | (skip; exact kx) | (exfalso; omega)
    · skip
      refine V_ld (pc := 12) dL_lettered_12 (v := vr L) rfl rfl ?_
      refine V_ld (pc := 13) dL_lettered_13 (v := vi (r - ((N : Nat) : Int))) rfl rfl ?_
      refine V_ialdv (pc := 15) dL_lettered_15 (v := mI m L ((r - ((N : Nat) : Int)).toNat)) T_L (by omega) rfl (fun g15 => ?_)
      refine V_ld (pc := 16) dL_lettered_16 (v := vi w) rfl rfl ?_
      refine V_icmp_ne (pc := 17) dL_lettered_17 (tgt := 35) rfl (fun h17 => ?_) (fun h17 => ?_)
      · skip
        refine V_ld (pc := 35) dL_lettered_35 (v := vi (frE (fun k_ : Nat => mI m L k_) w N (r - ((N : Nat) : Int) + 1))) rfl rfl ?_
        refine V_st (pc := 37) dL_lettered_37 (ls' := [(5, vi (frE (fun k_ : Nat => mI m L k_) w N (r - ((N : Nat) : Int) + 1))), (6, vi (r - ((N : Nat) : Int))), (0, vr L), (1, vi (a : Int)), (2, vi r), (3, vi w), (4, vi 1)]) rfl (Nat.le_of_ble_eq_true rfl) rfl ?_
        refine V_iinc (pc := 39) dL_lettered_39 (x := (r - ((N : Nat) : Int))) (ls' := [(6, vi ((r - ((N : Nat) : Int)) + (-1))), (5, vi (frE (fun k_ : Nat => mI m L k_) w N (r - ((N : Nat) : Int) + 1))), (0, vr L), (1, vi (a : Int)), (2, vi r), (3, vi w), (4, vi 1)]) rfl (by unfold I32 at *; omega) (Nat.le_of_ble_eq_true rfl) rfl ?_
        refine V_goto (pc := 42) dL_lettered_42 (tgt := 6) rfl ?_
        exfalso; omega
      · skip
        refine V_ld (pc := 20) dL_lettered_20 (v := vi (frE (fun k_ : Nat => mI m L k_) w N (r - ((N : Nat) : Int) + 1))) rfl rfl ?_
        refine V_if_lt (pc := 22) dL_lettered_22 (tgt := 30) rfl (fun h22 => ?_) (fun h22 => ?_)
        · skip
          refine V_ld (pc := 30) dL_lettered_30 (v := vi (r - ((N : Nat) : Int))) rfl rfl ?_
          refine V_goto (pc := 32) dL_lettered_32 (tgt := 37) rfl ?_
          refine V_st (pc := 37) dL_lettered_37 (ls' := [(5, vi (r - ((N : Nat) : Int))), (6, vi (r - ((N : Nat) : Int))), (0, vr L), (1, vi (a : Int)), (2, vi r), (3, vi w), (4, vi 1)]) rfl (Nat.le_of_ble_eq_true rfl) rfl ?_
          refine V_iinc (pc := 39) dL_lettered_39 (x := (r - ((N : Nat) : Int))) (ls' := [(6, vi ((r - ((N : Nat) : Int)) + (-1))), (5, vi (r - ((N : Nat) : Int))), (0, vr L), (1, vi (a : Int)), (2, vi r), (3, vi w), (4, vi 1)]) rfl (by unfold I32 at *; omega) (Nat.le_of_ble_eq_true rfl) rfl ?_
          refine V_goto (pc := 42) dL_lettered_42 (tgt := 6) rfl ?_
          exfalso; omega
        · skip
          refine V_ld (pc := 25) dL_lettered_25 (v := vi 1) rfl rfl ?_
          refine V_if_eq (pc := 27) dL_lettered_27 (tgt := 35) rfl (fun h_ => absurd h_ (by decide)) (fun _ => ?_)
          refine V_ld (pc := 30) dL_lettered_30 (v := vi (r - ((N : Nat) : Int))) rfl rfl ?_
          refine V_goto (pc := 32) dL_lettered_32 (tgt := 37) rfl ?_
          refine V_st (pc := 37) dL_lettered_37 (ls' := [(5, vi (r - ((N : Nat) : Int))), (6, vi (r - ((N : Nat) : Int))), (0, vr L), (1, vi (a : Int)), (2, vi r), (3, vi w), (4, vi 1)]) rfl (Nat.le_of_ble_eq_true rfl) rfl ?_
          refine V_iinc (pc := 39) dL_lettered_39 (x := (r - ((N : Nat) : Int))) (ls' := [(6, vi ((r - ((N : Nat) : Int)) + (-1))), (5, vi (r - ((N : Nat) : Int))), (0, vr L), (1, vi (a : Int)), (2, vi r), (3, vi w), (4, vi 1)]) rfl (by unfold I32 at *; omega) (Nat.le_of_ble_eq_true rfl) rfl ?_
          refine V_goto (pc := 42) dL_lettered_42 (tgt := 6) rfl ?_
          exfalso; omega
  | succ dd ih =>
    intro i hi
    have hm_ := frE_bd (le := (fun k_ : Nat => mI m L k_)) (w := w) i (r - (i : Int) + 1)
    refine V_ld (pc := 6) dL_lettered_6 (v := vi (r - ((i : Nat) : Int))) rfl rfl ?_
    refine V_ld (pc := 8) dL_lettered_8 (v := vi (a : Int)) rfl rfl ?_
    refine V_icmp_lt (pc := 9) dL_lettered_9 (tgt := 45) rfl (fun h9 => ?_) (fun h9 => ?_)
    · skip
      exfalso; omega
    · skip
      refine V_ld (pc := 12) dL_lettered_12 (v := vr L) rfl rfl ?_
      refine V_ld (pc := 13) dL_lettered_13 (v := vi (r - ((i : Nat) : Int))) rfl rfl ?_
      refine V_ialdv (pc := 15) dL_lettered_15 (v := mI m L ((r - ((i : Nat) : Int)).toNat)) T_L (by omega) rfl (fun g15 => ?_)
      refine V_ld (pc := 16) dL_lettered_16 (v := vi w) rfl rfl ?_
      refine V_icmp_ne (pc := 17) dL_lettered_17 (tgt := 35) rfl (fun h17 => ?_) (fun h17 => ?_)
      · skip
        refine V_ld (pc := 35) dL_lettered_35 (v := vi (frE (fun k_ : Nat => mI m L k_) w i (r - ((i : Nat) : Int) + 1))) rfl rfl ?_
        refine V_st (pc := 37) dL_lettered_37 (ls' := [(5, vi (frE (fun k_ : Nat => mI m L k_) w i (r - ((i : Nat) : Int) + 1))), (6, vi (r - ((i : Nat) : Int))), (0, vr L), (1, vi (a : Int)), (2, vi r), (3, vi w), (4, vi 1)]) rfl (Nat.le_of_ble_eq_true rfl) rfl ?_
        refine V_iinc (pc := 39) dL_lettered_39 (x := (r - ((i : Nat) : Int))) (ls' := [(6, vi ((r - ((i : Nat) : Int)) + (-1))), (5, vi (frE (fun k_ : Nat => mI m L k_) w i (r - ((i : Nat) : Int) + 1))), (0, vr L), (1, vi (a : Int)), (2, vi r), (3, vi w), (4, vi 1)]) rfl (by unfold I32 at *; omega) (Nat.le_of_ble_eq_true rfl) rfl ?_
        refine V_goto (pc := 42) dL_lettered_42 (tgt := 6) rfl ?_
        skip
        have h_ := ih (i + 1) (by omega)
        have e1_ : r - ((i + 1 : Nat) : Int) = r - (i : Int) - 1 := by omega
        have e3_ : r - ((i + 1 : Nat) : Int) + 1 = r - (i : Int) := by omega
        have e2_ : frE (fun k_ : Nat => mI m L k_) w (i + 1) (r - (i : Int)) = frE (fun k_ : Nat => mI m L k_) w i (r - ((i : Nat) : Int) + 1) := by
          show (if _ = w then _ else _) = _
          rw [if_neg (by omega)]
        rw [e3_, e1_, e2_] at h_
        exact h_
      · skip
        refine V_ld (pc := 20) dL_lettered_20 (v := vi (frE (fun k_ : Nat => mI m L k_) w i (r - ((i : Nat) : Int) + 1))) rfl rfl ?_
        refine V_if_lt (pc := 22) dL_lettered_22 (tgt := 30) rfl (fun h22 => ?_) (fun h22 => ?_)
        · skip
          refine V_ld (pc := 30) dL_lettered_30 (v := vi (r - ((i : Nat) : Int))) rfl rfl ?_
          refine V_goto (pc := 32) dL_lettered_32 (tgt := 37) rfl ?_
          refine V_st (pc := 37) dL_lettered_37 (ls' := [(5, vi (r - ((i : Nat) : Int))), (6, vi (r - ((i : Nat) : Int))), (0, vr L), (1, vi (a : Int)), (2, vi r), (3, vi w), (4, vi 1)]) rfl (Nat.le_of_ble_eq_true rfl) rfl ?_
          refine V_iinc (pc := 39) dL_lettered_39 (x := (r - ((i : Nat) : Int))) (ls' := [(6, vi ((r - ((i : Nat) : Int)) + (-1))), (5, vi (r - ((i : Nat) : Int))), (0, vr L), (1, vi (a : Int)), (2, vi r), (3, vi w), (4, vi 1)]) rfl (by unfold I32 at *; omega) (Nat.le_of_ble_eq_true rfl) rfl ?_
          refine V_goto (pc := 42) dL_lettered_42 (tgt := 6) rfl ?_
          skip
          have h_ := ih (i + 1) (by omega)
          have e1_ : r - ((i + 1 : Nat) : Int) = r - (i : Int) - 1 := by omega
          have e3_ : r - ((i + 1 : Nat) : Int) + 1 = r - (i : Int) := by omega
          have e2_ : frE (fun k_ : Nat => mI m L k_) w (i + 1) (r - (i : Int)) = r - ((i : Nat) : Int) := by
            show (if _ = w then _ else _) = _
            rw [if_pos (by omega)]
          rw [e3_, e1_, e2_] at h_
          exact h_
        · skip
          refine V_ld (pc := 25) dL_lettered_25 (v := vi 1) rfl rfl ?_
          refine V_if_eq (pc := 27) dL_lettered_27 (tgt := 35) rfl (fun h_ => absurd h_ (by decide)) (fun _ => ?_)
          refine V_ld (pc := 30) dL_lettered_30 (v := vi (r - ((i : Nat) : Int))) rfl rfl ?_
          refine V_goto (pc := 32) dL_lettered_32 (tgt := 37) rfl ?_
          refine V_st (pc := 37) dL_lettered_37 (ls' := [(5, vi (r - ((i : Nat) : Int))), (6, vi (r - ((i : Nat) : Int))), (0, vr L), (1, vi (a : Int)), (2, vi r), (3, vi w), (4, vi 1)]) rfl (Nat.le_of_ble_eq_true rfl) rfl ?_
          refine V_iinc (pc := 39) dL_lettered_39 (x := (r - ((i : Nat) : Int))) (ls' := [(6, vi ((r - ((i : Nat) : Int)) + (-1))), (5, vi (r - ((i : Nat) : Int))), (0, vr L), (1, vi (a : Int)), (2, vi r), (3, vi w), (4, vi 1)]) rfl (by unfold I32 at *; omega) (Nat.le_of_ble_eq_true rfl) rfl ?_
          refine V_goto (pc := 42) dL_lettered_42 (tgt := 6) rfl ?_
          skip
          have h_ := ih (i + 1) (by omega)
          have e1_ : r - ((i + 1 : Nat) : Int) = r - (i : Int) - 1 := by omega
          have e3_ : r - ((i + 1 : Nat) : Int) + 1 = r - (i : Int) := by omega
          have e2_ : frE (fun k_ : Nat => mI m L k_) w (i + 1) (r - (i : Int)) = r - ((i : Nat) : Int) := by
            show (if _ = w then _ else _) = _
            rw [if_pos (by omega)]
          rw [e3_, e1_, e2_] at h_
          exact h_

set_option maxHeartbeats 4000000 in
theorem w_let1 (a : Nat) (N : Nat) (m : Mem) (L : Nat) (r : Int) (w : Int)   (T_L : mT m L = (20, 40)) (hr : r + 1 = (a : Int) + (N : Int)) (hn : r < 7) : Ct μL_lettered 0 [vr L, vi ((a : Nat) : Int), vi r, vi w, vi 1] m (ri fun x_ m' => (x_ = frE (fun k_ : Nat => mI m L k_) w N (a : Int)) ∧ m = m') := by
  refine Ct_of_V rfl (by decide) rfl (Nat.le_of_ble_eq_true rfl) ?_
  show V μL_lettered 0 m _ 0 [(0, vr L), (1, vi ((a : Nat) : Int)), (2, vi r), (3, vi w), (4, vi 1)] [] m
  refine V_iconst (pc := 0) dL_lettered_0 (by unfold I32; omega) ?_
  refine V_st (pc := 1) dL_lettered_1 (ls' := [(5, vi (-1)), (0, vr L), (1, vi ((a : Nat) : Int)), (2, vi r), (3, vi w), (4, vi 1)]) rfl (Nat.le_of_ble_eq_true rfl) rfl ?_
  refine V_ld (pc := 3) dL_lettered_3 (v := vi r) rfl rfl ?_
  refine V_st (pc := 4) dL_lettered_4 (ls' := [(6, vi r), (5, vi (-1)), (0, vr L), (1, vi ((a : Nat) : Int)), (2, vi r), (3, vi w), (4, vi 1)]) rfl (Nat.le_of_ble_eq_true rfl) rfl ?_
  skip
  refine V_ls (ls' := [(6, vi (r - ((0 : Nat) : Int))), (5, vi (frE (fun k_ : Nat => mI m L k_) w 0 (r - ((0 : Nat) : Int) + 1))), (0, vr L), (1, vi (a : Int)), (2, vi r), (3, vi w), (4, vi 1)]) (by intro q_ h_; rw [show r - ((0 : Nat) : Int) = r by omega] at h_; exact h_) ?_
  refine L_let1 (F := 0) (m := m) T_L hr hn ?_ N 0 (by omega)
  refine V_ld (pc := 45) dL_lettered_45 (v := vi (frE (fun k_ : Nat => mI m L k_) w N (r - ((N : Nat) : Int) + 1))) rfl rfl ?_
  refine V_reti (pc := 47) dL_lettered_47 trivial ?_
  exact ⟨by rw [show r - ((N : Nat) : Int) + 1 = (a : Int) by omega], rfl⟩

set_option maxHeartbeats 4000000 in
theorem L_let0 {F : Nat} {m0 m : Mem} {post : Option AV → Mem → Prop} {L a N : Nat} {w r : Int} (T_L : mT m L = (20, 40)) (hr : r + 1 = (a : Int) + (N : Int)) (hn : r < 7) (kx : V μL_lettered F m0 post 45 [(6, vi (r - ((N : Nat) : Int))), (5, vi (lsE (fun k_ : Nat => mI m L k_) w N (r - ((N : Nat) : Int) + 1))), (0, vr L), (1, vi (a : Int)), (2, vi r), (3, vi w), (4, vi 0)] [] m) : ∀ (dd i : Nat), dd + i = N → V μL_lettered F m0 post 6 [(6, vi (r - ((i : Nat) : Int))), (5, vi (lsE (fun k_ : Nat => mI m L k_) w i (r - ((i : Nat) : Int) + 1))), (0, vr L), (1, vi (a : Int)), (2, vi r), (3, vi w), (4, vi 0)] [] m := by
  intro dd
  induction dd with
  | zero =>
    intro i hi
    obtain rfl : N = i := by omega
    have hm_ := (lsE_top (le := (fun k_ : Nat => mI m L k_)) (w := w) N (r - (N : Int) + 1) (by omega)).1
    refine V_ld (pc := 6) dL_lettered_6 (v := vi (r - ((N : Nat) : Int))) rfl rfl ?_
    refine V_ld (pc := 8) dL_lettered_8 (v := vi (a : Int)) rfl rfl ?_
    refine V_icmp_lt (pc := 9) dL_lettered_9 (tgt := 45) rfl (fun h9 => ?_) (fun h9 => ?_)
    · skip
      first | exact kx | (skip; exact kx) | (exfalso; omega)
    · skip
      refine V_ld (pc := 12) dL_lettered_12 (v := vr L) rfl rfl ?_
      refine V_ld (pc := 13) dL_lettered_13 (v := vi (r - ((N : Nat) : Int))) rfl rfl ?_
      refine V_ialdv (pc := 15) dL_lettered_15 (v := mI m L ((r - ((N : Nat) : Int)).toNat)) T_L (by omega) rfl (fun g15 => ?_)
      refine V_ld (pc := 16) dL_lettered_16 (v := vi w) rfl rfl ?_
      refine V_icmp_ne (pc := 17) dL_lettered_17 (tgt := 35) rfl (fun h17 => ?_) (fun h17 => ?_)
      · skip
        refine V_ld (pc := 35) dL_lettered_35 (v := vi (lsE (fun k_ : Nat => mI m L k_) w N (r - ((N : Nat) : Int) + 1))) rfl rfl ?_
        refine V_st (pc := 37) dL_lettered_37 (ls' := [(5, vi (lsE (fun k_ : Nat => mI m L k_) w N (r - ((N : Nat) : Int) + 1))), (6, vi (r - ((N : Nat) : Int))), (0, vr L), (1, vi (a : Int)), (2, vi r), (3, vi w), (4, vi 0)]) rfl (Nat.le_of_ble_eq_true rfl) rfl ?_
        refine V_iinc (pc := 39) dL_lettered_39 (x := (r - ((N : Nat) : Int))) (ls' := [(6, vi ((r - ((N : Nat) : Int)) + (-1))), (5, vi (lsE (fun k_ : Nat => mI m L k_) w N (r - ((N : Nat) : Int) + 1))), (0, vr L), (1, vi (a : Int)), (2, vi r), (3, vi w), (4, vi 0)]) rfl (by unfold I32 at *; omega) (Nat.le_of_ble_eq_true rfl) rfl ?_
        refine V_goto (pc := 42) dL_lettered_42 (tgt := 6) rfl ?_
        exfalso; omega
      · skip
        refine V_ld (pc := 20) dL_lettered_20 (v := vi (lsE (fun k_ : Nat => mI m L k_) w N (r - ((N : Nat) : Int) + 1))) rfl rfl ?_
        refine V_if_lt (pc := 22) dL_lettered_22 (tgt := 30) rfl (fun h22 => ?_) (fun h22 => ?_)
        · skip
          refine V_ld (pc := 30) dL_lettered_30 (v := vi (r - ((N : Nat) : Int))) rfl rfl ?_
          refine V_goto (pc := 32) dL_lettered_32 (tgt := 37) rfl ?_
          refine V_st (pc := 37) dL_lettered_37 (ls' := [(5, vi (r - ((N : Nat) : Int))), (6, vi (r - ((N : Nat) : Int))), (0, vr L), (1, vi (a : Int)), (2, vi r), (3, vi w), (4, vi 0)]) rfl (Nat.le_of_ble_eq_true rfl) rfl ?_
          refine V_iinc (pc := 39) dL_lettered_39 (x := (r - ((N : Nat) : Int))) (ls' := [(6, vi ((r - ((N : Nat) : Int)) + (-1))), (5, vi (r - ((N : Nat) : Int))), (0, vr L), (1, vi (a : Int)), (2, vi r), (3, vi w), (4, vi 0)]) rfl (by unfold I32 at *; omega) (Nat.le_of_ble_eq_true rfl) rfl ?_
          refine V_goto (pc := 42) dL_lettered_42 (tgt := 6) rfl ?_
          exfalso; omega
        · skip
          refine V_ld (pc := 25) dL_lettered_25 (v := vi 0) rfl rfl ?_
          refine V_if_eq (pc := 27) dL_lettered_27 (tgt := 35) rfl (fun _ => ?_) (fun h_ => absurd h_ (by decide))
          refine V_ld (pc := 35) dL_lettered_35 (v := vi (lsE (fun k_ : Nat => mI m L k_) w N (r - ((N : Nat) : Int) + 1))) rfl rfl ?_
          refine V_st (pc := 37) dL_lettered_37 (ls' := [(5, vi (lsE (fun k_ : Nat => mI m L k_) w N (r - ((N : Nat) : Int) + 1))), (6, vi (r - ((N : Nat) : Int))), (0, vr L), (1, vi (a : Int)), (2, vi r), (3, vi w), (4, vi 0)]) rfl (Nat.le_of_ble_eq_true rfl) rfl ?_
          refine V_iinc (pc := 39) dL_lettered_39 (x := (r - ((N : Nat) : Int))) (ls' := [(6, vi ((r - ((N : Nat) : Int)) + (-1))), (5, vi (lsE (fun k_ : Nat => mI m L k_) w N (r - ((N : Nat) : Int) + 1))), (0, vr L), (1, vi (a : Int)), (2, vi r), (3, vi w), (4, vi 0)]) rfl (by unfold I32 at *; omega) (Nat.le_of_ble_eq_true rfl) rfl ?_
          refine V_goto (pc := 42) dL_lettered_42 (tgt := 6) rfl ?_
          exfalso; omega
  | succ dd ih =>
    intro i hi
    have hm_ := (lsE_top (le := (fun k_ : Nat => mI m L k_)) (w := w) i (r - (i : Int) + 1) (by omega)).1
    refine V_ld (pc := 6) dL_lettered_6 (v := vi (r - ((i : Nat) : Int))) rfl rfl ?_
    refine V_ld (pc := 8) dL_lettered_8 (v := vi (a : Int)) rfl rfl ?_
    refine V_icmp_lt (pc := 9) dL_lettered_9 (tgt := 45) rfl (fun h9 => ?_) (fun h9 => ?_)
    · skip
      exfalso; omega
    · skip
      refine V_ld (pc := 12) dL_lettered_12 (v := vr L) rfl rfl ?_
      refine V_ld (pc := 13) dL_lettered_13 (v := vi (r - ((i : Nat) : Int))) rfl rfl ?_
      refine V_ialdv (pc := 15) dL_lettered_15 (v := mI m L ((r - ((i : Nat) : Int)).toNat)) T_L (by omega) rfl (fun g15 => ?_)
      refine V_ld (pc := 16) dL_lettered_16 (v := vi w) rfl rfl ?_
      refine V_icmp_ne (pc := 17) dL_lettered_17 (tgt := 35) rfl (fun h17 => ?_) (fun h17 => ?_)
      · skip
        refine V_ld (pc := 35) dL_lettered_35 (v := vi (lsE (fun k_ : Nat => mI m L k_) w i (r - ((i : Nat) : Int) + 1))) rfl rfl ?_
        refine V_st (pc := 37) dL_lettered_37 (ls' := [(5, vi (lsE (fun k_ : Nat => mI m L k_) w i (r - ((i : Nat) : Int) + 1))), (6, vi (r - ((i : Nat) : Int))), (0, vr L), (1, vi (a : Int)), (2, vi r), (3, vi w), (4, vi 0)]) rfl (Nat.le_of_ble_eq_true rfl) rfl ?_
        refine V_iinc (pc := 39) dL_lettered_39 (x := (r - ((i : Nat) : Int))) (ls' := [(6, vi ((r - ((i : Nat) : Int)) + (-1))), (5, vi (lsE (fun k_ : Nat => mI m L k_) w i (r - ((i : Nat) : Int) + 1))), (0, vr L), (1, vi (a : Int)), (2, vi r), (3, vi w), (4, vi 0)]) rfl (by unfold I32 at *; omega) (Nat.le_of_ble_eq_true rfl) rfl ?_
        refine V_goto (pc := 42) dL_lettered_42 (tgt := 6) rfl ?_
        skip
        have h_ := ih (i + 1) (by omega)
        have e1_ : r - ((i + 1 : Nat) : Int) = r - (i : Int) - 1 := by omega
        have e3_ : r - ((i + 1 : Nat) : Int) + 1 = r - (i : Int) := by omega
        have e2_ : lsE (fun k_ : Nat => mI m L k_) w (i + 1) (r - (i : Int)) = lsE (fun k_ : Nat => mI m L k_) w i (r - ((i : Nat) : Int) + 1) := by
          rw [(lsE_top (le := (fun k_ : Nat => mI m L k_)) (w := w) i (r - (i : Int)) (by omega)).2]
          by_cases z0_ : 0 ≤ lsE (fun k_ : Nat => mI m L k_) w i (r - (i : Int) + 1)
          · rw [show r - (i : Int) + 1 = r - (i : Int) + 1 from rfl, if_pos z0_]
          · rw [if_neg z0_]
            first | (exfalso; omega) | (rw [if_neg (by show ¬ mI m L _ = w; omega)]; omega)
        rw [e3_, e1_, e2_] at h_
        exact h_
      · skip
        refine V_ld (pc := 20) dL_lettered_20 (v := vi (lsE (fun k_ : Nat => mI m L k_) w i (r - ((i : Nat) : Int) + 1))) rfl rfl ?_
        refine V_if_lt (pc := 22) dL_lettered_22 (tgt := 30) rfl (fun h22 => ?_) (fun h22 => ?_)
        · skip
          refine V_ld (pc := 30) dL_lettered_30 (v := vi (r - ((i : Nat) : Int))) rfl rfl ?_
          refine V_goto (pc := 32) dL_lettered_32 (tgt := 37) rfl ?_
          refine V_st (pc := 37) dL_lettered_37 (ls' := [(5, vi (r - ((i : Nat) : Int))), (6, vi (r - ((i : Nat) : Int))), (0, vr L), (1, vi (a : Int)), (2, vi r), (3, vi w), (4, vi 0)]) rfl (Nat.le_of_ble_eq_true rfl) rfl ?_
          refine V_iinc (pc := 39) dL_lettered_39 (x := (r - ((i : Nat) : Int))) (ls' := [(6, vi ((r - ((i : Nat) : Int)) + (-1))), (5, vi (r - ((i : Nat) : Int))), (0, vr L), (1, vi (a : Int)), (2, vi r), (3, vi w), (4, vi 0)]) rfl (by unfold I32 at *; omega) (Nat.le_of_ble_eq_true rfl) rfl ?_
          refine V_goto (pc := 42) dL_lettered_42 (tgt := 6) rfl ?_
          skip
          have h_ := ih (i + 1) (by omega)
          have e1_ : r - ((i + 1 : Nat) : Int) = r - (i : Int) - 1 := by omega
          have e3_ : r - ((i + 1 : Nat) : Int) + 1 = r - (i : Int) := by omega
          have e2_ : lsE (fun k_ : Nat => mI m L k_) w (i + 1) (r - (i : Int)) = r - ((i : Nat) : Int) := by
            rw [(lsE_top (le := (fun k_ : Nat => mI m L k_)) (w := w) i (r - (i : Int)) (by omega)).2]
            rw [if_neg (by omega), if_pos (by show mI m L _ = w; omega)]
          rw [e3_, e1_, e2_] at h_
          exact h_
        · skip
          refine V_ld (pc := 25) dL_lettered_25 (v := vi 0) rfl rfl ?_
          refine V_if_eq (pc := 27) dL_lettered_27 (tgt := 35) rfl (fun _ => ?_) (fun h_ => absurd h_ (by decide))
          refine V_ld (pc := 35) dL_lettered_35 (v := vi (lsE (fun k_ : Nat => mI m L k_) w i (r - ((i : Nat) : Int) + 1))) rfl rfl ?_
          refine V_st (pc := 37) dL_lettered_37 (ls' := [(5, vi (lsE (fun k_ : Nat => mI m L k_) w i (r - ((i : Nat) : Int) + 1))), (6, vi (r - ((i : Nat) : Int))), (0, vr L), (1, vi (a : Int)), (2, vi r), (3, vi w), (4, vi 0)]) rfl (Nat.le_of_ble_eq_true rfl) rfl ?_
          refine V_iinc (pc := 39) dL_lettered_39 (x := (r - ((i : Nat) : Int))) (ls' := [(6, vi ((r - ((i : Nat) : Int)) + (-1))), (5, vi (lsE (fun k_ : Nat => mI m L k_) w i (r - ((i : Nat) : Int) + 1))), (0, vr L), (1, vi (a : Int)), (2, vi r), (3, vi w), (4, vi 0)]) rfl (by unfold I32 at *; omega) (Nat.le_of_ble_eq_true rfl) rfl ?_
          refine V_goto (pc := 42) dL_lettered_42 (tgt := 6) rfl ?_
          skip
          have h_ := ih (i + 1) (by omega)
          have e1_ : r - ((i + 1 : Nat) : Int) = r - (i : Int) - 1 := by omega
          have e3_ : r - ((i + 1 : Nat) : Int) + 1 = r - (i : Int) := by omega
          have e2_ : lsE (fun k_ : Nat => mI m L k_) w (i + 1) (r - (i : Int)) = lsE (fun k_ : Nat => mI m L k_) w i (r - ((i : Nat) : Int) + 1) := by
            rw [(lsE_top (le := (fun k_ : Nat => mI m L k_)) (w := w) i (r - (i : Int)) (by omega)).2]
            by_cases z0_ : 0 ≤ lsE (fun k_ : Nat => mI m L k_) w i (r - (i : Int) + 1)
            · rw [show r - (i : Int) + 1 = r - (i : Int) + 1 from rfl, if_pos z0_]
            · rw [if_neg z0_]
              first | (exfalso; omega) | (rw [if_neg (by show ¬ mI m L _ = w; omega)]; omega)
          rw [e3_, e1_, e2_] at h_
          exact h_

set_option maxHeartbeats 4000000 in
theorem w_let0 (a : Nat) (N : Nat) (m : Mem) (L : Nat) (r : Int) (w : Int)   (T_L : mT m L = (20, 40)) (hr : r + 1 = (a : Int) + (N : Int)) (hn : r < 7) : Ct μL_lettered 0 [vr L, vi ((a : Nat) : Int), vi r, vi w, vi 0] m (ri fun x_ m' => (x_ = lsE (fun k_ : Nat => mI m L k_) w N (a : Int)) ∧ m = m') := by
  refine Ct_of_V rfl (by decide) rfl (Nat.le_of_ble_eq_true rfl) ?_
  show V μL_lettered 0 m _ 0 [(0, vr L), (1, vi ((a : Nat) : Int)), (2, vi r), (3, vi w), (4, vi 0)] [] m
  refine V_iconst (pc := 0) dL_lettered_0 (by unfold I32; omega) ?_
  refine V_st (pc := 1) dL_lettered_1 (ls' := [(5, vi (-1)), (0, vr L), (1, vi ((a : Nat) : Int)), (2, vi r), (3, vi w), (4, vi 0)]) rfl (Nat.le_of_ble_eq_true rfl) rfl ?_
  refine V_ld (pc := 3) dL_lettered_3 (v := vi r) rfl rfl ?_
  refine V_st (pc := 4) dL_lettered_4 (ls' := [(6, vi r), (5, vi (-1)), (0, vr L), (1, vi ((a : Nat) : Int)), (2, vi r), (3, vi w), (4, vi 0)]) rfl (Nat.le_of_ble_eq_true rfl) rfl ?_
  skip
  refine V_ls (ls' := [(6, vi (r - ((0 : Nat) : Int))), (5, vi (lsE (fun k_ : Nat => mI m L k_) w 0 (r - ((0 : Nat) : Int) + 1))), (0, vr L), (1, vi (a : Int)), (2, vi r), (3, vi w), (4, vi 0)]) (by intro q_ h_; rw [show r - ((0 : Nat) : Int) = r by omega] at h_; exact h_) ?_
  refine L_let0 (F := 0) (m := m) T_L hr hn ?_ N 0 (by omega)
  refine V_ld (pc := 45) dL_lettered_45 (v := vi (lsE (fun k_ : Nat => mI m L k_) w N (r - ((N : Nat) : Int) + 1))) rfl rfl ?_
  refine V_reti (pc := 47) dL_lettered_47 trivial ?_
  exact ⟨by rw [show r - ((N : Nat) : Int) + 1 = (a : Int) by omega], rfl⟩
