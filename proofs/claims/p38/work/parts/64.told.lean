/-! told(): class and reference -/
def mskF (f : Nat → Bool) : Nat → Int
  | 0 => 0
  | i + 1 => if f i = true then or32 (mskF f i) (shl32 1 (i : Int)) else mskF f i
theorem mskF_bd {f : Nat → Bool} : ∀ i, i ≤ 26 → 0 ≤ mskF f i ∧ mskF f i < 67108864
  | 0, _ => ⟨Int.le_refl _, Int.lt_of_lt_of_le Int.zero_lt_one (by decide)⟩
  | i + 1, h => by
    have hi := mskF_bd (f := f) i (by omega)
    show 0 ≤ (if f i = true then or32 (mskF f i) (shl32 1 (i : Int)) else mskF f i) ∧ (if f i = true then or32 (mskF f i) (shl32 1 (i : Int)) else mskF f i) < 67108864
    by_cases c : f i = true
    · rw [if_pos c]; have := or_bit (w := 0) hi (show i < 26 by omega) (by decide); exact ⟨this.1, this.2.1⟩
    · rw [if_neg c]; exact hi
theorem mskF_y {f : Nat → Bool} {i : Nat} (h : f i = true) : or32 (mskF f i) (shl32 1 (i : Int)) = mskF f (i + 1) := (if_pos h).symm
theorem mskF_n {f : Nat → Bool} {i : Nat} (h : f i = false) : mskF f i = mskF f (i + 1) := (if_neg (by rw [h]; exact Bool.false_ne_true)).symm
theorem or32_0 {x : Int} (h : 0 ≤ x ∧ x < 67108864) : or32 x 0 = x := by
  rw [or32_nat (by omega) (by omega), show (0 : Int).toNat = 0 from rfl, Nat.or_zero, Int.toNat_of_nonneg h.1]
def cn0 (g : Nat → Int) : Nat → Int
  | 0 => 0
  | i + 1 => if g i = 0 then cn0 g i + 1 else cn0 g i
theorem cn0_bd {g : Nat → Int} : ∀ i : Nat, 0 ≤ cn0 g i ∧ cn0 g i ≤ i
  | 0 => ⟨Int.le_refl _, Int.le_refl _⟩
  | i + 1 => by
    have hi := cn0_bd (g := g) i
    show 0 ≤ (if g i = 0 then cn0 g i + 1 else cn0 g i) ∧ (if g i = 0 then cn0 g i + 1 else cn0 g i) ≤ ((i + 1 : Nat) : Int)
    by_cases c : g i = 0
    · rw [if_pos c]; omega
    · rw [if_neg c]; omega
theorem cn0_y {g : Nat → Int} {i : Nat} (h : g i = 0) : cn0 g i + 1 = cn0 g (i + 1) := (if_pos h).symm
theorem cn0_n {g : Nat → Int} {i : Nat} (h : ¬ g i = 0) : cn0 g i = cn0 g (i + 1) := (if_neg h).symm
def toldV (a : Nat → Int) (k : Int) : Int := if 0 ≤ k ∧ k ≤ 9 then a k.toNat else -1
theorem toldV_y {a : Nat → Int} {k : Int} (i : Nat) (h : k = (i : Int)) (h9 : i ≤ 9) : toldV a k = a i := by
  unfold toldV; rw [if_pos ⟨by omega, by omega⟩, show k.toNat = i from by omega]
theorem toldV_r {a : Nat → Int} {k x : Int} (i : Nat) (h : k = (i : Int)) (h9 : i ≤ 9) (e : x = a i) : x = toldV a k := e.trans (toldV_y i h h9).symm
theorem toldV_n {a : Nat → Int} {k : Int} (h : ¬ (0 ≤ k ∧ k ≤ 9)) : toldV a k = -1 := if_neg h

set_option maxHeartbeats 4000000 in
theorem L_lwc {F : Nat} {m0 m : Mem} {post : Option AV → Mem → Prop}  (hL : Lay (mT m) (mR m)) (kx : V μX7_lettersWithCondition F m0 post 31 [(2, vi ((26 : Nat) : Int)), (1, vi (mskF (fun j_ : Nat => (mR m 4 j_).isSome) 26)), (0, vr 1)] [] m) : ∀ (dd i : Nat), dd + i = 26 → V μX7_lettersWithCondition F m0 post 4 [(2, vi ((i : Nat) : Int)), (1, vi (mskF (fun j_ : Nat => (mR m 4 j_).isSome) i)), (0, vr 1)] [] m := by
  intro dd
  induction dd with
  | zero =>
    intro i hi
    obtain rfl : 26 = i := by omega
    have hb_ := mskF_bd (f := (fun j_ : Nat => (mR m 4 j_).isSome)) 26 (by omega)
    refine V_ld (pc := 4) dX7_lettersWithCondition_4 (v := vi ((26 : Nat) : Int)) rfl rfl ?_
    refine V_bipush (pc := 5) dX7_lettersWithCondition_5 (by unfold I32; omega) (by decide) ?_
    refine V_icmp_ge (pc := 7) dX7_lettersWithCondition_7 (tgt := 31) rfl (fun h7 => ?_) (fun h7 => ?_)
    · skip
      first | exact kx | (skip; exact kx) | (exfalso; omega)
    · skip
      refine V_ld (pc := 10) dX7_lettersWithCondition_10 (v := vr 1) rfl rfl ?_
      refine V_getRv (pc := 11) dX7_lettersWithCondition_11 (o' := 4) fw_RX7_20 rfl hL.t1 hL.r1_1 ?_
      refine V_ld (pc := 14) dX7_lettersWithCondition_14 (v := vi ((26 : Nat) : Int)) rfl rfl ?_
      refine V_aald (pc := 15) dX7_lettersWithCondition_15 hL.t4 (by decide) (by omega) ?_
      refine V_ifnull (pc := 16) dX7_lettersWithCondition_16 (tgt := 25) rfl (fun h16 => ?_) (fun o16 h16 => ?_)
      · skip
        refine V_iinc (pc := 25) dX7_lettersWithCondition_25 (x := ((26 : Nat) : Int)) (ls' := [(2, vi (((26 : Nat) : Int) + 1)), (1, vi (mskF (fun j_ : Nat => (mR m 4 j_).isSome) 26)), (0, vr 1)]) rfl (by unfold I32 at *; omega) (Nat.le_of_ble_eq_true rfl) rfl ?_
        refine V_goto (pc := 28) dX7_lettersWithCondition_28 (tgt := 4) rfl ?_
        exfalso; omega
      · skip
        refine V_ld (pc := 19) dX7_lettersWithCondition_19 (v := vi (mskF (fun j_ : Nat => (mR m 4 j_).isSome) 26)) rfl rfl ?_
        refine V_iconst (pc := 20) dX7_lettersWithCondition_20 (by unfold I32; omega) ?_
        refine V_ld (pc := 21) dX7_lettersWithCondition_21 (v := vi ((26 : Nat) : Int)) rfl rfl ?_
        refine V_ishl (pc := 22) dX7_lettersWithCondition_22 ?_
        refine V_ior (pc := 23) dX7_lettersWithCondition_23 ?_
        refine V_st (pc := 24) dX7_lettersWithCondition_24 (ls' := [(1, vi (or32 (mskF (fun j_ : Nat => (mR m 4 j_).isSome) 26) (shl32 1 ((26 : Nat) : Int)))), (2, vi ((26 : Nat) : Int)), (0, vr 1)]) rfl (Nat.le_of_ble_eq_true rfl) rfl ?_
        refine V_iinc (pc := 25) dX7_lettersWithCondition_25 (x := ((26 : Nat) : Int)) (ls' := [(2, vi (((26 : Nat) : Int) + 1)), (1, vi (or32 (mskF (fun j_ : Nat => (mR m 4 j_).isSome) 26) (shl32 1 ((26 : Nat) : Int)))), (0, vr 1)]) rfl (by unfold I32 at *; omega) (Nat.le_of_ble_eq_true rfl) rfl ?_
        refine V_goto (pc := 28) dX7_lettersWithCondition_28 (tgt := 4) rfl ?_
        exfalso; omega
  | succ dd ih =>
    intro i hi
    have hb_ := mskF_bd (f := (fun j_ : Nat => (mR m 4 j_).isSome)) i (by omega)
    refine V_ld (pc := 4) dX7_lettersWithCondition_4 (v := vi ((i : Nat) : Int)) rfl rfl ?_
    refine V_bipush (pc := 5) dX7_lettersWithCondition_5 (by unfold I32; omega) (by decide) ?_
    refine V_icmp_ge (pc := 7) dX7_lettersWithCondition_7 (tgt := 31) rfl (fun h7 => ?_) (fun h7 => ?_)
    · skip
      exfalso; omega
    · skip
      refine V_ld (pc := 10) dX7_lettersWithCondition_10 (v := vr 1) rfl rfl ?_
      refine V_getRv (pc := 11) dX7_lettersWithCondition_11 (o' := 4) fw_RX7_20 rfl hL.t1 hL.r1_1 ?_
      refine V_ld (pc := 14) dX7_lettersWithCondition_14 (v := vi ((i : Nat) : Int)) rfl rfl ?_
      refine V_aald (pc := 15) dX7_lettersWithCondition_15 hL.t4 (by decide) (by omega) ?_
      refine V_ifnull (pc := 16) dX7_lettersWithCondition_16 (tgt := 25) rfl (fun h16 => ?_) (fun o16 h16 => ?_)
      · skip
        refine V_iinc (pc := 25) dX7_lettersWithCondition_25 (x := ((i : Nat) : Int)) (ls' := [(2, vi (((i : Nat) : Int) + 1)), (1, vi (mskF (fun j_ : Nat => (mR m 4 j_).isSome) i)), (0, vr 1)]) rfl (by unfold I32 at *; omega) (Nat.le_of_ble_eq_true rfl) rfl ?_
        refine V_goto (pc := 28) dX7_lettersWithCondition_28 (tgt := 4) rfl ?_
        have hf_ : (mR m 4 i).isSome = false := by rw [show mR m 4 i = none from h16]; rfl
        skip
        have h_ := ih (i + 1) (by omega)
        rw [← mskF_n (f := (fun j_ : Nat => (mR m 4 j_).isSome)) (i := i) hf_] at h_
        exact h_
      · skip
        refine V_ld (pc := 19) dX7_lettersWithCondition_19 (v := vi (mskF (fun j_ : Nat => (mR m 4 j_).isSome) i)) rfl rfl ?_
        refine V_iconst (pc := 20) dX7_lettersWithCondition_20 (by unfold I32; omega) ?_
        refine V_ld (pc := 21) dX7_lettersWithCondition_21 (v := vi ((i : Nat) : Int)) rfl rfl ?_
        refine V_ishl (pc := 22) dX7_lettersWithCondition_22 ?_
        refine V_ior (pc := 23) dX7_lettersWithCondition_23 ?_
        refine V_st (pc := 24) dX7_lettersWithCondition_24 (ls' := [(1, vi (or32 (mskF (fun j_ : Nat => (mR m 4 j_).isSome) i) (shl32 1 ((i : Nat) : Int)))), (2, vi ((i : Nat) : Int)), (0, vr 1)]) rfl (Nat.le_of_ble_eq_true rfl) rfl ?_
        refine V_iinc (pc := 25) dX7_lettersWithCondition_25 (x := ((i : Nat) : Int)) (ls' := [(2, vi (((i : Nat) : Int) + 1)), (1, vi (or32 (mskF (fun j_ : Nat => (mR m 4 j_).isSome) i) (shl32 1 ((i : Nat) : Int)))), (0, vr 1)]) rfl (by unfold I32 at *; omega) (Nat.le_of_ble_eq_true rfl) rfl ?_
        refine V_goto (pc := 28) dX7_lettersWithCondition_28 (tgt := 4) rfl ?_
        have hf_ : (mR m 4 i).isSome = true := by rw [show mR m 4 i = some o16 from h16]; rfl
        skip
        have h_ := ih (i + 1) (by omega)
        rw [← mskF_y (f := (fun j_ : Nat => (mR m 4 j_).isSome)) (i := i) hf_] at h_
        exact h_

set_option maxHeartbeats 4000000 in
theorem c_lwc  (m : Mem)    (hL : Lay (mT m) (mR m)) : Ct μX7_lettersWithCondition 0 [vr 1] m (ri fun x_ m' => (x_ = mskF (fun j_ : Nat => (mR m 4 j_).isSome) 26) ∧ m = m') := by
  refine Ct_of_V rfl (by decide) rfl (Nat.le_of_ble_eq_true rfl) ?_
  show V μX7_lettersWithCondition 0 m _ 0 [(0, vr 1)] [] m
  refine V_iconst (pc := 0) dX7_lettersWithCondition_0 (by unfold I32; omega) ?_
  refine V_st (pc := 1) dX7_lettersWithCondition_1 (ls' := [(1, vi 0), (0, vr 1)]) rfl (Nat.le_of_ble_eq_true rfl) rfl ?_
  refine V_iconst (pc := 2) dX7_lettersWithCondition_2 (by unfold I32; omega) ?_
  refine V_st (pc := 3) dX7_lettersWithCondition_3 (ls' := [(2, vi 0), (1, vi 0), (0, vr 1)]) rfl (Nat.le_of_ble_eq_true rfl) rfl ?_
  skip
  refine L_lwc (m := m) hL ?_ 26 0 (by omega)
  refine V_ld (pc := 31) dX7_lettersWithCondition_31 (v := vi (mskF (fun j_ : Nat => (mR m 4 j_).isSome) 26)) rfl rfl ?_
  refine V_reti (pc := 32) dX7_lettersWithCondition_32 trivial ?_
  exact ⟨rfl, rfl⟩

set_option maxHeartbeats 4000000 in
theorem L_rinm {F : Nat} {m0 m : Mem} {post : Option AV → Mem → Prop} {M c n : Nat} (hL : Lay (mT m) (mR m)) (R_1_3 : mR m 1 3 = some M) (T_M : mT m M = (3, 4)) (R_M_2 : mR m M 2 = some c) (T_c : mT m c = (20, 1056)) (hs : 0 ≤ mI m M 3 ∧ mI m M 3 ≤ 33) (hn : (n : Int) = mI m 2 1) (hn3 : n ≤ 32) (kx : V μX10_rowsInNoMatch (F + 3) m0 post 41 [(2, vi ((n : Nat) : Int)), (1, vi (cn0 (fun i_ : Nat => covF (fun j_ : Nat => mI m c ((j_ : Int) * 32 + (i_ : Int)).toNat) (mI m M 3).toNat) n)), (0, vr 0)] [] m) : ∀ (dd i : Nat), dd + i = n → V μX10_rowsInNoMatch (F + 3) m0 post 4 [(2, vi ((i : Nat) : Int)), (1, vi (cn0 (fun i_ : Nat => covF (fun j_ : Nat => mI m c ((j_ : Int) * 32 + (i_ : Int)).toNat) (mI m M 3).toNat) i)), (0, vr 0)] [] m := by
  intro dd
  induction dd with
  | zero =>
    intro i hi
    obtain rfl : n = i := by omega
    have hb_ := cn0_bd (g := (fun i_ : Nat => covF (fun j_ : Nat => mI m c ((j_ : Int) * 32 + (i_ : Int)).toNat) (mI m M 3).toNat)) n
    refine V_ld (pc := 4) dX10_rowsInNoMatch_4 (v := vi ((n : Nat) : Int)) rfl rfl ?_
    refine V_ld (pc := 5) dX10_rowsInNoMatch_5 (v := vr 0) rfl rfl ?_
    refine V_getRv (pc := 6) dX10_rowsInNoMatch_6 (o' := 1) fw_RX10_12 rfl hL.t0 hL.r0_0 ?_
    refine V_getRv (pc := 9) dX10_rowsInNoMatch_9 (o' := 2) fw_RX10_55 rfl hL.t1 hL.r1_0 ?_
    refine V_getIv (pc := 12) dX10_rowsInNoMatch_12 (v := mI m 2 1) fw_RX10_59 rfl hL.t2 rfl (fun g12 => ?_)
    refine V_icmp_ge (pc := 15) dX10_rowsInNoMatch_15 (tgt := 41) rfl (fun h15 => ?_) (fun h15 => ?_)
    · skip
      first | exact kx | (skip; exact kx) | (exfalso; omega)
    · skip
      refine V_ld (pc := 18) dX10_rowsInNoMatch_18 (v := vr 0) rfl rfl ?_
      refine V_getRv (pc := 19) dX10_rowsInNoMatch_19 (o' := 1) fw_RX10_12 rfl hL.t0 hL.r0_0 ?_
      refine V_getRv (pc := 22) dX10_rowsInNoMatch_22 (o' := M) fw_RX10_69 rfl hL.t1 R_1_3 ?_
      refine V_ld (pc := 25) dX10_rowsInNoMatch_25 (v := vi ((n : Nat) : Int)) rfl rfl ?_
      refine V_callV (pc := 26) dX10_rowsInNoMatch_26 (F' := 2) (As := [vi ((n : Nat) : Int)]) (st := []) cw_RX10_211 rfl rfl T_M (by decide) (Nat.le_of_ble_eq_true rfl) (by omega) (c_covering  m M ((n : Nat) : Int) c  T_M R_M_2 T_c hs (by omega)) ?_
      rintro _ _ ⟨x26, rfl, hx26, rfl⟩ ok26 le26
      refine V_if_ne (pc := 29) dX10_rowsInNoMatch_29 (tgt := 35) rfl (fun h29 => ?_) (fun h29 => ?_)
      · skip
        refine V_iinc (pc := 35) dX10_rowsInNoMatch_35 (x := ((n : Nat) : Int)) (ls' := [(2, vi (((n : Nat) : Int) + 1)), (1, vi (cn0 (fun i_ : Nat => covF (fun j_ : Nat => mI m c ((j_ : Int) * 32 + (i_ : Int)).toNat) (mI m M 3).toNat) n)), (0, vr 0)]) rfl (by unfold I32 at *; omega) (Nat.le_of_ble_eq_true rfl) rfl ?_
        refine V_goto (pc := 38) dX10_rowsInNoMatch_38 (tgt := 4) rfl ?_
        exfalso; omega
      · skip
        refine V_iinc (pc := 32) dX10_rowsInNoMatch_32 (x := (cn0 (fun i_ : Nat => covF (fun j_ : Nat => mI m c ((j_ : Int) * 32 + (i_ : Int)).toNat) (mI m M 3).toNat) n)) (ls' := [(1, vi ((cn0 (fun i_ : Nat => covF (fun j_ : Nat => mI m c ((j_ : Int) * 32 + (i_ : Int)).toNat) (mI m M 3).toNat) n) + 1)), (2, vi ((n : Nat) : Int)), (0, vr 0)]) rfl (by unfold I32 at *; omega) (Nat.le_of_ble_eq_true rfl) rfl ?_
        refine V_iinc (pc := 35) dX10_rowsInNoMatch_35 (x := ((n : Nat) : Int)) (ls' := [(2, vi (((n : Nat) : Int) + 1)), (1, vi ((cn0 (fun i_ : Nat => covF (fun j_ : Nat => mI m c ((j_ : Int) * 32 + (i_ : Int)).toNat) (mI m M 3).toNat) n) + 1)), (0, vr 0)]) rfl (by unfold I32 at *; omega) (Nat.le_of_ble_eq_true rfl) rfl ?_
        refine V_goto (pc := 38) dX10_rowsInNoMatch_38 (tgt := 4) rfl ?_
        exfalso; omega
  | succ dd ih =>
    intro i hi
    have hb_ := cn0_bd (g := (fun i_ : Nat => covF (fun j_ : Nat => mI m c ((j_ : Int) * 32 + (i_ : Int)).toNat) (mI m M 3).toNat)) i
    refine V_ld (pc := 4) dX10_rowsInNoMatch_4 (v := vi ((i : Nat) : Int)) rfl rfl ?_
    refine V_ld (pc := 5) dX10_rowsInNoMatch_5 (v := vr 0) rfl rfl ?_
    refine V_getRv (pc := 6) dX10_rowsInNoMatch_6 (o' := 1) fw_RX10_12 rfl hL.t0 hL.r0_0 ?_
    refine V_getRv (pc := 9) dX10_rowsInNoMatch_9 (o' := 2) fw_RX10_55 rfl hL.t1 hL.r1_0 ?_
    refine V_getIv (pc := 12) dX10_rowsInNoMatch_12 (v := mI m 2 1) fw_RX10_59 rfl hL.t2 rfl (fun g12 => ?_)
    refine V_icmp_ge (pc := 15) dX10_rowsInNoMatch_15 (tgt := 41) rfl (fun h15 => ?_) (fun h15 => ?_)
    · skip
      exfalso; omega
    · skip
      refine V_ld (pc := 18) dX10_rowsInNoMatch_18 (v := vr 0) rfl rfl ?_
      refine V_getRv (pc := 19) dX10_rowsInNoMatch_19 (o' := 1) fw_RX10_12 rfl hL.t0 hL.r0_0 ?_
      refine V_getRv (pc := 22) dX10_rowsInNoMatch_22 (o' := M) fw_RX10_69 rfl hL.t1 R_1_3 ?_
      refine V_ld (pc := 25) dX10_rowsInNoMatch_25 (v := vi ((i : Nat) : Int)) rfl rfl ?_
      refine V_callV (pc := 26) dX10_rowsInNoMatch_26 (F' := 2) (As := [vi ((i : Nat) : Int)]) (st := []) cw_RX10_211 rfl rfl T_M (by decide) (Nat.le_of_ble_eq_true rfl) (by omega) (c_covering  m M ((i : Nat) : Int) c  T_M R_M_2 T_c hs (by omega)) ?_
      rintro _ _ ⟨x26, rfl, hx26, rfl⟩ ok26 le26
      refine V_if_ne (pc := 29) dX10_rowsInNoMatch_29 (tgt := 35) rfl (fun h29 => ?_) (fun h29 => ?_)
      · skip
        refine V_iinc (pc := 35) dX10_rowsInNoMatch_35 (x := ((i : Nat) : Int)) (ls' := [(2, vi (((i : Nat) : Int) + 1)), (1, vi (cn0 (fun i_ : Nat => covF (fun j_ : Nat => mI m c ((j_ : Int) * 32 + (i_ : Int)).toNat) (mI m M 3).toNat) i)), (0, vr 0)]) rfl (by unfold I32 at *; omega) (Nat.le_of_ble_eq_true rfl) rfl ?_
        refine V_goto (pc := 38) dX10_rowsInNoMatch_38 (tgt := 4) rfl ?_
        have hg_ : ¬ (fun i_ : Nat => covF (fun j_ : Nat => mI m c ((j_ : Int) * 32 + (i_ : Int)).toNat) (mI m M 3).toNat) i = 0 := by
          show ¬ covF (fun j_ : Nat => mI m c ((j_ : Int) * 32 + (i : Int)).toNat) (mI m M 3).toNat = 0
          omega
        skip
        have h_ := ih (i + 1) (by omega)
        rw [← cn0_n (g := (fun i_ : Nat => covF (fun j_ : Nat => mI m c ((j_ : Int) * 32 + (i_ : Int)).toNat) (mI m M 3).toNat)) (i := i) hg_] at h_
        exact h_
      · skip
        refine V_iinc (pc := 32) dX10_rowsInNoMatch_32 (x := (cn0 (fun i_ : Nat => covF (fun j_ : Nat => mI m c ((j_ : Int) * 32 + (i_ : Int)).toNat) (mI m M 3).toNat) i)) (ls' := [(1, vi ((cn0 (fun i_ : Nat => covF (fun j_ : Nat => mI m c ((j_ : Int) * 32 + (i_ : Int)).toNat) (mI m M 3).toNat) i) + 1)), (2, vi ((i : Nat) : Int)), (0, vr 0)]) rfl (by unfold I32 at *; omega) (Nat.le_of_ble_eq_true rfl) rfl ?_
        refine V_iinc (pc := 35) dX10_rowsInNoMatch_35 (x := ((i : Nat) : Int)) (ls' := [(2, vi (((i : Nat) : Int) + 1)), (1, vi ((cn0 (fun i_ : Nat => covF (fun j_ : Nat => mI m c ((j_ : Int) * 32 + (i_ : Int)).toNat) (mI m M 3).toNat) i) + 1)), (0, vr 0)]) rfl (by unfold I32 at *; omega) (Nat.le_of_ble_eq_true rfl) rfl ?_
        refine V_goto (pc := 38) dX10_rowsInNoMatch_38 (tgt := 4) rfl ?_
        have hg_ : (fun i_ : Nat => covF (fun j_ : Nat => mI m c ((j_ : Int) * 32 + (i_ : Int)).toNat) (mI m M 3).toNat) i = 0 := by
          show covF (fun j_ : Nat => mI m c ((j_ : Int) * 32 + (i : Int)).toNat) (mI m M 3).toNat = 0
          omega
        skip
        have h_ := ih (i + 1) (by omega)
        rw [← cn0_y (g := (fun i_ : Nat => covF (fun j_ : Nat => mI m c ((j_ : Int) * 32 + (i_ : Int)).toNat) (mI m M 3).toNat)) (i := i) hg_] at h_
        exact h_

set_option maxHeartbeats 4000000 in
theorem c_rinm  (m : Mem)  (M : Nat) (a : Nat) (b : Nat) (c : Nat)  (hL : Lay (mT m) (mR m)) (R_1_3 : mR m 1 3 = some M) (T_M : mT m M = (3, 4)) (R_M_0 : mR m M 0 = some a) (R_M_1 : mR m M 1 = some b) (R_M_2 : mR m M 2 = some c) (T_a : mT m a = (20, 33)) (T_b : mT m b = (20, 33)) (T_c : mT m c = (20, 1056)) (hn : 0 ≤ mI m M 3 ∧ mI m M 3 ≤ 33) (hz : 0 ≤ mI m 2 1 ∧ mI m 2 1 ≤ 32) : Ct μX10_rowsInNoMatch 3 [vr 0] m (ri fun x_ m' => (x_ = cn0 (fun i_ : Nat => covF (fun j_ : Nat => mI m c ((j_ : Int) * 32 + (i_ : Int)).toNat) (mI m M 3).toNat) (mI m 2 1).toNat) ∧ m = m') := by
  refine Ct_of_V rfl (by decide) rfl (Nat.le_of_ble_eq_true rfl) ?_
  show V μX10_rowsInNoMatch 3 m _ 0 [(0, vr 0)] [] m
  refine V_iconst (pc := 0) dX10_rowsInNoMatch_0 (by unfold I32; omega) ?_
  refine V_st (pc := 1) dX10_rowsInNoMatch_1 (ls' := [(1, vi 0), (0, vr 0)]) rfl (Nat.le_of_ble_eq_true rfl) rfl ?_
  refine V_iconst (pc := 2) dX10_rowsInNoMatch_2 (by unfold I32; omega) ?_
  refine V_st (pc := 3) dX10_rowsInNoMatch_3 (ls' := [(2, vi 0), (1, vi 0), (0, vr 0)]) rfl (Nat.le_of_ble_eq_true rfl) rfl ?_
  skip
  refine L_rinm (F := 0) (m := m) (M := M) (c := c) (n := (mI m 2 1).toNat) hL R_1_3 T_M R_M_2 T_c (by omega) (by omega) (by omega) ?_ (mI m 2 1).toNat 0 (by omega)
  refine V_ld (pc := 41) dX10_rowsInNoMatch_41 (v := vi (cn0 (fun i_ : Nat => covF (fun j_ : Nat => mI m c ((j_ : Int) * 32 + (i_ : Int)).toNat) (mI m M 3).toNat) ((mI m 2 1).toNat))) rfl rfl ?_
  refine V_reti (pc := 42) dX10_rowsInNoMatch_42 trivial ?_
  exact ⟨rfl, rfl⟩

set_option maxHeartbeats 4000000 in
theorem c_toldN  (m : Mem) (k : Int) (M : Nat) (a : Nat) (b : Nat) (c : Nat)  (hL : Lay (mT m) (mR m)) (R_1_3 : mR m 1 3 = some M) (T_M : mT m M = (3, 4)) (R_M_0 : mR m M 0 = some a) (R_M_1 : mR m M 1 = some b) (R_M_2 : mR m M 2 = some c) (T_a : mT m a = (20, 33)) (T_b : mT m b = (20, 33)) (T_c : mT m c = (20, 1056)) (hn : 0 ≤ mI m M 3 ∧ mI m M 3 ≤ 33) (hz : 0 ≤ mI m 2 1 ∧ mI m 2 1 ≤ 32) (hq : mR m 1 2 = none) : Ct μX10_told 4 [vr 0, vi k] m (ri fun x_ m' => (x_ = toldV (fun i_ : Nat => match i_ with | 0 => mI m 2 1 | 1 => 0 | 2 => mI m M 3 | 3 => mI m 1 4 | 4 => mI m 1 5 | 5 => mI m 1 6 | 6 => mI m 1 7 | 7 => mskF (fun j_ : Nat => (mR m 4 j_).isSome) 26 | 8 => cn0 (fun i_ : Nat => covF (fun j_ : Nat => mI m c ((j_ : Int) * 32 + (i_ : Int)).toNat) (mI m M 3).toNat) (mI m 2 1).toNat | _ => mI m 13 1) k) ∧ m = m') := by
  refine Ct_of_V rfl (by decide) rfl (Nat.le_of_ble_eq_true rfl) ?_
  show V μX10_told 4 m _ 0 [(0, vr 0), (1, vi k)] [] m
  refine V_rg (k := 1) (x := k) rfl fun r_k => ?_
  refine V_ld (pc := 0) dX10_told_0 (v := vi k) rfl rfl ?_
  by_cases h1_0 : k = 0
  · skip
    refine V_tsIn (pc := 1) dX10_told_1 (cx := 0) (off := 55) (tgt := 56) h1_0 (by omega) rfl rfl ?_
    refine V_ld (pc := 56) dX10_told_56 (v := vr 0) rfl rfl ?_
    refine V_getRv (pc := 57) dX10_told_57 (o' := 1) fw_RX10_12 rfl hL.t0 hL.r0_0 ?_
    refine V_getRv (pc := 60) dX10_told_60 (o' := 2) fw_RX10_55 rfl hL.t1 hL.r1_0 ?_
    refine V_getIv (pc := 63) dX10_told_63 (v := mI m 2 1) fw_RX10_59 rfl hL.t2 rfl (fun g63 => ?_)
    refine V_reti (pc := 66) dX10_told_66 trivial ?_
    first
      | (exfalso; omega)
      | exact ⟨(toldV_n (k := k) (by omega)).symm, rfl⟩
      | exact ⟨toldV_r 0 (by omega) (by decide) rfl, rfl⟩
      | exact ⟨toldV_r 1 (by omega) (by decide) rfl, rfl⟩
      | exact ⟨toldV_r 2 (by omega) (by decide) rfl, rfl⟩
      | exact ⟨toldV_r 3 (by omega) (by decide) rfl, rfl⟩
      | exact ⟨toldV_r 4 (by omega) (by decide) rfl, rfl⟩
      | exact ⟨toldV_r 5 (by omega) (by decide) rfl, rfl⟩
      | exact ⟨toldV_r 6 (by omega) (by decide) rfl, rfl⟩
      | exact ⟨toldV_r 7 (by omega) (by decide) rfl, rfl⟩
      | exact ⟨toldV_r 8 (by omega) (by decide) rfl, rfl⟩
      | exact ⟨toldV_r 9 (by omega) (by decide) rfl, rfl⟩
  by_cases h1_1 : k = 1
  · skip
    refine V_tsIn (pc := 1) dX10_told_1 (cx := 1) (off := 66) (tgt := 67) h1_1 (by omega) rfl rfl ?_
    refine V_ld (pc := 67) dX10_told_67 (v := vr 0) rfl rfl ?_
    refine V_getRv (pc := 68) dX10_told_68 (o' := 1) fw_RX10_12 rfl hL.t0 hL.r0_0 ?_
    refine V_getRq (pc := 71) dX10_told_71 (q := none) fw_RX10_103 rfl hL.t1 hq ?_
    refine V_ifnonnull (pc := 74) dX10_told_74 (tgt := 81) rfl (fun _ h_ => by cases h_) (fun _ => ?_)
    refine V_iconst (pc := 77) dX10_told_77 (by unfold I32; omega) ?_
    refine V_goto (pc := 78) dX10_told_78 (tgt := 91) rfl ?_
    refine V_reti (pc := 91) dX10_told_91 trivial ?_
    first
      | (exfalso; omega)
      | exact ⟨(toldV_n (k := k) (by omega)).symm, rfl⟩
      | exact ⟨toldV_r 0 (by omega) (by decide) rfl, rfl⟩
      | exact ⟨toldV_r 1 (by omega) (by decide) rfl, rfl⟩
      | exact ⟨toldV_r 2 (by omega) (by decide) rfl, rfl⟩
      | exact ⟨toldV_r 3 (by omega) (by decide) rfl, rfl⟩
      | exact ⟨toldV_r 4 (by omega) (by decide) rfl, rfl⟩
      | exact ⟨toldV_r 5 (by omega) (by decide) rfl, rfl⟩
      | exact ⟨toldV_r 6 (by omega) (by decide) rfl, rfl⟩
      | exact ⟨toldV_r 7 (by omega) (by decide) rfl, rfl⟩
      | exact ⟨toldV_r 8 (by omega) (by decide) rfl, rfl⟩
      | exact ⟨toldV_r 9 (by omega) (by decide) rfl, rfl⟩
  by_cases h1_2 : k = 2
  · skip
    refine V_tsIn (pc := 1) dX10_told_1 (cx := 2) (off := 91) (tgt := 92) h1_2 (by omega) rfl rfl ?_
    refine V_ld (pc := 92) dX10_told_92 (v := vr 0) rfl rfl ?_
    refine V_getRv (pc := 93) dX10_told_93 (o' := 1) fw_RX10_12 rfl hL.t0 hL.r0_0 ?_
    refine V_getRv (pc := 96) dX10_told_96 (o' := M) fw_RX10_69 rfl hL.t1 R_1_3 ?_
    refine V_getIv (pc := 99) dX10_told_99 (v := mI m M 3) fw_RX10_72 rfl T_M rfl (fun g99 => ?_)
    refine V_reti (pc := 102) dX10_told_102 trivial ?_
    first
      | (exfalso; omega)
      | exact ⟨(toldV_n (k := k) (by omega)).symm, rfl⟩
      | exact ⟨toldV_r 0 (by omega) (by decide) rfl, rfl⟩
      | exact ⟨toldV_r 1 (by omega) (by decide) rfl, rfl⟩
      | exact ⟨toldV_r 2 (by omega) (by decide) rfl, rfl⟩
      | exact ⟨toldV_r 3 (by omega) (by decide) rfl, rfl⟩
      | exact ⟨toldV_r 4 (by omega) (by decide) rfl, rfl⟩
      | exact ⟨toldV_r 5 (by omega) (by decide) rfl, rfl⟩
      | exact ⟨toldV_r 6 (by omega) (by decide) rfl, rfl⟩
      | exact ⟨toldV_r 7 (by omega) (by decide) rfl, rfl⟩
      | exact ⟨toldV_r 8 (by omega) (by decide) rfl, rfl⟩
      | exact ⟨toldV_r 9 (by omega) (by decide) rfl, rfl⟩
  by_cases h1_3 : k = 3
  · skip
    refine V_tsIn (pc := 1) dX10_told_1 (cx := 3) (off := 102) (tgt := 103) h1_3 (by omega) rfl rfl ?_
    refine V_ld (pc := 103) dX10_told_103 (v := vr 0) rfl rfl ?_
    refine V_getRv (pc := 104) dX10_told_104 (o' := 1) fw_RX10_12 rfl hL.t0 hL.r0_0 ?_
    refine V_getIv (pc := 107) dX10_told_107 (v := mI m 1 4) fw_RX10_141 rfl hL.t1 rfl (fun g107 => ?_)
    refine V_reti (pc := 110) dX10_told_110 trivial ?_
    first
      | (exfalso; omega)
      | exact ⟨(toldV_n (k := k) (by omega)).symm, rfl⟩
      | exact ⟨toldV_r 0 (by omega) (by decide) rfl, rfl⟩
      | exact ⟨toldV_r 1 (by omega) (by decide) rfl, rfl⟩
      | exact ⟨toldV_r 2 (by omega) (by decide) rfl, rfl⟩
      | exact ⟨toldV_r 3 (by omega) (by decide) rfl, rfl⟩
      | exact ⟨toldV_r 4 (by omega) (by decide) rfl, rfl⟩
      | exact ⟨toldV_r 5 (by omega) (by decide) rfl, rfl⟩
      | exact ⟨toldV_r 6 (by omega) (by decide) rfl, rfl⟩
      | exact ⟨toldV_r 7 (by omega) (by decide) rfl, rfl⟩
      | exact ⟨toldV_r 8 (by omega) (by decide) rfl, rfl⟩
      | exact ⟨toldV_r 9 (by omega) (by decide) rfl, rfl⟩
  by_cases h1_4 : k = 4
  · skip
    refine V_tsIn (pc := 1) dX10_told_1 (cx := 4) (off := 110) (tgt := 111) h1_4 (by omega) rfl rfl ?_
    refine V_ld (pc := 111) dX10_told_111 (v := vr 0) rfl rfl ?_
    refine V_getRv (pc := 112) dX10_told_112 (o' := 1) fw_RX10_12 rfl hL.t0 hL.r0_0 ?_
    refine V_getIv (pc := 115) dX10_told_115 (v := mI m 1 5) fw_RX10_138 rfl hL.t1 rfl (fun g115 => ?_)
    refine V_reti (pc := 118) dX10_told_118 trivial ?_
    first
      | (exfalso; omega)
      | exact ⟨(toldV_n (k := k) (by omega)).symm, rfl⟩
      | exact ⟨toldV_r 0 (by omega) (by decide) rfl, rfl⟩
      | exact ⟨toldV_r 1 (by omega) (by decide) rfl, rfl⟩
      | exact ⟨toldV_r 2 (by omega) (by decide) rfl, rfl⟩
      | exact ⟨toldV_r 3 (by omega) (by decide) rfl, rfl⟩
      | exact ⟨toldV_r 4 (by omega) (by decide) rfl, rfl⟩
      | exact ⟨toldV_r 5 (by omega) (by decide) rfl, rfl⟩
      | exact ⟨toldV_r 6 (by omega) (by decide) rfl, rfl⟩
      | exact ⟨toldV_r 7 (by omega) (by decide) rfl, rfl⟩
      | exact ⟨toldV_r 8 (by omega) (by decide) rfl, rfl⟩
      | exact ⟨toldV_r 9 (by omega) (by decide) rfl, rfl⟩
  by_cases h1_5 : k = 5
  · skip
    refine V_tsIn (pc := 1) dX10_told_1 (cx := 5) (off := 118) (tgt := 119) h1_5 (by omega) rfl rfl ?_
    refine V_ld (pc := 119) dX10_told_119 (v := vr 0) rfl rfl ?_
    refine V_getRv (pc := 120) dX10_told_120 (o' := 1) fw_RX10_12 rfl hL.t0 hL.r0_0 ?_
    refine V_getIv (pc := 123) dX10_told_123 (v := mI m 1 6) fw_RX10_144 rfl hL.t1 rfl (fun g123 => ?_)
    refine V_reti (pc := 126) dX10_told_126 trivial ?_
    first
      | (exfalso; omega)
      | exact ⟨(toldV_n (k := k) (by omega)).symm, rfl⟩
      | exact ⟨toldV_r 0 (by omega) (by decide) rfl, rfl⟩
      | exact ⟨toldV_r 1 (by omega) (by decide) rfl, rfl⟩
      | exact ⟨toldV_r 2 (by omega) (by decide) rfl, rfl⟩
      | exact ⟨toldV_r 3 (by omega) (by decide) rfl, rfl⟩
      | exact ⟨toldV_r 4 (by omega) (by decide) rfl, rfl⟩
      | exact ⟨toldV_r 5 (by omega) (by decide) rfl, rfl⟩
      | exact ⟨toldV_r 6 (by omega) (by decide) rfl, rfl⟩
      | exact ⟨toldV_r 7 (by omega) (by decide) rfl, rfl⟩
      | exact ⟨toldV_r 8 (by omega) (by decide) rfl, rfl⟩
      | exact ⟨toldV_r 9 (by omega) (by decide) rfl, rfl⟩
  by_cases h1_6 : k = 6
  · skip
    refine V_tsIn (pc := 1) dX10_told_1 (cx := 6) (off := 126) (tgt := 127) h1_6 (by omega) rfl rfl ?_
    refine V_ld (pc := 127) dX10_told_127 (v := vr 0) rfl rfl ?_
    refine V_getRv (pc := 128) dX10_told_128 (o' := 1) fw_RX10_12 rfl hL.t0 hL.r0_0 ?_
    refine V_getIv (pc := 131) dX10_told_131 (v := mI m 1 7) fw_RX10_147 rfl hL.t1 rfl (fun g131 => ?_)
    refine V_reti (pc := 134) dX10_told_134 trivial ?_
    first
      | (exfalso; omega)
      | exact ⟨(toldV_n (k := k) (by omega)).symm, rfl⟩
      | exact ⟨toldV_r 0 (by omega) (by decide) rfl, rfl⟩
      | exact ⟨toldV_r 1 (by omega) (by decide) rfl, rfl⟩
      | exact ⟨toldV_r 2 (by omega) (by decide) rfl, rfl⟩
      | exact ⟨toldV_r 3 (by omega) (by decide) rfl, rfl⟩
      | exact ⟨toldV_r 4 (by omega) (by decide) rfl, rfl⟩
      | exact ⟨toldV_r 5 (by omega) (by decide) rfl, rfl⟩
      | exact ⟨toldV_r 6 (by omega) (by decide) rfl, rfl⟩
      | exact ⟨toldV_r 7 (by omega) (by decide) rfl, rfl⟩
      | exact ⟨toldV_r 8 (by omega) (by decide) rfl, rfl⟩
      | exact ⟨toldV_r 9 (by omega) (by decide) rfl, rfl⟩
  by_cases h1_7 : k = 7
  · skip
    refine V_tsIn (pc := 1) dX10_told_1 (cx := 7) (off := 134) (tgt := 135) h1_7 (by omega) rfl rfl ?_
    refine V_ld (pc := 135) dX10_told_135 (v := vr 0) rfl rfl ?_
    refine V_getRv (pc := 136) dX10_told_136 (o' := 1) fw_RX10_12 rfl hL.t0 hL.r0_0 ?_
    refine V_callV (pc := 139) dX10_told_139 (F' := 0) (As := []) (st := []) cw_RX10_214 rfl rfl hL.t1 (by decide) (Nat.le_of_ble_eq_true rfl) (by omega) (c_lwc  m    (by first | assumption | omega)) ?_
    rintro _ _ ⟨x139, rfl, rfl, rfl⟩ ok139 le139
    refine V_reti (pc := 142) dX10_told_142 trivial ?_
    first
      | (exfalso; omega)
      | exact ⟨(toldV_n (k := k) (by omega)).symm, rfl⟩
      | exact ⟨toldV_r 0 (by omega) (by decide) rfl, rfl⟩
      | exact ⟨toldV_r 1 (by omega) (by decide) rfl, rfl⟩
      | exact ⟨toldV_r 2 (by omega) (by decide) rfl, rfl⟩
      | exact ⟨toldV_r 3 (by omega) (by decide) rfl, rfl⟩
      | exact ⟨toldV_r 4 (by omega) (by decide) rfl, rfl⟩
      | exact ⟨toldV_r 5 (by omega) (by decide) rfl, rfl⟩
      | exact ⟨toldV_r 6 (by omega) (by decide) rfl, rfl⟩
      | exact ⟨toldV_r 7 (by omega) (by decide) rfl, rfl⟩
      | exact ⟨toldV_r 8 (by omega) (by decide) rfl, rfl⟩
      | exact ⟨toldV_r 9 (by omega) (by decide) rfl, rfl⟩
  by_cases h1_8 : k = 8
  · skip
    refine V_tsIn (pc := 1) dX10_told_1 (cx := 8) (off := 142) (tgt := 143) h1_8 (by omega) rfl rfl ?_
    refine V_ld (pc := 143) dX10_told_143 (v := vr 0) rfl rfl ?_
    refine V_callV (pc := 144) dX10_told_144 (F' := 3) (As := []) (st := []) cw_RX10_217 rfl rfl hL.t0 (by decide) (Nat.le_of_ble_eq_true rfl) (by omega) (c_rinm  m  M a b c  (by first | assumption | omega) R_1_3 T_M R_M_0 R_M_1 R_M_2 T_a T_b T_c (by first | assumption | omega) (by first | assumption | omega)) ?_
    rintro _ _ ⟨x144, rfl, rfl, rfl⟩ ok144 le144
    refine V_reti (pc := 147) dX10_told_147 trivial ?_
    first
      | (exfalso; omega)
      | exact ⟨(toldV_n (k := k) (by omega)).symm, rfl⟩
      | exact ⟨toldV_r 0 (by omega) (by decide) rfl, rfl⟩
      | exact ⟨toldV_r 1 (by omega) (by decide) rfl, rfl⟩
      | exact ⟨toldV_r 2 (by omega) (by decide) rfl, rfl⟩
      | exact ⟨toldV_r 3 (by omega) (by decide) rfl, rfl⟩
      | exact ⟨toldV_r 4 (by omega) (by decide) rfl, rfl⟩
      | exact ⟨toldV_r 5 (by omega) (by decide) rfl, rfl⟩
      | exact ⟨toldV_r 6 (by omega) (by decide) rfl, rfl⟩
      | exact ⟨toldV_r 7 (by omega) (by decide) rfl, rfl⟩
      | exact ⟨toldV_r 8 (by omega) (by decide) rfl, rfl⟩
      | exact ⟨toldV_r 9 (by omega) (by decide) rfl, rfl⟩
  by_cases h1_9 : k = 9
  · skip
    refine V_tsIn (pc := 1) dX10_told_1 (cx := 9) (off := 147) (tgt := 148) h1_9 (by omega) rfl rfl ?_
    refine V_ld (pc := 148) dX10_told_148 (v := vr 0) rfl rfl ?_
    refine V_getRv (pc := 149) dX10_told_149 (o' := 13) fw_RX10_30 rfl hL.t0 hL.r0_2 ?_
    refine V_getIv (pc := 152) dX10_told_152 (v := mI m 13 1) fw_RX10_86 rfl hL.t13 rfl (fun g152 => ?_)
    refine V_reti (pc := 155) dX10_told_155 trivial ?_
    first
      | (exfalso; omega)
      | exact ⟨(toldV_n (k := k) (by omega)).symm, rfl⟩
      | exact ⟨toldV_r 0 (by omega) (by decide) rfl, rfl⟩
      | exact ⟨toldV_r 1 (by omega) (by decide) rfl, rfl⟩
      | exact ⟨toldV_r 2 (by omega) (by decide) rfl, rfl⟩
      | exact ⟨toldV_r 3 (by omega) (by decide) rfl, rfl⟩
      | exact ⟨toldV_r 4 (by omega) (by decide) rfl, rfl⟩
      | exact ⟨toldV_r 5 (by omega) (by decide) rfl, rfl⟩
      | exact ⟨toldV_r 6 (by omega) (by decide) rfl, rfl⟩
      | exact ⟨toldV_r 7 (by omega) (by decide) rfl, rfl⟩
      | exact ⟨toldV_r 8 (by omega) (by decide) rfl, rfl⟩
      | exact ⟨toldV_r 9 (by omega) (by decide) rfl, rfl⟩
  refine V_tsOut (pc := 1) dX10_told_1 (tgt := 156) (by omega) rfl ?_
  refine V_iconst (pc := 156) dX10_told_156 (by unfold I32; omega) ?_
  refine V_reti (pc := 157) dX10_told_157 trivial ?_
  first
    | (exfalso; omega)
    | exact ⟨(toldV_n (k := k) (by omega)).symm, rfl⟩
    | exact ⟨toldV_r 0 (by omega) (by decide) rfl, rfl⟩
    | exact ⟨toldV_r 1 (by omega) (by decide) rfl, rfl⟩
    | exact ⟨toldV_r 2 (by omega) (by decide) rfl, rfl⟩
    | exact ⟨toldV_r 3 (by omega) (by decide) rfl, rfl⟩
    | exact ⟨toldV_r 4 (by omega) (by decide) rfl, rfl⟩
    | exact ⟨toldV_r 5 (by omega) (by decide) rfl, rfl⟩
    | exact ⟨toldV_r 6 (by omega) (by decide) rfl, rfl⟩
    | exact ⟨toldV_r 7 (by omega) (by decide) rfl, rfl⟩
    | exact ⟨toldV_r 8 (by omega) (by decide) rfl, rfl⟩
    | exact ⟨toldV_r 9 (by omega) (by decide) rfl, rfl⟩

set_option maxHeartbeats 4000000 in
theorem c_toldS (P : Nat) (F : Tb) (cn : Nat) (m : Mem) (k : Int) (M : Nat) (a : Nat) (b : Nat) (c : Nat)  (hL : Lay (mT m) (mR m)) (R_1_3 : mR m 1 3 = some M) (T_M : mT m M = (3, 4)) (R_M_0 : mR m M 0 = some a) (R_M_1 : mR m M 1 = some b) (R_M_2 : mR m M 2 = some c) (T_a : mT m a = (20, 33)) (T_b : mT m b = (20, 33)) (T_c : mT m c = (20, 1056)) (hn : 0 ≤ mI m M 3 ∧ mI m M 3 ≤ 33) (hz : 0 ≤ mI m 2 1 ∧ mI m 2 1 ≤ 32) (hq : mR m 1 2 = some P ∧ HasP m P F cn) : Ct μX10_told 4 [vr 0, vi k] m (ri fun x_ m' => (x_ = toldV (fun i_ : Nat => match i_ with | 0 => mI m 2 1 | 1 => (cn : Int) | 2 => mI m M 3 | 3 => mI m 1 4 | 4 => mI m 1 5 | 5 => mI m 1 6 | 6 => mI m 1 7 | 7 => mskF (fun j_ : Nat => (mR m 4 j_).isSome) 26 | 8 => cn0 (fun i_ : Nat => covF (fun j_ : Nat => mI m c ((j_ : Int) * 32 + (i_ : Int)).toNat) (mI m M 3).toNat) (mI m 2 1).toNat | _ => mI m 13 1) k) ∧ m = m') := by
  refine Ct_of_V rfl (by decide) rfl (Nat.le_of_ble_eq_true rfl) ?_
  show V μX10_told 4 m _ 0 [(0, vr 0), (1, vi k)] [] m
  refine V_rg (k := 1) (x := k) rfl fun r_k => ?_
  obtain ⟨hq0, A, L, hq1, hq2, hq3, hq4, hq5, hq6, hq7, hq8, hq9, hq10, hq11, hq12⟩ := hq
  refine V_ld (pc := 0) dX10_told_0 (v := vi k) rfl rfl ?_
  by_cases h1_0 : k = 0
  · skip
    refine V_tsIn (pc := 1) dX10_told_1 (cx := 0) (off := 55) (tgt := 56) h1_0 (by omega) rfl rfl ?_
    refine V_ld (pc := 56) dX10_told_56 (v := vr 0) rfl rfl ?_
    refine V_getRv (pc := 57) dX10_told_57 (o' := 1) fw_RX10_12 rfl hL.t0 hL.r0_0 ?_
    refine V_getRv (pc := 60) dX10_told_60 (o' := 2) fw_RX10_55 rfl hL.t1 hL.r1_0 ?_
    refine V_getIv (pc := 63) dX10_told_63 (v := mI m 2 1) fw_RX10_59 rfl hL.t2 rfl (fun g63 => ?_)
    refine V_reti (pc := 66) dX10_told_66 trivial ?_
    first
      | (exfalso; omega)
      | exact ⟨(toldV_n (k := k) (by omega)).symm, rfl⟩
      | exact ⟨toldV_r 0 (by omega) (by decide) rfl, rfl⟩
      | exact ⟨toldV_r 1 (by omega) (by decide) rfl, rfl⟩
      | exact ⟨toldV_r 2 (by omega) (by decide) rfl, rfl⟩
      | exact ⟨toldV_r 3 (by omega) (by decide) rfl, rfl⟩
      | exact ⟨toldV_r 4 (by omega) (by decide) rfl, rfl⟩
      | exact ⟨toldV_r 5 (by omega) (by decide) rfl, rfl⟩
      | exact ⟨toldV_r 6 (by omega) (by decide) rfl, rfl⟩
      | exact ⟨toldV_r 7 (by omega) (by decide) rfl, rfl⟩
      | exact ⟨toldV_r 8 (by omega) (by decide) rfl, rfl⟩
      | exact ⟨toldV_r 9 (by omega) (by decide) rfl, rfl⟩
  by_cases h1_1 : k = 1
  · skip
    refine V_tsIn (pc := 1) dX10_told_1 (cx := 1) (off := 66) (tgt := 67) h1_1 (by omega) rfl rfl ?_
    refine V_ld (pc := 67) dX10_told_67 (v := vr 0) rfl rfl ?_
    refine V_getRv (pc := 68) dX10_told_68 (o' := 1) fw_RX10_12 rfl hL.t0 hL.r0_0 ?_
    refine V_getRv (pc := 71) dX10_told_71 (o' := P) fw_RX10_103 rfl hL.t1 hq0 ?_
    refine V_ifnonnull (pc := 74) dX10_told_74 (tgt := 81) rfl (fun _ _ => ?_) (fun h_ => by cases h_)
    refine V_ld (pc := 81) dX10_told_81 (v := vr 0) rfl rfl ?_
    refine V_getRv (pc := 82) dX10_told_82 (o' := 1) fw_RX10_12 rfl hL.t0 hL.r0_0 ?_
    refine V_getRv (pc := 85) dX10_told_85 (o' := P) fw_RX10_103 rfl hL.t1 hq0 ?_
    refine V_getIv (pc := 88) dX10_told_88 (v := (cn : Int)) fw_RX10_107 rfl hq1 (hq9) (fun g88 => ?_)
    refine V_reti (pc := 91) dX10_told_91 trivial ?_
    first
      | (exfalso; omega)
      | exact ⟨(toldV_n (k := k) (by omega)).symm, rfl⟩
      | exact ⟨toldV_r 0 (by omega) (by decide) rfl, rfl⟩
      | exact ⟨toldV_r 1 (by omega) (by decide) rfl, rfl⟩
      | exact ⟨toldV_r 2 (by omega) (by decide) rfl, rfl⟩
      | exact ⟨toldV_r 3 (by omega) (by decide) rfl, rfl⟩
      | exact ⟨toldV_r 4 (by omega) (by decide) rfl, rfl⟩
      | exact ⟨toldV_r 5 (by omega) (by decide) rfl, rfl⟩
      | exact ⟨toldV_r 6 (by omega) (by decide) rfl, rfl⟩
      | exact ⟨toldV_r 7 (by omega) (by decide) rfl, rfl⟩
      | exact ⟨toldV_r 8 (by omega) (by decide) rfl, rfl⟩
      | exact ⟨toldV_r 9 (by omega) (by decide) rfl, rfl⟩
  by_cases h1_2 : k = 2
  · skip
    refine V_tsIn (pc := 1) dX10_told_1 (cx := 2) (off := 91) (tgt := 92) h1_2 (by omega) rfl rfl ?_
    refine V_ld (pc := 92) dX10_told_92 (v := vr 0) rfl rfl ?_
    refine V_getRv (pc := 93) dX10_told_93 (o' := 1) fw_RX10_12 rfl hL.t0 hL.r0_0 ?_
    refine V_getRv (pc := 96) dX10_told_96 (o' := M) fw_RX10_69 rfl hL.t1 R_1_3 ?_
    refine V_getIv (pc := 99) dX10_told_99 (v := mI m M 3) fw_RX10_72 rfl T_M rfl (fun g99 => ?_)
    refine V_reti (pc := 102) dX10_told_102 trivial ?_
    first
      | (exfalso; omega)
      | exact ⟨(toldV_n (k := k) (by omega)).symm, rfl⟩
      | exact ⟨toldV_r 0 (by omega) (by decide) rfl, rfl⟩
      | exact ⟨toldV_r 1 (by omega) (by decide) rfl, rfl⟩
      | exact ⟨toldV_r 2 (by omega) (by decide) rfl, rfl⟩
      | exact ⟨toldV_r 3 (by omega) (by decide) rfl, rfl⟩
      | exact ⟨toldV_r 4 (by omega) (by decide) rfl, rfl⟩
      | exact ⟨toldV_r 5 (by omega) (by decide) rfl, rfl⟩
      | exact ⟨toldV_r 6 (by omega) (by decide) rfl, rfl⟩
      | exact ⟨toldV_r 7 (by omega) (by decide) rfl, rfl⟩
      | exact ⟨toldV_r 8 (by omega) (by decide) rfl, rfl⟩
      | exact ⟨toldV_r 9 (by omega) (by decide) rfl, rfl⟩
  by_cases h1_3 : k = 3
  · skip
    refine V_tsIn (pc := 1) dX10_told_1 (cx := 3) (off := 102) (tgt := 103) h1_3 (by omega) rfl rfl ?_
    refine V_ld (pc := 103) dX10_told_103 (v := vr 0) rfl rfl ?_
    refine V_getRv (pc := 104) dX10_told_104 (o' := 1) fw_RX10_12 rfl hL.t0 hL.r0_0 ?_
    refine V_getIv (pc := 107) dX10_told_107 (v := mI m 1 4) fw_RX10_141 rfl hL.t1 rfl (fun g107 => ?_)
    refine V_reti (pc := 110) dX10_told_110 trivial ?_
    first
      | (exfalso; omega)
      | exact ⟨(toldV_n (k := k) (by omega)).symm, rfl⟩
      | exact ⟨toldV_r 0 (by omega) (by decide) rfl, rfl⟩
      | exact ⟨toldV_r 1 (by omega) (by decide) rfl, rfl⟩
      | exact ⟨toldV_r 2 (by omega) (by decide) rfl, rfl⟩
      | exact ⟨toldV_r 3 (by omega) (by decide) rfl, rfl⟩
      | exact ⟨toldV_r 4 (by omega) (by decide) rfl, rfl⟩
      | exact ⟨toldV_r 5 (by omega) (by decide) rfl, rfl⟩
      | exact ⟨toldV_r 6 (by omega) (by decide) rfl, rfl⟩
      | exact ⟨toldV_r 7 (by omega) (by decide) rfl, rfl⟩
      | exact ⟨toldV_r 8 (by omega) (by decide) rfl, rfl⟩
      | exact ⟨toldV_r 9 (by omega) (by decide) rfl, rfl⟩
  by_cases h1_4 : k = 4
  · skip
    refine V_tsIn (pc := 1) dX10_told_1 (cx := 4) (off := 110) (tgt := 111) h1_4 (by omega) rfl rfl ?_
    refine V_ld (pc := 111) dX10_told_111 (v := vr 0) rfl rfl ?_
    refine V_getRv (pc := 112) dX10_told_112 (o' := 1) fw_RX10_12 rfl hL.t0 hL.r0_0 ?_
    refine V_getIv (pc := 115) dX10_told_115 (v := mI m 1 5) fw_RX10_138 rfl hL.t1 rfl (fun g115 => ?_)
    refine V_reti (pc := 118) dX10_told_118 trivial ?_
    first
      | (exfalso; omega)
      | exact ⟨(toldV_n (k := k) (by omega)).symm, rfl⟩
      | exact ⟨toldV_r 0 (by omega) (by decide) rfl, rfl⟩
      | exact ⟨toldV_r 1 (by omega) (by decide) rfl, rfl⟩
      | exact ⟨toldV_r 2 (by omega) (by decide) rfl, rfl⟩
      | exact ⟨toldV_r 3 (by omega) (by decide) rfl, rfl⟩
      | exact ⟨toldV_r 4 (by omega) (by decide) rfl, rfl⟩
      | exact ⟨toldV_r 5 (by omega) (by decide) rfl, rfl⟩
      | exact ⟨toldV_r 6 (by omega) (by decide) rfl, rfl⟩
      | exact ⟨toldV_r 7 (by omega) (by decide) rfl, rfl⟩
      | exact ⟨toldV_r 8 (by omega) (by decide) rfl, rfl⟩
      | exact ⟨toldV_r 9 (by omega) (by decide) rfl, rfl⟩
  by_cases h1_5 : k = 5
  · skip
    refine V_tsIn (pc := 1) dX10_told_1 (cx := 5) (off := 118) (tgt := 119) h1_5 (by omega) rfl rfl ?_
    refine V_ld (pc := 119) dX10_told_119 (v := vr 0) rfl rfl ?_
    refine V_getRv (pc := 120) dX10_told_120 (o' := 1) fw_RX10_12 rfl hL.t0 hL.r0_0 ?_
    refine V_getIv (pc := 123) dX10_told_123 (v := mI m 1 6) fw_RX10_144 rfl hL.t1 rfl (fun g123 => ?_)
    refine V_reti (pc := 126) dX10_told_126 trivial ?_
    first
      | (exfalso; omega)
      | exact ⟨(toldV_n (k := k) (by omega)).symm, rfl⟩
      | exact ⟨toldV_r 0 (by omega) (by decide) rfl, rfl⟩
      | exact ⟨toldV_r 1 (by omega) (by decide) rfl, rfl⟩
      | exact ⟨toldV_r 2 (by omega) (by decide) rfl, rfl⟩
      | exact ⟨toldV_r 3 (by omega) (by decide) rfl, rfl⟩
      | exact ⟨toldV_r 4 (by omega) (by decide) rfl, rfl⟩
      | exact ⟨toldV_r 5 (by omega) (by decide) rfl, rfl⟩
      | exact ⟨toldV_r 6 (by omega) (by decide) rfl, rfl⟩
      | exact ⟨toldV_r 7 (by omega) (by decide) rfl, rfl⟩
      | exact ⟨toldV_r 8 (by omega) (by decide) rfl, rfl⟩
      | exact ⟨toldV_r 9 (by omega) (by decide) rfl, rfl⟩
  by_cases h1_6 : k = 6
  · skip
    refine V_tsIn (pc := 1) dX10_told_1 (cx := 6) (off := 126) (tgt := 127) h1_6 (by omega) rfl rfl ?_
    refine V_ld (pc := 127) dX10_told_127 (v := vr 0) rfl rfl ?_
    refine V_getRv (pc := 128) dX10_told_128 (o' := 1) fw_RX10_12 rfl hL.t0 hL.r0_0 ?_
    refine V_getIv (pc := 131) dX10_told_131 (v := mI m 1 7) fw_RX10_147 rfl hL.t1 rfl (fun g131 => ?_)
    refine V_reti (pc := 134) dX10_told_134 trivial ?_
    first
      | (exfalso; omega)
      | exact ⟨(toldV_n (k := k) (by omega)).symm, rfl⟩
      | exact ⟨toldV_r 0 (by omega) (by decide) rfl, rfl⟩
      | exact ⟨toldV_r 1 (by omega) (by decide) rfl, rfl⟩
      | exact ⟨toldV_r 2 (by omega) (by decide) rfl, rfl⟩
      | exact ⟨toldV_r 3 (by omega) (by decide) rfl, rfl⟩
      | exact ⟨toldV_r 4 (by omega) (by decide) rfl, rfl⟩
      | exact ⟨toldV_r 5 (by omega) (by decide) rfl, rfl⟩
      | exact ⟨toldV_r 6 (by omega) (by decide) rfl, rfl⟩
      | exact ⟨toldV_r 7 (by omega) (by decide) rfl, rfl⟩
      | exact ⟨toldV_r 8 (by omega) (by decide) rfl, rfl⟩
      | exact ⟨toldV_r 9 (by omega) (by decide) rfl, rfl⟩
  by_cases h1_7 : k = 7
  · skip
    refine V_tsIn (pc := 1) dX10_told_1 (cx := 7) (off := 134) (tgt := 135) h1_7 (by omega) rfl rfl ?_
    refine V_ld (pc := 135) dX10_told_135 (v := vr 0) rfl rfl ?_
    refine V_getRv (pc := 136) dX10_told_136 (o' := 1) fw_RX10_12 rfl hL.t0 hL.r0_0 ?_
    refine V_callV (pc := 139) dX10_told_139 (F' := 0) (As := []) (st := []) cw_RX10_214 rfl rfl hL.t1 (by decide) (Nat.le_of_ble_eq_true rfl) (by omega) (c_lwc  m    (by first | assumption | omega)) ?_
    rintro _ _ ⟨x139, rfl, rfl, rfl⟩ ok139 le139
    refine V_reti (pc := 142) dX10_told_142 trivial ?_
    first
      | (exfalso; omega)
      | exact ⟨(toldV_n (k := k) (by omega)).symm, rfl⟩
      | exact ⟨toldV_r 0 (by omega) (by decide) rfl, rfl⟩
      | exact ⟨toldV_r 1 (by omega) (by decide) rfl, rfl⟩
      | exact ⟨toldV_r 2 (by omega) (by decide) rfl, rfl⟩
      | exact ⟨toldV_r 3 (by omega) (by decide) rfl, rfl⟩
      | exact ⟨toldV_r 4 (by omega) (by decide) rfl, rfl⟩
      | exact ⟨toldV_r 5 (by omega) (by decide) rfl, rfl⟩
      | exact ⟨toldV_r 6 (by omega) (by decide) rfl, rfl⟩
      | exact ⟨toldV_r 7 (by omega) (by decide) rfl, rfl⟩
      | exact ⟨toldV_r 8 (by omega) (by decide) rfl, rfl⟩
      | exact ⟨toldV_r 9 (by omega) (by decide) rfl, rfl⟩
  by_cases h1_8 : k = 8
  · skip
    refine V_tsIn (pc := 1) dX10_told_1 (cx := 8) (off := 142) (tgt := 143) h1_8 (by omega) rfl rfl ?_
    refine V_ld (pc := 143) dX10_told_143 (v := vr 0) rfl rfl ?_
    refine V_callV (pc := 144) dX10_told_144 (F' := 3) (As := []) (st := []) cw_RX10_217 rfl rfl hL.t0 (by decide) (Nat.le_of_ble_eq_true rfl) (by omega) (c_rinm  m  M a b c  (by first | assumption | omega) R_1_3 T_M R_M_0 R_M_1 R_M_2 T_a T_b T_c (by first | assumption | omega) (by first | assumption | omega)) ?_
    rintro _ _ ⟨x144, rfl, rfl, rfl⟩ ok144 le144
    refine V_reti (pc := 147) dX10_told_147 trivial ?_
    first
      | (exfalso; omega)
      | exact ⟨(toldV_n (k := k) (by omega)).symm, rfl⟩
      | exact ⟨toldV_r 0 (by omega) (by decide) rfl, rfl⟩
      | exact ⟨toldV_r 1 (by omega) (by decide) rfl, rfl⟩
      | exact ⟨toldV_r 2 (by omega) (by decide) rfl, rfl⟩
      | exact ⟨toldV_r 3 (by omega) (by decide) rfl, rfl⟩
      | exact ⟨toldV_r 4 (by omega) (by decide) rfl, rfl⟩
      | exact ⟨toldV_r 5 (by omega) (by decide) rfl, rfl⟩
      | exact ⟨toldV_r 6 (by omega) (by decide) rfl, rfl⟩
      | exact ⟨toldV_r 7 (by omega) (by decide) rfl, rfl⟩
      | exact ⟨toldV_r 8 (by omega) (by decide) rfl, rfl⟩
      | exact ⟨toldV_r 9 (by omega) (by decide) rfl, rfl⟩
  by_cases h1_9 : k = 9
  · skip
    refine V_tsIn (pc := 1) dX10_told_1 (cx := 9) (off := 147) (tgt := 148) h1_9 (by omega) rfl rfl ?_
    refine V_ld (pc := 148) dX10_told_148 (v := vr 0) rfl rfl ?_
    refine V_getRv (pc := 149) dX10_told_149 (o' := 13) fw_RX10_30 rfl hL.t0 hL.r0_2 ?_
    refine V_getIv (pc := 152) dX10_told_152 (v := mI m 13 1) fw_RX10_86 rfl hL.t13 rfl (fun g152 => ?_)
    refine V_reti (pc := 155) dX10_told_155 trivial ?_
    first
      | (exfalso; omega)
      | exact ⟨(toldV_n (k := k) (by omega)).symm, rfl⟩
      | exact ⟨toldV_r 0 (by omega) (by decide) rfl, rfl⟩
      | exact ⟨toldV_r 1 (by omega) (by decide) rfl, rfl⟩
      | exact ⟨toldV_r 2 (by omega) (by decide) rfl, rfl⟩
      | exact ⟨toldV_r 3 (by omega) (by decide) rfl, rfl⟩
      | exact ⟨toldV_r 4 (by omega) (by decide) rfl, rfl⟩
      | exact ⟨toldV_r 5 (by omega) (by decide) rfl, rfl⟩
      | exact ⟨toldV_r 6 (by omega) (by decide) rfl, rfl⟩
      | exact ⟨toldV_r 7 (by omega) (by decide) rfl, rfl⟩
      | exact ⟨toldV_r 8 (by omega) (by decide) rfl, rfl⟩
      | exact ⟨toldV_r 9 (by omega) (by decide) rfl, rfl⟩
  refine V_tsOut (pc := 1) dX10_told_1 (tgt := 156) (by omega) rfl ?_
  refine V_iconst (pc := 156) dX10_told_156 (by unfold I32; omega) ?_
  refine V_reti (pc := 157) dX10_told_157 trivial ?_
  first
    | (exfalso; omega)
    | exact ⟨(toldV_n (k := k) (by omega)).symm, rfl⟩
    | exact ⟨toldV_r 0 (by omega) (by decide) rfl, rfl⟩
    | exact ⟨toldV_r 1 (by omega) (by decide) rfl, rfl⟩
    | exact ⟨toldV_r 2 (by omega) (by decide) rfl, rfl⟩
    | exact ⟨toldV_r 3 (by omega) (by decide) rfl, rfl⟩
    | exact ⟨toldV_r 4 (by omega) (by decide) rfl, rfl⟩
    | exact ⟨toldV_r 5 (by omega) (by decide) rfl, rfl⟩
    | exact ⟨toldV_r 6 (by omega) (by decide) rfl, rfl⟩
    | exact ⟨toldV_r 7 (by omega) (by decide) rfl, rfl⟩
    | exact ⟨toldV_r 8 (by omega) (by decide) rfl, rfl⟩
    | exact ⟨toldV_r 9 (by omega) (by decide) rfl, rfl⟩
