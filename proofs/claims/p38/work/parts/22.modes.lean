/-! modes and lists -/
set_option maxHeartbeats 4000000 in
theorem c_mode  (m : Mem) (a : Int) (b : Int)   (hL : Lay (mT m) (mR m)) (hz : 0 ≤ mI m 1 4 ∧ mI m 1 4 ≤ 3 ∧ 0 ≤ mI m 1 5 ∧ mI m 1 5 ≤ 25) : Ct μX10_mode 1 [vr 0, vi a, vi b] m (ri fun x_ m' => ((¬ (0 ≤ a ∧ a ≤ 3 ∧ 0 ≤ b ∧ b ≤ 25)) ∧ (x_ = -1) ∧ m = m') ∨ (((0 ≤ a ∧ a ≤ 3 ∧ 0 ≤ b ∧ b ≤ 25)) ∧ (x_ = 10 * mI m 1 5 + mI m 1 4) ∧ setI (setI m 1 4 a) 1 5 b = m')) := by
  refine Ct_of_V rfl (by decide) rfl (Nat.le_of_ble_eq_true rfl) ?_
  show V μX10_mode 1 m _ 0 [(0, vr 0), (1, vi a), (2, vi b)] [] m
  refine V_rg (k := 1) (x := a) rfl fun r_a => ?_
  refine V_rg (k := 2) (x := b) rfl fun r_b => ?_
  refine V_ld (pc := 0) dX10_mode_0 (v := vi a) rfl rfl ?_
  refine V_if_lt (pc := 1) dX10_mode_1 (tgt := 16) rfl (fun h1 => ?_) (fun h1 => ?_)
  · skip
    refine V_iconst (pc := 16) dX10_mode_16 (by unfold I32; omega) ?_
    refine V_reti (pc := 17) dX10_mode_17 trivial ?_
    first | exact (Or.inl ⟨by omega, by omega, rfl⟩) | exact (Or.inr ⟨by omega, by omega, rfl⟩)
  · skip
    refine V_ld (pc := 4) dX10_mode_4 (v := vi a) rfl rfl ?_
    refine V_iconst (pc := 5) dX10_mode_5 (by unfold I32; omega) ?_
    refine V_icmp_ge (pc := 6) dX10_mode_6 (tgt := 16) rfl (fun h6 => ?_) (fun h6 => ?_)
    · skip
      refine V_iconst (pc := 16) dX10_mode_16 (by unfold I32; omega) ?_
      refine V_reti (pc := 17) dX10_mode_17 trivial ?_
      first | exact (Or.inl ⟨by omega, by omega, rfl⟩) | exact (Or.inr ⟨by omega, by omega, rfl⟩)
    · skip
      refine V_ld (pc := 9) dX10_mode_9 (v := vi b) rfl rfl ?_
      refine V_callS (pc := 10) dX10_mode_10 (F' := 0) (As := [vi b]) (st := []) cw_RX10_135 rfl rfl (Nat.le_of_ble_eq_true rfl) (by omega) (c_isLetter  m b   ) ?_
      rintro _ _ ⟨x10, rfl, hx10, rfl⟩ ok10 le10
      refine V_if_ne (pc := 13) dX10_mode_13 (tgt := 18) rfl (fun h13 => ?_) (fun h13 => ?_)
      · skip
        refine V_bipush (pc := 18) dX10_mode_18 (by unfold I32; omega) (by decide) ?_
        refine V_ld (pc := 20) dX10_mode_20 (v := vr 0) rfl rfl ?_
        refine V_getRv (pc := 21) dX10_mode_21 (o' := 1) fw_RX10_12 rfl hL.t0 hL.r0_0 ?_
        refine V_getIv (pc := 24) dX10_mode_24 (v := mI m 1 5) fw_RX10_138 rfl hL.t1 rfl (fun g24 => ?_)
        refine V_imul (pc := 27) dX10_mode_27 (by unfold I32 at *; omega) ?_
        refine V_ld (pc := 28) dX10_mode_28 (v := vr 0) rfl rfl ?_
        refine V_getRv (pc := 29) dX10_mode_29 (o' := 1) fw_RX10_12 rfl hL.t0 hL.r0_0 ?_
        refine V_getIv (pc := 32) dX10_mode_32 (v := mI m 1 4) fw_RX10_141 rfl hL.t1 rfl (fun g32 => ?_)
        refine V_iadd (pc := 35) dX10_mode_35 (by unfold I32 at *; omega) ?_
        refine V_st (pc := 36) dX10_mode_36 (ls' := [(3, vi ((10 * (mI m 1 5)) + (mI m 1 4))), (0, vr 0), (1, vi a), (2, vi b)]) rfl (Nat.le_of_ble_eq_true rfl) rfl ?_
        refine V_ld (pc := 37) dX10_mode_37 (v := vr 0) rfl rfl ?_
        refine V_getRv (pc := 38) dX10_mode_38 (o' := 1) fw_RX10_12 rfl hL.t0 hL.r0_0 ?_
        refine V_ld (pc := 41) dX10_mode_41 (v := vi a) rfl rfl ?_
        refine V_putI (pc := 42) dX10_mode_42 fw_RX10_141 rfl hL.t1 (Or.inl rfl) (Or.inl rfl) ?_
        refine V_ld (pc := 45) dX10_mode_45 (v := vr 0) rfl rfl ?_
        refine V_getRv (pc := 46) dX10_mode_46 (o' := 1) fw_RX10_12 rfl hL.t0 hL.r0_0 ?_
        refine V_ld (pc := 49) dX10_mode_49 (v := vi b) rfl rfl ?_
        refine V_putI (pc := 50) dX10_mode_50 fw_RX10_138 rfl hL.t1 (Or.inl rfl) (Or.inl rfl) ?_
        refine V_ld (pc := 53) dX10_mode_53 (v := vi ((10 * (mI m 1 5)) + (mI m 1 4))) rfl rfl ?_
        refine V_reti (pc := 54) dX10_mode_54 trivial ?_
        first | exact (Or.inl ⟨by omega, by omega, rfl⟩) | exact (Or.inr ⟨by omega, by omega, rfl⟩)
      · skip
        refine V_iconst (pc := 16) dX10_mode_16 (by unfold I32; omega) ?_
        refine V_reti (pc := 17) dX10_mode_17 trivial ?_
        first | exact (Or.inl ⟨by omega, by omega, rfl⟩) | exact (Or.inr ⟨by omega, by omega, rfl⟩)

set_option maxHeartbeats 4000000 in
theorem c_empties  (m : Mem) (a : Int)   (hL : Lay (mT m) (mR m)) : Ct μX10_empties 0 [vr 0, vi a] m (ri fun x_ m' => ((¬ (0 ≤ a ∧ a ≤ 1)) ∧ (x_ = -1) ∧ m = m') ∨ (((0 ≤ a ∧ a ≤ 1)) ∧ (x_ = mI m 1 6) ∧ setI m 1 6 a = m')) := by
  refine Ct_of_V rfl (by decide) rfl (Nat.le_of_ble_eq_true rfl) ?_
  show V μX10_empties 0 m _ 0 [(0, vr 0), (1, vi a)] [] m
  refine V_rg (k := 1) (x := a) rfl fun r_a => ?_
  refine V_ld (pc := 0) dX10_empties_0 (v := vi a) rfl rfl ?_
  refine V_if_eq (pc := 1) dX10_empties_1 (tgt := 11) rfl (fun h1 => ?_) (fun h1 => ?_)
  · skip
    refine V_ld (pc := 11) dX10_empties_11 (v := vr 0) rfl rfl ?_
    refine V_getRv (pc := 12) dX10_empties_12 (o' := 1) fw_RX10_12 rfl hL.t0 hL.r0_0 ?_
    refine V_getIv (pc := 15) dX10_empties_15 (v := mI m 1 6) fw_RX10_144 rfl hL.t1 rfl (fun g15 => ?_)
    refine V_st (pc := 18) dX10_empties_18 (ls' := [(2, vi (mI m 1 6)), (0, vr 0), (1, vi a)]) rfl (Nat.le_of_ble_eq_true rfl) rfl ?_
    refine V_ld (pc := 19) dX10_empties_19 (v := vr 0) rfl rfl ?_
    refine V_getRv (pc := 20) dX10_empties_20 (o' := 1) fw_RX10_12 rfl hL.t0 hL.r0_0 ?_
    refine V_ld (pc := 23) dX10_empties_23 (v := vi a) rfl rfl ?_
    refine V_putI (pc := 24) dX10_empties_24 fw_RX10_144 rfl hL.t1 (Or.inl rfl) (Or.inl rfl) ?_
    refine V_ld (pc := 27) dX10_empties_27 (v := vi (mI m 1 6)) rfl rfl ?_
    refine V_reti (pc := 28) dX10_empties_28 trivial ?_
    first | exact (Or.inl ⟨by omega, by omega, rfl⟩) | exact (Or.inr ⟨by omega, by omega, rfl⟩)
  · skip
    refine V_ld (pc := 4) dX10_empties_4 (v := vi a) rfl rfl ?_
    refine V_iconst (pc := 5) dX10_empties_5 (by unfold I32; omega) ?_
    refine V_icmp_eq (pc := 6) dX10_empties_6 (tgt := 11) rfl (fun h6 => ?_) (fun h6 => ?_)
    · skip
      refine V_ld (pc := 11) dX10_empties_11 (v := vr 0) rfl rfl ?_
      refine V_getRv (pc := 12) dX10_empties_12 (o' := 1) fw_RX10_12 rfl hL.t0 hL.r0_0 ?_
      refine V_getIv (pc := 15) dX10_empties_15 (v := mI m 1 6) fw_RX10_144 rfl hL.t1 rfl (fun g15 => ?_)
      refine V_st (pc := 18) dX10_empties_18 (ls' := [(2, vi (mI m 1 6)), (0, vr 0), (1, vi a)]) rfl (Nat.le_of_ble_eq_true rfl) rfl ?_
      refine V_ld (pc := 19) dX10_empties_19 (v := vr 0) rfl rfl ?_
      refine V_getRv (pc := 20) dX10_empties_20 (o' := 1) fw_RX10_12 rfl hL.t0 hL.r0_0 ?_
      refine V_ld (pc := 23) dX10_empties_23 (v := vi a) rfl rfl ?_
      refine V_putI (pc := 24) dX10_empties_24 fw_RX10_144 rfl hL.t1 (Or.inl rfl) (Or.inl rfl) ?_
      refine V_ld (pc := 27) dX10_empties_27 (v := vi (mI m 1 6)) rfl rfl ?_
      refine V_reti (pc := 28) dX10_empties_28 trivial ?_
      first | exact (Or.inl ⟨by omega, by omega, rfl⟩) | exact (Or.inr ⟨by omega, by omega, rfl⟩)
    · skip
      refine V_iconst (pc := 9) dX10_empties_9 (by unfold I32; omega) ?_
      refine V_reti (pc := 10) dX10_empties_10 trivial ?_
      first | exact (Or.inl ⟨by omega, by omega, rfl⟩) | exact (Or.inr ⟨by omega, by omega, rfl⟩)

set_option maxHeartbeats 4000000 in
theorem c_may  (m : Mem) (a : Int)   (hL : Lay (mT m) (mR m)) : Ct μX10_may 0 [vr 0, vi a] m (ri fun x_ m' => ((¬ (1 ≤ a ∧ a ≤ 5000)) ∧ (x_ = -2) ∧ m = m') ∨ (((1 ≤ a ∧ a ≤ 5000)) ∧ (x_ = mI m 1 7) ∧ setI m 1 7 a = m')) := by
  refine Ct_of_V rfl (by decide) rfl (Nat.le_of_ble_eq_true rfl) ?_
  show V μX10_may 0 m _ 0 [(0, vr 0), (1, vi a)] [] m
  refine V_rg (k := 1) (x := a) rfl fun r_a => ?_
  refine V_ld (pc := 0) dX10_may_0 (v := vi a) rfl rfl ?_
  refine V_iconst (pc := 1) dX10_may_1 (by unfold I32; omega) ?_
  refine V_icmp_lt (pc := 2) dX10_may_2 (tgt := 12) rfl (fun h2 => ?_) (fun h2 => ?_)
  · skip
    refine V_bipush (pc := 12) dX10_may_12 (by unfold I32; omega) (by decide) ?_
    refine V_reti (pc := 14) dX10_may_14 trivial ?_
    first | exact (Or.inl ⟨by omega, by omega, rfl⟩) | exact (Or.inr ⟨by omega, by omega, rfl⟩)
  · skip
    refine V_ld (pc := 5) dX10_may_5 (v := vi a) rfl rfl ?_
    refine V_sipush (pc := 6) dX10_may_6 (by unfold I32; omega) (by decide) ?_
    refine V_icmp_le (pc := 9) dX10_may_9 (tgt := 15) rfl (fun h9 => ?_) (fun h9 => ?_)
    · skip
      refine V_ld (pc := 15) dX10_may_15 (v := vr 0) rfl rfl ?_
      refine V_getRv (pc := 16) dX10_may_16 (o' := 1) fw_RX10_12 rfl hL.t0 hL.r0_0 ?_
      refine V_getIv (pc := 19) dX10_may_19 (v := mI m 1 7) fw_RX10_147 rfl hL.t1 rfl (fun g19 => ?_)
      refine V_st (pc := 22) dX10_may_22 (ls' := [(2, vi (mI m 1 7)), (0, vr 0), (1, vi a)]) rfl (Nat.le_of_ble_eq_true rfl) rfl ?_
      refine V_ld (pc := 23) dX10_may_23 (v := vr 0) rfl rfl ?_
      refine V_getRv (pc := 24) dX10_may_24 (o' := 1) fw_RX10_12 rfl hL.t0 hL.r0_0 ?_
      refine V_ld (pc := 27) dX10_may_27 (v := vi a) rfl rfl ?_
      refine V_putI (pc := 28) dX10_may_28 fw_RX10_147 rfl hL.t1 (Or.inl rfl) (Or.inl rfl) ?_
      refine V_ld (pc := 31) dX10_may_31 (v := vi (mI m 1 7)) rfl rfl ?_
      refine V_reti (pc := 32) dX10_may_32 trivial ?_
      first | exact (Or.inl ⟨by omega, by omega, rfl⟩) | exact (Or.inr ⟨by omega, by omega, rfl⟩)
    · skip
      refine V_bipush (pc := 12) dX10_may_12 (by unfold I32; omega) (by decide) ?_
      refine V_reti (pc := 14) dX10_may_14 trivial ?_
      first | exact (Or.inl ⟨by omega, by omega, rfl⟩) | exact (Or.inr ⟨by omega, by omega, rfl⟩)

theorem Lay.list {T : Nat → Nat × Nat} {R : Nat → Nat → Option Nat} (h : Lay T R) {l : Int} (hl : 0 ≤ l ∧ l ≤ 3) : T (22 + 2 * l.toNat) = (2, 2) ∧ T (23 + 2 * l.toNat) = (21, 40) ∧ R 17 l.toNat = some (22 + 2 * l.toNat) ∧ R (22 + 2 * l.toNat) 0 = some (23 + 2 * l.toNat) := by
  have e : l = 0 ∨ l = 1 ∨ l = 2 ∨ l = 3 := by omega
  rcases e with rfl | rfl | rfl | rfl
  · exact ⟨h.t22, h.t23, h.r17_0, h.r22_0⟩
  · exact ⟨h.t24, h.t25, h.r17_1, h.r24_0⟩
  · exact ⟨h.t26, h.t27, h.r17_2, h.r26_0⟩
  · exact ⟨h.t28, h.t29, h.r17_3, h.r28_0⟩

