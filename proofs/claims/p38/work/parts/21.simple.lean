/-! the layout; the simple methods of class and reference -/
def layT : List (Nat × Nat × Nat) := [(0, 10, 7), (1, 7, 8), (2, 8, 2), (3, 20, 64), (4, 23, 26), (5, 3, 4), (6, 20, 33), (7, 20, 33), (8, 20, 1056), (9, 6, 14), (10, 20, 32), (13, 9, 2), (14, 20, 120), (15, 9, 2), (16, 20, 120), (17, 22, 4), (18, 3, 4), (19, 20, 33), (20, 20, 33), (21, 20, 1056), (22, 2, 2), (23, 21, 40), (24, 2, 2), (25, 21, 40), (26, 2, 2), (27, 21, 40), (28, 2, 2), (29, 21, 40)]
def layR : List ((Nat × Nat) × Nat) := [((0, 0), 1), ((0, 1), 9), ((0, 2), 13), ((0, 3), 15), ((0, 4), 17), ((1, 0), 2), ((1, 1), 4), ((2, 0), 3), ((5, 0), 6), ((5, 1), 7), ((5, 2), 8), ((9, 0), 1), ((9, 1), 10), ((13, 0), 14), ((15, 0), 16), ((18, 0), 19), ((18, 1), 20), ((18, 2), 21), ((17, 0), 22), ((22, 0), 23), ((17, 1), 24), ((24, 0), 25), ((17, 2), 26), ((26, 0), 27), ((17, 3), 28), ((28, 0), 29)]
def Lay (T : Nat → Nat × Nat) (R : Nat → Nat → Option Nat) : Prop := (∀ p ∈ layT, T p.1 = p.2) ∧ ∀ p ∈ layR, R p.1.1 p.1.2 = some p.2
theorem Lay.t0 {T : Nat → Nat × Nat} {R : Nat → Nat → Option Nat} (h : Lay T R) : T 0 = (10, 7) := h.1 (0, 10, 7) (by decide)
theorem Lay.t1 {T : Nat → Nat × Nat} {R : Nat → Nat → Option Nat} (h : Lay T R) : T 1 = (7, 8) := h.1 (1, 7, 8) (by decide)
theorem Lay.t2 {T : Nat → Nat × Nat} {R : Nat → Nat → Option Nat} (h : Lay T R) : T 2 = (8, 2) := h.1 (2, 8, 2) (by decide)
theorem Lay.t3 {T : Nat → Nat × Nat} {R : Nat → Nat → Option Nat} (h : Lay T R) : T 3 = (20, 64) := h.1 (3, 20, 64) (by decide)
theorem Lay.t4 {T : Nat → Nat × Nat} {R : Nat → Nat → Option Nat} (h : Lay T R) : T 4 = (23, 26) := h.1 (4, 23, 26) (by decide)
theorem Lay.t5 {T : Nat → Nat × Nat} {R : Nat → Nat → Option Nat} (h : Lay T R) : T 5 = (3, 4) := h.1 (5, 3, 4) (by decide)
theorem Lay.t6 {T : Nat → Nat × Nat} {R : Nat → Nat → Option Nat} (h : Lay T R) : T 6 = (20, 33) := h.1 (6, 20, 33) (by decide)
theorem Lay.t7 {T : Nat → Nat × Nat} {R : Nat → Nat → Option Nat} (h : Lay T R) : T 7 = (20, 33) := h.1 (7, 20, 33) (by decide)
theorem Lay.t8 {T : Nat → Nat × Nat} {R : Nat → Nat → Option Nat} (h : Lay T R) : T 8 = (20, 1056) := h.1 (8, 20, 1056) (by decide)
theorem Lay.t9 {T : Nat → Nat × Nat} {R : Nat → Nat → Option Nat} (h : Lay T R) : T 9 = (6, 14) := h.1 (9, 6, 14) (by decide)
theorem Lay.t10 {T : Nat → Nat × Nat} {R : Nat → Nat → Option Nat} (h : Lay T R) : T 10 = (20, 32) := h.1 (10, 20, 32) (by decide)
theorem Lay.t13 {T : Nat → Nat × Nat} {R : Nat → Nat → Option Nat} (h : Lay T R) : T 13 = (9, 2) := h.1 (13, 9, 2) (by decide)
theorem Lay.t14 {T : Nat → Nat × Nat} {R : Nat → Nat → Option Nat} (h : Lay T R) : T 14 = (20, 120) := h.1 (14, 20, 120) (by decide)
theorem Lay.t15 {T : Nat → Nat × Nat} {R : Nat → Nat → Option Nat} (h : Lay T R) : T 15 = (9, 2) := h.1 (15, 9, 2) (by decide)
theorem Lay.t16 {T : Nat → Nat × Nat} {R : Nat → Nat → Option Nat} (h : Lay T R) : T 16 = (20, 120) := h.1 (16, 20, 120) (by decide)
theorem Lay.t17 {T : Nat → Nat × Nat} {R : Nat → Nat → Option Nat} (h : Lay T R) : T 17 = (22, 4) := h.1 (17, 22, 4) (by decide)
theorem Lay.t18 {T : Nat → Nat × Nat} {R : Nat → Nat → Option Nat} (h : Lay T R) : T 18 = (3, 4) := h.1 (18, 3, 4) (by decide)
theorem Lay.t19 {T : Nat → Nat × Nat} {R : Nat → Nat → Option Nat} (h : Lay T R) : T 19 = (20, 33) := h.1 (19, 20, 33) (by decide)
theorem Lay.t20 {T : Nat → Nat × Nat} {R : Nat → Nat → Option Nat} (h : Lay T R) : T 20 = (20, 33) := h.1 (20, 20, 33) (by decide)
theorem Lay.t21 {T : Nat → Nat × Nat} {R : Nat → Nat → Option Nat} (h : Lay T R) : T 21 = (20, 1056) := h.1 (21, 20, 1056) (by decide)
theorem Lay.t22 {T : Nat → Nat × Nat} {R : Nat → Nat → Option Nat} (h : Lay T R) : T 22 = (2, 2) := h.1 (22, 2, 2) (by decide)
theorem Lay.t23 {T : Nat → Nat × Nat} {R : Nat → Nat → Option Nat} (h : Lay T R) : T 23 = (21, 40) := h.1 (23, 21, 40) (by decide)
theorem Lay.t24 {T : Nat → Nat × Nat} {R : Nat → Nat → Option Nat} (h : Lay T R) : T 24 = (2, 2) := h.1 (24, 2, 2) (by decide)
theorem Lay.t25 {T : Nat → Nat × Nat} {R : Nat → Nat → Option Nat} (h : Lay T R) : T 25 = (21, 40) := h.1 (25, 21, 40) (by decide)
theorem Lay.t26 {T : Nat → Nat × Nat} {R : Nat → Nat → Option Nat} (h : Lay T R) : T 26 = (2, 2) := h.1 (26, 2, 2) (by decide)
theorem Lay.t27 {T : Nat → Nat × Nat} {R : Nat → Nat → Option Nat} (h : Lay T R) : T 27 = (21, 40) := h.1 (27, 21, 40) (by decide)
theorem Lay.t28 {T : Nat → Nat × Nat} {R : Nat → Nat → Option Nat} (h : Lay T R) : T 28 = (2, 2) := h.1 (28, 2, 2) (by decide)
theorem Lay.t29 {T : Nat → Nat × Nat} {R : Nat → Nat → Option Nat} (h : Lay T R) : T 29 = (21, 40) := h.1 (29, 21, 40) (by decide)
theorem Lay.r0_0 {T : Nat → Nat × Nat} {R : Nat → Nat → Option Nat} (h : Lay T R) : R 0 0 = some 1 := h.2 ((0, 0), 1) (by decide)
theorem Lay.r0_1 {T : Nat → Nat × Nat} {R : Nat → Nat → Option Nat} (h : Lay T R) : R 0 1 = some 9 := h.2 ((0, 1), 9) (by decide)
theorem Lay.r0_2 {T : Nat → Nat × Nat} {R : Nat → Nat → Option Nat} (h : Lay T R) : R 0 2 = some 13 := h.2 ((0, 2), 13) (by decide)
theorem Lay.r0_3 {T : Nat → Nat × Nat} {R : Nat → Nat → Option Nat} (h : Lay T R) : R 0 3 = some 15 := h.2 ((0, 3), 15) (by decide)
theorem Lay.r0_4 {T : Nat → Nat × Nat} {R : Nat → Nat → Option Nat} (h : Lay T R) : R 0 4 = some 17 := h.2 ((0, 4), 17) (by decide)
theorem Lay.r1_0 {T : Nat → Nat × Nat} {R : Nat → Nat → Option Nat} (h : Lay T R) : R 1 0 = some 2 := h.2 ((1, 0), 2) (by decide)
theorem Lay.r1_1 {T : Nat → Nat × Nat} {R : Nat → Nat → Option Nat} (h : Lay T R) : R 1 1 = some 4 := h.2 ((1, 1), 4) (by decide)
theorem Lay.r2_0 {T : Nat → Nat × Nat} {R : Nat → Nat → Option Nat} (h : Lay T R) : R 2 0 = some 3 := h.2 ((2, 0), 3) (by decide)
theorem Lay.r5_0 {T : Nat → Nat × Nat} {R : Nat → Nat → Option Nat} (h : Lay T R) : R 5 0 = some 6 := h.2 ((5, 0), 6) (by decide)
theorem Lay.r5_1 {T : Nat → Nat × Nat} {R : Nat → Nat → Option Nat} (h : Lay T R) : R 5 1 = some 7 := h.2 ((5, 1), 7) (by decide)
theorem Lay.r5_2 {T : Nat → Nat × Nat} {R : Nat → Nat → Option Nat} (h : Lay T R) : R 5 2 = some 8 := h.2 ((5, 2), 8) (by decide)
theorem Lay.r9_0 {T : Nat → Nat × Nat} {R : Nat → Nat → Option Nat} (h : Lay T R) : R 9 0 = some 1 := h.2 ((9, 0), 1) (by decide)
theorem Lay.r9_1 {T : Nat → Nat × Nat} {R : Nat → Nat → Option Nat} (h : Lay T R) : R 9 1 = some 10 := h.2 ((9, 1), 10) (by decide)
theorem Lay.r13_0 {T : Nat → Nat × Nat} {R : Nat → Nat → Option Nat} (h : Lay T R) : R 13 0 = some 14 := h.2 ((13, 0), 14) (by decide)
theorem Lay.r15_0 {T : Nat → Nat × Nat} {R : Nat → Nat → Option Nat} (h : Lay T R) : R 15 0 = some 16 := h.2 ((15, 0), 16) (by decide)
theorem Lay.r18_0 {T : Nat → Nat × Nat} {R : Nat → Nat → Option Nat} (h : Lay T R) : R 18 0 = some 19 := h.2 ((18, 0), 19) (by decide)
theorem Lay.r18_1 {T : Nat → Nat × Nat} {R : Nat → Nat → Option Nat} (h : Lay T R) : R 18 1 = some 20 := h.2 ((18, 1), 20) (by decide)
theorem Lay.r18_2 {T : Nat → Nat × Nat} {R : Nat → Nat → Option Nat} (h : Lay T R) : R 18 2 = some 21 := h.2 ((18, 2), 21) (by decide)
theorem Lay.r17_0 {T : Nat → Nat × Nat} {R : Nat → Nat → Option Nat} (h : Lay T R) : R 17 0 = some 22 := h.2 ((17, 0), 22) (by decide)
theorem Lay.r22_0 {T : Nat → Nat × Nat} {R : Nat → Nat → Option Nat} (h : Lay T R) : R 22 0 = some 23 := h.2 ((22, 0), 23) (by decide)
theorem Lay.r17_1 {T : Nat → Nat × Nat} {R : Nat → Nat → Option Nat} (h : Lay T R) : R 17 1 = some 24 := h.2 ((17, 1), 24) (by decide)
theorem Lay.r24_0 {T : Nat → Nat × Nat} {R : Nat → Nat → Option Nat} (h : Lay T R) : R 24 0 = some 25 := h.2 ((24, 0), 25) (by decide)
theorem Lay.r17_2 {T : Nat → Nat × Nat} {R : Nat → Nat → Option Nat} (h : Lay T R) : R 17 2 = some 26 := h.2 ((17, 2), 26) (by decide)
theorem Lay.r26_0 {T : Nat → Nat × Nat} {R : Nat → Nat → Option Nat} (h : Lay T R) : R 26 0 = some 27 := h.2 ((26, 0), 27) (by decide)
theorem Lay.r17_3 {T : Nat → Nat × Nat} {R : Nat → Nat → Option Nat} (h : Lay T R) : R 17 3 = some 28 := h.2 ((17, 3), 28) (by decide)
theorem Lay.r28_0 {T : Nat → Nat × Nat} {R : Nat → Nat → Option Nat} (h : Lay T R) : R 28 0 = some 29 := h.2 ((28, 0), 29) (by decide)
set_option maxHeartbeats 4000000 in
theorem c_row  (m : Mem) (a : Int) (b : Int) (M : Nat)  (hL : Lay (mT m) (mR m)) (hz : 0 ≤ mI m 2 1 ∧ mI m 2 1 ≤ 32) (R_1_3 : mR m 1 3 = some M) (T_M : mT m M = (3, 4)) (hM : M = 5 ∨ M = 18) : Ct μX10_row 3 [vr 0, vi a, vi b] m (ri fun x_ m' => ((¬ (-999 ≤ a ∧ a ≤ 1000 ∧ -999 ≤ b ∧ b ≤ 1000)) ∧ (x_ = -2) ∧ m = m') ∨ (((-999 ≤ a ∧ a ≤ 1000 ∧ -999 ≤ b ∧ b ≤ 1000) ∧ 32 ≤ mI m 2 1) ∧ (x_ = -4) ∧ m = m') ∨ (((-999 ≤ a ∧ a ≤ 1000 ∧ -999 ≤ b ∧ b ≤ 1000) ∧ mI m 2 1 < 32) ∧ (x_ = mI m 2 1) ∧ setI (setI (setI (setI m 2 1 (mI m 2 1 + 1)) 3 (mI m 2 1 * 2).toNat a) 3 (mI m 2 1 * 2 + 1).toNat b) M 3 0 = m')) := by
  refine Ct_of_V rfl (by decide) rfl (Nat.le_of_ble_eq_true rfl) ?_
  show V μX10_row 3 m _ 0 [(0, vr 0), (1, vi a), (2, vi b)] [] m
  refine V_rg (k := 1) (x := a) rfl fun r_a => ?_
  refine V_rg (k := 2) (x := b) rfl fun r_b => ?_
  refine V_ld (pc := 0) dX10_row_0 (v := vi a) rfl rfl ?_
  refine V_callS (pc := 1) dX10_row_1 (F' := 0) (As := [vi a]) (st := []) cw_RX10_51 rfl rfl (Nat.le_of_ble_eq_true rfl) (by omega) (c_isCell  m a   ) ?_
  rintro _ _ ⟨x1, rfl, hx1, rfl⟩ ok1 le1
  refine V_if_eq (pc := 4) dX10_row_4 (tgt := 14) rfl (fun h4 => ?_) (fun h4 => ?_)
  · skip
    refine V_bipush (pc := 14) dX10_row_14 (by unfold I32; omega) (by decide) ?_
    refine V_reti (pc := 16) dX10_row_16 trivial ?_
    first | exact (Or.inl ⟨by omega, by omega, rfl⟩) | exact (Or.inr (Or.inl ⟨by omega, by omega, rfl⟩)) | exact (Or.inr (Or.inr ⟨by omega, by omega, rfl⟩))
  · skip
    refine V_ld (pc := 7) dX10_row_7 (v := vi b) rfl rfl ?_
    refine V_callS (pc := 8) dX10_row_8 (F' := 0) (As := [vi b]) (st := []) cw_RX10_51 rfl rfl (Nat.le_of_ble_eq_true rfl) (by omega) (c_isCell  m b   ) ?_
    rintro _ _ ⟨x8, rfl, hx8, rfl⟩ ok8 le8
    refine V_if_ne (pc := 11) dX10_row_11 (tgt := 17) rfl (fun h11 => ?_) (fun h11 => ?_)
    · skip
      refine V_ld (pc := 17) dX10_row_17 (v := vr 0) rfl rfl ?_
      refine V_getRv (pc := 18) dX10_row_18 (o' := 1) fw_RX10_12 rfl hL.t0 hL.r0_0 ?_
      refine V_getRv (pc := 21) dX10_row_21 (o' := 2) fw_RX10_55 rfl hL.t1 hL.r1_0 ?_
      refine V_getIv (pc := 24) dX10_row_24 (v := mI m 2 1) fw_RX10_59 rfl hL.t2 rfl (fun g24 => ?_)
      refine V_bipush (pc := 27) dX10_row_27 (by unfold I32; omega) (by decide) ?_
      refine V_icmp_lt (pc := 29) dX10_row_29 (tgt := 35) rfl (fun h29 => ?_) (fun h29 => ?_)
      · skip
        refine V_ld (pc := 35) dX10_row_35 (v := vr 0) rfl rfl ?_
        refine V_getRv (pc := 36) dX10_row_36 (o' := 1) fw_RX10_12 rfl hL.t0 hL.r0_0 ?_
        refine V_getRv (pc := 39) dX10_row_39 (o' := 2) fw_RX10_55 rfl hL.t1 hL.r1_0 ?_
        refine V_getIv (pc := 42) dX10_row_42 (v := mI m 2 1) fw_RX10_59 rfl hL.t2 rfl (fun g42 => ?_)
        refine V_st (pc := 45) dX10_row_45 (ls' := [(3, vi (mI m 2 1)), (0, vr 0), (1, vi a), (2, vi b)]) rfl (Nat.le_of_ble_eq_true rfl) rfl ?_
        refine V_ld (pc := 46) dX10_row_46 (v := vr 0) rfl rfl ?_
        refine V_getRv (pc := 47) dX10_row_47 (o' := 1) fw_RX10_12 rfl hL.t0 hL.r0_0 ?_
        refine V_getRv (pc := 50) dX10_row_50 (o' := 2) fw_RX10_55 rfl hL.t1 hL.r1_0 ?_
        refine V_dup (pc := 53) dX10_row_53 rfl ?_
        refine V_getIv (pc := 54) dX10_row_54 (v := mI m 2 1) fw_RX10_59 rfl hL.t2 rfl (fun g54 => ?_)
        refine V_iconst (pc := 57) dX10_row_57 (by unfold I32; omega) ?_
        refine V_iadd (pc := 58) dX10_row_58 (by unfold I32 at *; omega) ?_
        refine V_putI (pc := 59) dX10_row_59 fw_RX10_59 rfl hL.t2 (Or.inl rfl) (Or.inl rfl) ?_
        refine V_ld (pc := 62) dX10_row_62 (v := vr 0) rfl rfl ?_
        refine V_getRv (pc := 63) dX10_row_63 (o' := 1) fw_RX10_12 rfl hL.t0 hL.r0_0 ?_
        refine V_getRv (pc := 66) dX10_row_66 (o' := 2) fw_RX10_55 rfl hL.t1 hL.r1_0 ?_
        refine V_ld (pc := 69) dX10_row_69 (v := vi (mI m 2 1)) rfl rfl ?_
        refine V_ld (pc := 70) dX10_row_70 (v := vi a) rfl rfl ?_
        refine V_ld (pc := 71) dX10_row_71 (v := vi b) rfl rfl ?_
        refine V_callV (pc := 72) dX10_row_72 (F' := 1) (As := [vi (mI m 2 1), vi a, vi b]) (st := []) cw_RX10_65 rfl rfl hL.t2 (by decide) (Nat.le_of_ble_eq_true rfl) (by omega) (c_Table_write  (setI m 2 1 ((mI m 2 1) + 1)) 2 (mI m 2 1) a b 3  hL.t2 hL.r2_0 hL.t3 (by simp only [mI_setI, up2_s]; omega)) ?_
        rintro _ _ ⟨rfl, rfl⟩ ok72 le72
        refine V_ld (pc := 75) dX10_row_75 (v := vr 0) rfl rfl ?_
        refine V_getRv (pc := 76) dX10_row_76 (o' := 1) fw_RX10_12 rfl hL.t0 hL.r0_0 ?_
        refine V_getRv (pc := 79) dX10_row_79 (o' := M) fw_RX10_69 rfl hL.t1 R_1_3 ?_
        refine V_iconst (pc := 82) dX10_row_82 (by unfold I32; omega) ?_
        refine V_putI (pc := 83) dX10_row_83 fw_RX10_72 rfl T_M (Or.inl rfl) (Or.inl rfl) ?_
        refine V_ld (pc := 86) dX10_row_86 (v := vi (mI m 2 1)) rfl rfl ?_
        refine V_reti (pc := 87) dX10_row_87 trivial ?_
        first | exact (Or.inl ⟨by omega, by omega, rfl⟩) | exact (Or.inr (Or.inl ⟨by omega, by omega, rfl⟩)) | exact (Or.inr (Or.inr ⟨by omega, by omega, rfl⟩))
      · skip
        refine V_bipush (pc := 32) dX10_row_32 (by unfold I32; omega) (by decide) ?_
        refine V_reti (pc := 34) dX10_row_34 trivial ?_
        first | exact (Or.inl ⟨by omega, by omega, rfl⟩) | exact (Or.inr (Or.inl ⟨by omega, by omega, rfl⟩)) | exact (Or.inr (Or.inr ⟨by omega, by omega, rfl⟩))
    · skip
      refine V_bipush (pc := 14) dX10_row_14 (by unfold I32; omega) (by decide) ?_
      refine V_reti (pc := 16) dX10_row_16 trivial ?_
      first | exact (Or.inl ⟨by omega, by omega, rfl⟩) | exact (Or.inr (Or.inl ⟨by omega, by omega, rfl⟩)) | exact (Or.inr (Or.inr ⟨by omega, by omega, rfl⟩))

set_option maxHeartbeats 4000000 in
theorem c_feed  (m : Mem) (a : Int)   (hL : Lay (mT m) (mR m)) (ht : 0 ≤ mI m 13 1 ∧ mI m 13 1 ≤ 120) : Ct μX10_feed 1 [vr 0, vi a] m (ri fun x_ m' => ((¬ (1 ≤ a ∧ a ≤ 127)) ∧ (x_ = -2) ∧ m = m') ∨ (((1 ≤ a ∧ a ≤ 127) ∧ mI m 13 1 = 120) ∧ (x_ = -4) ∧ m = m') ∨ (((1 ≤ a ∧ a ≤ 127) ∧ mI m 13 1 < 120) ∧ (x_ = mI m 13 1 + 1) ∧ setI (setI m 14 (mI m 13 1).toNat a) 13 1 (mI m 13 1 + 1) = m')) := by
  refine Ct_of_V rfl (by decide) rfl (Nat.le_of_ble_eq_true rfl) ?_
  show V μX10_feed 1 m _ 0 [(0, vr 0), (1, vi a)] [] m
  refine V_rg (k := 1) (x := a) rfl fun r_a => ?_
  refine V_ld (pc := 0) dX10_feed_0 (v := vi a) rfl rfl ?_
  refine V_iconst (pc := 1) dX10_feed_1 (by unfold I32; omega) ?_
  refine V_icmp_lt (pc := 2) dX10_feed_2 (tgt := 11) rfl (fun h2 => ?_) (fun h2 => ?_)
  · skip
    refine V_bipush (pc := 11) dX10_feed_11 (by unfold I32; omega) (by decide) ?_
    refine V_reti (pc := 13) dX10_feed_13 trivial ?_
    first | exact (Or.inl ⟨by omega, by omega, rfl⟩) | exact (Or.inr (Or.inl ⟨by omega, by omega, rfl⟩)) | exact (Or.inr (Or.inr ⟨by omega, by omega, rfl⟩))
  · skip
    refine V_ld (pc := 5) dX10_feed_5 (v := vi a) rfl rfl ?_
    refine V_bipush (pc := 6) dX10_feed_6 (by unfold I32; omega) (by decide) ?_
    refine V_icmp_le (pc := 8) dX10_feed_8 (tgt := 14) rfl (fun h8 => ?_) (fun h8 => ?_)
    · skip
      refine V_ld (pc := 14) dX10_feed_14 (v := vr 0) rfl rfl ?_
      refine V_getRv (pc := 15) dX10_feed_15 (o' := 13) fw_RX10_30 rfl hL.t0 hL.r0_2 ?_
      refine V_ld (pc := 18) dX10_feed_18 (v := vi a) rfl rfl ?_
      refine V_callV (pc := 19) dX10_feed_19 (F' := 0) (As := [vi a]) (st := []) cw_RX10_83 rfl rfl hL.t13 (by decide) (Nat.le_of_ble_eq_true rfl) (by omega) (c_Text_add  m 13 a 14  hL.t13 hL.r13_0 hL.t14 ht.1 (by decide)) ?_
      rintro _ _ ⟨x19, rfl, (⟨hc19, hx19, rfl⟩ | ⟨hc19, hx19, rfl⟩)⟩ ok19 le19
      · skip
        refine V_if_eq (pc := 22) dX10_feed_22 (tgt := 35) rfl (fun h22 => ?_) (fun h22 => ?_)
        · skip
          refine V_bipush (pc := 35) dX10_feed_35 (by unfold I32; omega) (by decide) ?_
          refine V_reti (pc := 37) dX10_feed_37 trivial ?_
          first | exact (Or.inl ⟨by omega, by omega, rfl⟩) | exact (Or.inr (Or.inl ⟨by omega, by omega, rfl⟩)) | exact (Or.inr (Or.inr ⟨by omega, by omega, rfl⟩))
        · skip
          refine V_ld (pc := 25) dX10_feed_25 (v := vr 0) rfl rfl ?_
          refine V_getRv (pc := 26) dX10_feed_26 (o' := 13) fw_RX10_30 rfl hL.t0 hL.r0_2 ?_
          refine V_getIv (pc := 29) dX10_feed_29 (v := mI m 13 1 + 1) fw_RX10_86 rfl hL.t13 (by first | rfl | (simp only [mI_setI, up2]; repeat (first | rfl | rw [if_neg (by omega)] | rw [if_pos (by omega)]))) (fun g29 => ?_)
          refine V_goto (pc := 32) dX10_feed_32 (tgt := 37) rfl ?_
          refine V_reti (pc := 37) dX10_feed_37 trivial ?_
          first | exact (Or.inl ⟨by omega, by omega, rfl⟩) | exact (Or.inr (Or.inl ⟨by omega, by omega, rfl⟩)) | exact (Or.inr (Or.inr ⟨by omega, by omega, rfl⟩))
      · skip
        refine V_if_eq (pc := 22) dX10_feed_22 (tgt := 35) rfl (fun h22 => ?_) (fun h22 => ?_)
        · skip
          refine V_bipush (pc := 35) dX10_feed_35 (by unfold I32; omega) (by decide) ?_
          refine V_reti (pc := 37) dX10_feed_37 trivial ?_
          first | exact (Or.inl ⟨by omega, by omega, rfl⟩) | exact (Or.inr (Or.inl ⟨by omega, by omega, rfl⟩)) | exact (Or.inr (Or.inr ⟨by omega, by omega, rfl⟩))
        · skip
          refine V_ld (pc := 25) dX10_feed_25 (v := vr 0) rfl rfl ?_
          refine V_getRv (pc := 26) dX10_feed_26 (o' := 13) fw_RX10_30 rfl hL.t0 hL.r0_2 ?_
          refine V_getIv (pc := 29) dX10_feed_29 (v := mI m 13 1) fw_RX10_86 rfl hL.t13 rfl (fun g29 => ?_)
          refine V_goto (pc := 32) dX10_feed_32 (tgt := 37) rfl ?_
          refine V_reti (pc := 37) dX10_feed_37 trivial ?_
          first | exact (Or.inl ⟨by omega, by omega, rfl⟩) | exact (Or.inr (Or.inl ⟨by omega, by omega, rfl⟩)) | exact (Or.inr (Or.inr ⟨by omega, by omega, rfl⟩))
    · skip
      refine V_bipush (pc := 11) dX10_feed_11 (by unfold I32; omega) (by decide) ?_
      refine V_reti (pc := 13) dX10_feed_13 trivial ?_
      first | exact (Or.inl ⟨by omega, by omega, rfl⟩) | exact (Or.inr (Or.inl ⟨by omega, by omega, rfl⟩)) | exact (Or.inr (Or.inr ⟨by omega, by omega, rfl⟩))

