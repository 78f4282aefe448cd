/-! bitCount; the class and its matches -/
theorem sw_ints (x : Int) (hx : 0 ≤ x ∧ x < 2147483648) : ∃ y1 y2 y3 : Nat, and32 (ushr32 x 1) 1431655765 = ((x.toNat / 2 &&& 1431655765 : Nat) : Int) ∧ (x.toNat / 2 &&& 1431655765) ≤ x.toNat ∧ x - and32 (ushr32 x 1) 1431655765 = (y1 : Int) ∧ and32 (y1 : Int) 858993459 + and32 (ushr32 (y1 : Int) 2) 858993459 = (y2 : Int) ∧ and32 (y1 : Int) 858993459 < 1000000000 ∧ 0 ≤ and32 (y1 : Int) 858993459 ∧ 0 ≤ and32 (ushr32 (y1 : Int) 2) 858993459 ∧ (y1 : Int) ≤ x ∧ (y2 : Int) ≤ 1145324612 ∧ ushr32 (y2 : Int) 4 = ((y2 / 16 : Nat) : Int) ∧ and32 ((y2 : Int) + ushr32 (y2 : Int) 4) 252645135 = (y3 : Int) ∧ (y3 : Int) ≤ 134744072 ∧ ushr32 (y3 : Int) 8 = ((y3 / 256 : Nat) : Int) ∧ ushr32 ((y3 : Int) + ushr32 (y3 : Int) 8) 16 = (((y3 + y3 / 256) / 65536 : Nat) : Int) ∧ and32 ((y3 : Int) + ushr32 (y3 : Int) 8 + ushr32 ((y3 : Int) + ushr32 (y3 : Int) 8) 16) 63 = (popN 32 x.toNat : Int) := by
  obtain ⟨y1, h1⟩ : ∃ y, y = x.toNat - (x.toNat / 2 &&& 1431655765) := ⟨_, rfl⟩
  obtain ⟨y2, h2⟩ : ∃ y, y = (y1 &&& 858993459) + (y1 / 4 &&& 858993459) := ⟨_, rfl⟩
  obtain ⟨y3, h3⟩ : ∃ y, y = (y2 + y2 / 16) &&& 252645135 := ⟨_, rfl⟩
  obtain ⟨r1, r2, r3, r4, r5⟩ := swar_pop x.toNat y1 y2 y3 (by omega) h1 h2 h3
  have u1 : ushr32 x 1 = ((x.toNat / 2 : Nat) : Int) := ushr32_nat (k := 1) hx (by decide)
  have a1 : and32 (ushr32 x 1) 1431655765 = ((x.toNat / 2 &&& 1431655765 : Nat) : Int) := by
    rw [u1, and32_nat ⟨by omega, by omega⟩ ⟨by decide, by decide⟩, Int.toNat_natCast]
    rfl
  have b1 : and32 (y1 : Int) 858993459 = ((y1 &&& 858993459 : Nat) : Int) := by
    rw [and32_nat ⟨by omega, by omega⟩ ⟨by decide, by decide⟩, Int.toNat_natCast]
    rfl
  have u2 : ushr32 (y1 : Int) 2 = ((y1 / 4 : Nat) : Int) := ushr32_nat (x := (y1 : Int)) (k := 2) ⟨by omega, by omega⟩ (by decide)
  have b2 : and32 (ushr32 (y1 : Int) 2) 858993459 = ((y1 / 4 &&& 858993459 : Nat) : Int) := by
    rw [u2, and32_nat ⟨by omega, by omega⟩ ⟨by decide, by decide⟩, Int.toNat_natCast]
    rfl
  have u3 : ushr32 (y2 : Int) 4 = ((y2 / 16 : Nat) : Int) := ushr32_nat (x := (y2 : Int)) (k := 4) ⟨by omega, by omega⟩ (by decide)
  have b3 : and32 ((y2 : Int) + ushr32 (y2 : Int) 4) 252645135 = (y3 : Int) := by
    rw [u3, ← Int.natCast_add, and32_nat ⟨by omega, by omega⟩ ⟨by decide, by decide⟩, Int.toNat_natCast, h3]
    rfl
  have u4 : ushr32 (y3 : Int) 8 = ((y3 / 256 : Nat) : Int) := ushr32_nat (x := (y3 : Int)) (k := 8) ⟨by omega, by omega⟩ (by decide)
  have u5 : ushr32 ((y3 : Int) + ushr32 (y3 : Int) 8) 16 = (((y3 + y3 / 256) / 65536 : Nat) : Int) := by
    rw [u4, ← Int.natCast_add]
    exact ushr32_nat (x := ((y3 + y3 / 256 : Nat) : Int)) (k := 16) ⟨by omega, by omega⟩ (by decide)
  have b4 : and32 ((y3 : Int) + ushr32 (y3 : Int) 8 + ushr32 ((y3 : Int) + ushr32 (y3 : Int) 8) 16) 63 = (popN 32 x.toNat : Int) := by
    rw [u5, u4, ← Int.natCast_add, ← Int.natCast_add, and32_nat ⟨by omega, by omega⟩ ⟨by decide, by decide⟩, Int.toNat_natCast, ← r1]
    have e : (63 : Int).toNat = 2 ^ 6 - 1 := rfl
    rw [e, Nat.and_two_pow_sub_one_eq_mod]
  have l1 : y1 &&& 858993459 ≤ 858993459 := Nat.and_le_right
  refine ⟨y1, y2, y3, a1, r2, ?_, ?_, ?_, ?_, ?_, ?_, ?_, u3, b3, ?_, u4, u5, b4⟩
  · rw [a1]; omega
  · rw [b1, b2, h2]; omega
  · rw [b1]; omega
  · rw [b1]; omega
  · rw [b2]; omega
  · omega
  · omega
  · omega

set_option maxHeartbeats 4000000 in
theorem j_bitCount  (m : Mem) (v : Int)   (hx : 0 ≤ v ∧ v < 2147483648) : Ct μJ6_bitCount_0f7a4 0 [vi v] m (ri fun x_ m' => (x_ = (popN 32 v.toNat : Int)) ∧ m = m') := by
  refine Ct_of_VF rfl (by decide +kernel) rfl (Nat.le_of_ble_eq_true rfl) ?_
  show V μJ6_bitCount_0f7a4 0 m _ 0 [(0, vi v)] [] m
  refine V_rg (k := 0) (x := v) rfl fun r_v => ?_
  obtain ⟨y1, y2, y3, a1, a2, b1, b2, l1, l2, l3, l4, l5, u3, b3, l6, u4, u5, b4⟩ := sw_ints v hx
  refine V_ld (pc := 0) dJ6_bitCount_0f7a4_0 (v := vi v) rfl rfl ?_
  refine V_ld (pc := 1) dJ6_bitCount_0f7a4_1 (v := vi v) rfl rfl ?_
  refine V_iconst (pc := 2) dJ6_bitCount_0f7a4_2 (by unfold I32; omega) ?_
  refine V_iushr (pc := 3) dJ6_bitCount_0f7a4_3 ?_
  refine V_ldcw (pc := 4) dJ6_bitCount_0f7a4_4 (x := 1431655765) kc_RJ6_265 (by unfold I32; omega) rfl ?_
  refine V_iand (pc := 7) dJ6_bitCount_0f7a4_7 ?_
  refine V_isub (pc := 8) dJ6_bitCount_0f7a4_8 (by unfold I32 at *; omega) ?_
  refine V_st (pc := 9) dJ6_bitCount_0f7a4_9 (ls' := [(0, vi (v - (and32 (ushr32 v 1) 1431655765)))]) rfl (Nat.le_of_ble_eq_true rfl) rfl ?_
  rw [b1]
  refine V_ld (pc := 10) dJ6_bitCount_0f7a4_10 (v := vi (y1 : Int)) rfl rfl ?_
  refine V_ldcw (pc := 11) dJ6_bitCount_0f7a4_11 (x := 858993459) kc_RJ6_266 (by unfold I32; omega) rfl ?_
  refine V_iand (pc := 14) dJ6_bitCount_0f7a4_14 ?_
  refine V_ld (pc := 15) dJ6_bitCount_0f7a4_15 (v := vi (y1 : Int)) rfl rfl ?_
  refine V_iconst (pc := 16) dJ6_bitCount_0f7a4_16 (by unfold I32; omega) ?_
  refine V_iushr (pc := 17) dJ6_bitCount_0f7a4_17 ?_
  refine V_ldcw (pc := 18) dJ6_bitCount_0f7a4_18 (x := 858993459) kc_RJ6_266 (by unfold I32; omega) rfl ?_
  refine V_iand (pc := 21) dJ6_bitCount_0f7a4_21 ?_
  refine V_iadd (pc := 22) dJ6_bitCount_0f7a4_22 (by unfold I32 at *; omega) ?_
  refine V_st (pc := 23) dJ6_bitCount_0f7a4_23 (ls' := [(0, vi ((and32 (y1 : Int) 858993459) + (and32 (ushr32 (y1 : Int) 2) 858993459)))]) rfl (Nat.le_of_ble_eq_true rfl) rfl ?_
  rw [b2]
  refine V_ld (pc := 24) dJ6_bitCount_0f7a4_24 (v := vi (y2 : Int)) rfl rfl ?_
  refine V_ld (pc := 25) dJ6_bitCount_0f7a4_25 (v := vi (y2 : Int)) rfl rfl ?_
  refine V_iconst (pc := 26) dJ6_bitCount_0f7a4_26 (by unfold I32; omega) ?_
  refine V_iushr (pc := 27) dJ6_bitCount_0f7a4_27 ?_
  refine V_iadd (pc := 28) dJ6_bitCount_0f7a4_28 (by unfold I32 at *; omega) ?_
  refine V_ldcw (pc := 29) dJ6_bitCount_0f7a4_29 (x := 252645135) kc_RJ6_267 (by unfold I32; omega) rfl ?_
  refine V_iand (pc := 32) dJ6_bitCount_0f7a4_32 ?_
  refine V_st (pc := 33) dJ6_bitCount_0f7a4_33 (ls' := [(0, vi (and32 ((y2 : Int) + (ushr32 (y2 : Int) 4)) 252645135))]) rfl (Nat.le_of_ble_eq_true rfl) rfl ?_
  rw [b3]
  refine V_ld (pc := 34) dJ6_bitCount_0f7a4_34 (v := vi (y3 : Int)) rfl rfl ?_
  refine V_ld (pc := 35) dJ6_bitCount_0f7a4_35 (v := vi (y3 : Int)) rfl rfl ?_
  refine V_bipush (pc := 36) dJ6_bitCount_0f7a4_36 (by unfold I32; omega) (by decide) ?_
  refine V_iushr (pc := 38) dJ6_bitCount_0f7a4_38 ?_
  refine V_iadd (pc := 39) dJ6_bitCount_0f7a4_39 (by unfold I32 at *; omega) ?_
  refine V_st (pc := 40) dJ6_bitCount_0f7a4_40 (ls' := [(0, vi ((y3 : Int) + (ushr32 (y3 : Int) 8)))]) rfl (Nat.le_of_ble_eq_true rfl) rfl ?_
  refine V_ld (pc := 41) dJ6_bitCount_0f7a4_41 (v := vi ((y3 : Int) + (ushr32 (y3 : Int) 8))) rfl rfl ?_
  refine V_ld (pc := 42) dJ6_bitCount_0f7a4_42 (v := vi ((y3 : Int) + (ushr32 (y3 : Int) 8))) rfl rfl ?_
  refine V_bipush (pc := 43) dJ6_bitCount_0f7a4_43 (by unfold I32; omega) (by decide) ?_
  refine V_iushr (pc := 45) dJ6_bitCount_0f7a4_45 ?_
  refine V_iadd (pc := 46) dJ6_bitCount_0f7a4_46 (by unfold I32 at *; omega) ?_
  refine V_st (pc := 47) dJ6_bitCount_0f7a4_47 (ls' := [(0, vi (((y3 : Int) + (ushr32 (y3 : Int) 8)) + (ushr32 ((y3 : Int) + (ushr32 (y3 : Int) 8)) 16)))]) rfl (Nat.le_of_ble_eq_true rfl) rfl ?_
  refine V_ld (pc := 48) dJ6_bitCount_0f7a4_48 (v := vi (((y3 : Int) + (ushr32 (y3 : Int) 8)) + (ushr32 ((y3 : Int) + (ushr32 (y3 : Int) 8)) 16))) rfl rfl ?_
  refine V_bipush (pc := 49) dJ6_bitCount_0f7a4_49 (by unfold I32; omega) (by decide) ?_
  refine V_iand (pc := 51) dJ6_bitCount_0f7a4_51 ?_
  refine V_reti (pc := 52) dJ6_bitCount_0f7a4_52 trivial ?_
  exact ⟨b4, rfl⟩

theorem bitsF_bd (f : Nat → Int) (n : Nat) (hf : ∀ k, k < n → f k = -5 ∨ (0 ≤ f k ∧ f k ≤ 25)) : ∀ q, q ≤ n → 0 ≤ bitsF f q ∧ bitsF f q < 67108864 := by
  intro q
  induction q with
  | zero =>
    intro _
    show (0 : Int) ≤ 0 ∧ (0 : Int) < 67108864
    omega
  | succ q ih =>
    intro hq
    have i := ih (by omega)
    show 0 ≤ (if 0 ≤ f q then or32 (bitsF f q) (shl32 1 (f q)) else bitsF f q) ∧ (if 0 ≤ f q then or32 (bitsF f q) (shl32 1 (f q)) else bitsF f q) < 67108864
    rcases hf q (by omega) with h | h
    · rw [if_neg (by omega)]; exact i
    · rw [if_pos h.1, shl32_one h]
      have p : 2 ^ (f q).toNat ≤ 2 ^ 25 := Nat.pow_le_pow_right (by decide) (by omega)
      have p1 : (2 ^ 25 : Nat) = 33554432 := by decide
      rw [p1] at p
      have pI : (0 : Int) ≤ ((2 ^ (f q).toNat : Nat) : Int) ∧ ((2 ^ (f q).toNat : Nat) : Int) < 2147483648 := ⟨Int.natCast_nonneg _, Int.ofNat_lt.mpr (Nat.lt_of_le_of_lt p (by decide))⟩
      rw [or32_nat ⟨i.1, by omega⟩ pI, Int.toNat_natCast]
      have l : (bitsF f q).toNat ||| 2 ^ (f q).toNat < 2 ^ 26 := Nat.or_lt_two_pow (by omega) (by omega)
      have p2 : (2 ^ 26 : Nat) = 67108864 := by decide
      rw [p2] at l
      omega

set_option maxHeartbeats 4000000 in
theorem c_match  (m : Mem) (j : Int) (w : Int) (M : Nat) (a : Nat) (b : Nat) (c : Nat)  (hL : Lay (mT m) (mR m)) (R_1_3 : mR m 1 3 = some M) (T_M : mT m M = (3, 4)) (R_M_0 : mR m M 0 = some a) (R_M_1 : mR m M 1 = some b) (R_M_2 : mR m M 2 = some c) (T_a : mT m a = (20, 33)) (T_b : mT m b = (20, 33)) (T_c : mT m c = (20, 1056)) (hr : ∀ j : Nat, j < 33 → 0 ≤ mI m a j ∧ mI m a j ≤ 100 ∧ 0 ≤ mI m b j ∧ mI m b j ≤ 100) (hn : 0 ≤ mI m M 3 ∧ mI m M 3 ≤ 33) (hl : ∀ k, k < 1056 → mI m c k = -5 ∨ (0 ≤ mI m c k ∧ mI m c k ≤ 25)) : Ct μX10_match 4 [vr 0, vi j, vi w] m (ri fun x_ m' => (x_ = if (0 ≤ j ∧ j < mI m M 3) ∧ 0 ≤ w ∧ w ≤ 3 then (if w = 0 then mI m a j.toNat else if w = 1 then mI m b j.toNat - mI m a j.toNat else if w = 2 then (popN 32 (bitsF (labC m c j) 32).toNat : Int) else bitsF (labC m c j) 32) else -1) ∧ m = m') := by
  refine Ct_of_V rfl (by decide) rfl (Nat.le_of_ble_eq_true rfl) ?_
  show V μX10_match 4 m _ 0 [(0, vr 0), (1, vi j), (2, vi w)] [] m
  refine V_rg (k := 1) (x := j) rfl fun r_j => ?_
  refine V_rg (k := 2) (x := w) rfl fun r_w => ?_
  refine V_ld (pc := 0) dX10_match_0 (v := vr 0) rfl rfl ?_
  refine V_getRv (pc := 1) dX10_match_1 (o' := 1) fw_RX10_12 rfl hL.t0 hL.r0_0 ?_
  refine V_getRv (pc := 4) dX10_match_4 (o' := M) fw_RX10_69 rfl hL.t1 R_1_3 ?_
  refine V_ld (pc := 7) dX10_match_7 (v := vi j) rfl rfl ?_
  refine V_callV (pc := 8) dX10_match_8 (F' := 0) (As := [vi j]) (st := []) cw_RX10_181 rfl rfl T_M (by decide) (Nat.le_of_ble_eq_true rfl) (by omega) (c_M_has  m M j   T_M) ?_
  rintro _ _ ⟨x8, rfl, hx8, rfl⟩ ok8 le8
  refine V_if_ne (pc := 11) dX10_match_11 (tgt := 16) rfl (fun h11 => ?_) (fun h11 => ?_)
  · skip
    refine V_ld (pc := 16) dX10_match_16 (v := vi w) rfl rfl ?_
    by_cases h17_0 : w = 0
    · skip
      refine V_tsIn (pc := 17) dX10_match_17 (cx := 0) (off := 31) (tgt := 48) h17_0 (by omega) rfl rfl ?_
      refine V_ld (pc := 48) dX10_match_48 (v := vr 0) rfl rfl ?_
      refine V_getRv (pc := 49) dX10_match_49 (o' := 1) fw_RX10_12 rfl hL.t0 hL.r0_0 ?_
      refine V_getRv (pc := 52) dX10_match_52 (o' := M) fw_RX10_69 rfl hL.t1 R_1_3 ?_
      refine V_ld (pc := 55) dX10_match_55 (v := vi j) rfl rfl ?_
      refine V_callV (pc := 56) dX10_match_56 (F' := 1) (As := [vi j]) (st := []) cw_RX10_184 rfl rfl T_M (by decide) (Nat.le_of_ble_eq_true rfl) (by omega) (c_startOf  m M j a  T_M R_M_0 T_a) ?_
      rintro _ _ ⟨x56, rfl, hx56, rfl⟩ ok56 le56
      refine V_reti (pc := 59) dX10_match_59 trivial ?_
      exact ⟨by omega, rfl⟩
    by_cases h17_1 : w = 1
    · skip
      refine V_tsIn (pc := 17) dX10_match_17 (cx := 1) (off := 43) (tgt := 60) h17_1 (by omega) rfl rfl ?_
      refine V_ld (pc := 60) dX10_match_60 (v := vr 0) rfl rfl ?_
      refine V_getRv (pc := 61) dX10_match_61 (o' := 1) fw_RX10_12 rfl hL.t0 hL.r0_0 ?_
      refine V_getRv (pc := 64) dX10_match_64 (o' := M) fw_RX10_69 rfl hL.t1 R_1_3 ?_
      refine V_ld (pc := 67) dX10_match_67 (v := vi j) rfl rfl ?_
      refine V_callV (pc := 68) dX10_match_68 (F' := 1) (As := [vi j]) (st := []) cw_RX10_187 rfl rfl T_M (by decide) (Nat.le_of_ble_eq_true rfl) (by omega) (c_rowsOf  m M j a b  T_M R_M_0 R_M_1 T_a T_b (by first | assumption | omega)) ?_
      rintro _ _ ⟨x68, rfl, hx68, rfl⟩ ok68 le68
      refine V_reti (pc := 71) dX10_match_71 trivial ?_
      exact ⟨by omega, rfl⟩
    by_cases h17_2 : w = 2
    · skip
      refine V_tsIn (pc := 17) dX10_match_17 (cx := 2) (off := 55) (tgt := 72) h17_2 (by omega) rfl rfl ?_
      refine V_ld (pc := 72) dX10_match_72 (v := vr 0) rfl rfl ?_
      refine V_getRv (pc := 73) dX10_match_73 (o' := 1) fw_RX10_12 rfl hL.t0 hL.r0_0 ?_
      refine V_getRv (pc := 76) dX10_match_76 (o' := M) fw_RX10_69 rfl hL.t1 R_1_3 ?_
      refine V_ld (pc := 79) dX10_match_79 (v := vi j) rfl rfl ?_
      refine V_callV (pc := 80) dX10_match_80 (F' := 2) (As := [vi j]) (st := []) cw_RX10_190 rfl rfl T_M (by decide) (Nat.le_of_ble_eq_true rfl) (by omega) (c_lettersOf  m M j c  T_M R_M_2 T_c (by omega)) ?_
      rintro _ _ ⟨x80, rfl, rfl, rfl⟩ ok80 le80
      refine V_callS (pc := 83) dX10_match_83 (F' := 0) (As := [vi (bitsF (labC m c j) 32)]) (st := []) cw_RX10_193 rfl rfl (Nat.le_of_ble_eq_true rfl) (by omega) (j_bitCount  m (bitsF (labC m c j) 32)   (by have := bitsF_bd (labC m c j) 32 (fun k hk => hl _ (by omega)) 32 (by omega); omega)) ?_
      rintro _ _ ⟨x83, rfl, hx83, rfl⟩ ok83 le83
      refine V_reti (pc := 86) dX10_match_86 trivial ?_
      exact ⟨by omega, rfl⟩
    by_cases h17_3 : w = 3
    · skip
      refine V_tsIn (pc := 17) dX10_match_17 (cx := 3) (off := 70) (tgt := 87) h17_3 (by omega) rfl rfl ?_
      refine V_ld (pc := 87) dX10_match_87 (v := vr 0) rfl rfl ?_
      refine V_getRv (pc := 88) dX10_match_88 (o' := 1) fw_RX10_12 rfl hL.t0 hL.r0_0 ?_
      refine V_getRv (pc := 91) dX10_match_91 (o' := M) fw_RX10_69 rfl hL.t1 R_1_3 ?_
      refine V_ld (pc := 94) dX10_match_94 (v := vi j) rfl rfl ?_
      refine V_callV (pc := 95) dX10_match_95 (F' := 2) (As := [vi j]) (st := []) cw_RX10_190 rfl rfl T_M (by decide) (Nat.le_of_ble_eq_true rfl) (by omega) (c_lettersOf  m M j c  T_M R_M_2 T_c (by omega)) ?_
      rintro _ _ ⟨x95, rfl, hx95, rfl⟩ ok95 le95
      refine V_reti (pc := 98) dX10_match_98 trivial ?_
      exact ⟨by omega, rfl⟩
    refine V_tsOut (pc := 17) dX10_match_17 (tgt := 99) (by omega) rfl ?_
    refine V_iconst (pc := 99) dX10_match_99 (by unfold I32; omega) ?_
    refine V_reti (pc := 100) dX10_match_100 trivial ?_
    exact ⟨by omega, rfl⟩
  · skip
    refine V_iconst (pc := 14) dX10_match_14 (by unfold I32; omega) ?_
    refine V_reti (pc := 15) dX10_match_15 trivial ?_
    exact ⟨by omega, rfl⟩

set_option maxHeartbeats 4000000 in
theorem c_label  (m : Mem) (j : Int) (r : Int) (M : Nat) (a : Nat) (b : Nat) (c : Nat)  (hL : Lay (mT m) (mR m)) (R_1_3 : mR m 1 3 = some M) (T_M : mT m M = (3, 4)) (R_M_0 : mR m M 0 = some a) (R_M_1 : mR m M 1 = some b) (R_M_2 : mR m M 2 = some c) (T_a : mT m a = (20, 33)) (T_b : mT m b = (20, 33)) (T_c : mT m c = (20, 1056)) (hn : 0 ≤ mI m M 3 ∧ mI m M 3 ≤ 33) (hz : 0 ≤ mI m 2 1 ∧ mI m 2 1 ≤ 32) : Ct μX10_label 4 [vr 0, vi j, vi r] m (ri fun x_ m' => (x_ = if (0 ≤ j ∧ j < mI m M 3) ∧ 0 ≤ r ∧ r < mI m 2 1 then mI m c (j * 32 + r).toNat else -1) ∧ m = m') := by
  refine Ct_of_V rfl (by decide) rfl (Nat.le_of_ble_eq_true rfl) ?_
  show V μX10_label 4 m _ 0 [(0, vr 0), (1, vi j), (2, vi r)] [] m
  refine V_rg (k := 1) (x := j) rfl fun r_j => ?_
  refine V_rg (k := 2) (x := r) rfl fun r_r => ?_
  refine V_ld (pc := 0) dX10_label_0 (v := vr 0) rfl rfl ?_
  refine V_getRv (pc := 1) dX10_label_1 (o' := 1) fw_RX10_12 rfl hL.t0 hL.r0_0 ?_
  refine V_getRv (pc := 4) dX10_label_4 (o' := M) fw_RX10_69 rfl hL.t1 R_1_3 ?_
  refine V_ld (pc := 7) dX10_label_7 (v := vi j) rfl rfl ?_
  refine V_callV (pc := 8) dX10_label_8 (F' := 0) (As := [vi j]) (st := []) cw_RX10_181 rfl rfl T_M (by decide) (Nat.le_of_ble_eq_true rfl) (by omega) (c_M_has  m M j   T_M) ?_
  rintro _ _ ⟨x8, rfl, hx8, rfl⟩ ok8 le8
  refine V_if_eq (pc := 11) dX10_label_11 (tgt := 43) rfl (fun h11 => ?_) (fun h11 => ?_)
  · skip
    refine V_iconst (pc := 43) dX10_label_43 (by unfold I32; omega) ?_
    refine V_reti (pc := 44) dX10_label_44 trivial ?_
    exact ⟨by omega, rfl⟩
  · skip
    refine V_ld (pc := 14) dX10_label_14 (v := vr 0) rfl rfl ?_
    refine V_getRv (pc := 15) dX10_label_15 (o' := 1) fw_RX10_12 rfl hL.t0 hL.r0_0 ?_
    refine V_getRv (pc := 18) dX10_label_18 (o' := 2) fw_RX10_55 rfl hL.t1 hL.r1_0 ?_
    refine V_ld (pc := 21) dX10_label_21 (v := vi r) rfl rfl ?_
    refine V_callV (pc := 22) dX10_label_22 (F' := 0) (As := [vi r]) (st := []) cw_RX10_73 rfl rfl hL.t2 (by decide) (Nat.le_of_ble_eq_true rfl) (by omega) (c_hasRow  m 2 r   hL.t2) ?_
    rintro _ _ ⟨x22, rfl, hx22, rfl⟩ ok22 le22
    refine V_if_eq (pc := 25) dX10_label_25 (tgt := 43) rfl (fun h25 => ?_) (fun h25 => ?_)
    · skip
      refine V_iconst (pc := 43) dX10_label_43 (by unfold I32; omega) ?_
      refine V_reti (pc := 44) dX10_label_44 trivial ?_
      exact ⟨by omega, rfl⟩
    · skip
      refine V_ld (pc := 28) dX10_label_28 (v := vr 0) rfl rfl ?_
      refine V_getRv (pc := 29) dX10_label_29 (o' := 1) fw_RX10_12 rfl hL.t0 hL.r0_0 ?_
      refine V_getRv (pc := 32) dX10_label_32 (o' := M) fw_RX10_69 rfl hL.t1 R_1_3 ?_
      refine V_ld (pc := 35) dX10_label_35 (v := vi j) rfl rfl ?_
      refine V_ld (pc := 36) dX10_label_36 (v := vi r) rfl rfl ?_
      refine V_callV (pc := 37) dX10_label_37 (F' := 1) (As := [vi j, vi r]) (st := []) cw_RX10_198 rfl rfl T_M (by decide) (Nat.le_of_ble_eq_true rfl) (by omega) (c_letterOf  m M j r c  T_M R_M_2 T_c) ?_
      rintro _ _ ⟨x37, rfl, hx37, rfl⟩ ok37 le37
      refine V_goto (pc := 40) dX10_label_40 (tgt := 44) rfl ?_
      refine V_reti (pc := 44) dX10_label_44 trivial ?_
      exact ⟨by omega, rfl⟩

set_option maxHeartbeats 4000000 in
theorem c_covered  (m : Mem) (r : Int) (M : Nat) (a : Nat) (b : Nat) (c : Nat)  (hL : Lay (mT m) (mR m)) (R_1_3 : mR m 1 3 = some M) (T_M : mT m M = (3, 4)) (R_M_0 : mR m M 0 = some a) (R_M_1 : mR m M 1 = some b) (R_M_2 : mR m M 2 = some c) (T_a : mT m a = (20, 33)) (T_b : mT m b = (20, 33)) (T_c : mT m c = (20, 1056)) (hn : 0 ≤ mI m M 3 ∧ mI m M 3 ≤ 33) (hz : 0 ≤ mI m 2 1 ∧ mI m 2 1 ≤ 32) : Ct μX10_covered 4 [vr 0, vi r] m (ri fun x_ m' => (x_ = if 0 ≤ r ∧ r < mI m 2 1 then covF (fun j_ : Nat => mI m c ((j_ : Int) * 32 + r).toNat) (mI m M 3).toNat else -1) ∧ m = m') := by
  refine Ct_of_V rfl (by decide) rfl (Nat.le_of_ble_eq_true rfl) ?_
  show V μX10_covered 4 m _ 0 [(0, vr 0), (1, vi r)] [] m
  refine V_rg (k := 1) (x := r) rfl fun r_r => ?_
  refine V_ld (pc := 0) dX10_covered_0 (v := vr 0) rfl rfl ?_
  refine V_getRv (pc := 1) dX10_covered_1 (o' := 1) fw_RX10_12 rfl hL.t0 hL.r0_0 ?_
  refine V_getRv (pc := 4) dX10_covered_4 (o' := 2) fw_RX10_55 rfl hL.t1 hL.r1_0 ?_
  refine V_ld (pc := 7) dX10_covered_7 (v := vi r) rfl rfl ?_
  refine V_callV (pc := 8) dX10_covered_8 (F' := 0) (As := [vi r]) (st := []) cw_RX10_73 rfl rfl hL.t2 (by decide) (Nat.le_of_ble_eq_true rfl) (by omega) (c_hasRow  m 2 r   hL.t2) ?_
  rintro _ _ ⟨x8, rfl, hx8, rfl⟩ ok8 le8
  refine V_if_eq (pc := 11) dX10_covered_11 (tgt := 28) rfl (fun h11 => ?_) (fun h11 => ?_)
  · skip
    refine V_iconst (pc := 28) dX10_covered_28 (by unfold I32; omega) ?_
    refine V_reti (pc := 29) dX10_covered_29 trivial ?_
    exact ⟨by omega, rfl⟩
  · skip
    refine V_ld (pc := 14) dX10_covered_14 (v := vr 0) rfl rfl ?_
    refine V_getRv (pc := 15) dX10_covered_15 (o' := 1) fw_RX10_12 rfl hL.t0 hL.r0_0 ?_
    refine V_getRv (pc := 18) dX10_covered_18 (o' := M) fw_RX10_69 rfl hL.t1 R_1_3 ?_
    refine V_ld (pc := 21) dX10_covered_21 (v := vi r) rfl rfl ?_
    refine V_callV (pc := 22) dX10_covered_22 (F' := 2) (As := [vi r]) (st := []) cw_RX10_211 rfl rfl T_M (by decide) (Nat.le_of_ble_eq_true rfl) (by omega) (c_covering  m M r c  T_M R_M_2 T_c (by first | assumption | omega) (by omega)) ?_
    rintro _ _ ⟨x22, rfl, hx22, rfl⟩ ok22 le22
    refine V_goto (pc := 25) dX10_covered_25 (tgt := 29) rfl ?_
    refine V_reti (pc := 29) dX10_covered_29 trivial ?_
    exact ⟨by omega, rfl⟩
