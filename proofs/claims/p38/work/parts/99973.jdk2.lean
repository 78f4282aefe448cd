/-! THE JDK'S STRINGS AND BUILDERS, 2: a builder grows, a String is made -/
set_option maxHeartbeats 4000000 in
theorem j_rangeS (n : Nat) (nl : Nat) (m : Mem) (a : Nat) (L : Int)   (T_a : mT m a = (24, n)) (hp : L = (nl : Int) ∧ nl ≤ n ∧ n ≤ 100000 ∧ mN m + 1 ≤ NN ∧ mZ m + nl ≤ ZZ ∧ a < mN m) (hz : nl < n) : Ct μJ7_copyOfRange_39247 2 [vr a, vi 0, vi L] m (rq fun x_ m' => (x_ = some (mN m)) ∧ cpyI (newO m 24 nl) a 0 (mN m) 0 nl = m') := by
  refine Ct_of_VF rfl (by decide +kernel) rfl (Nat.le_of_ble_eq_true rfl) ?_
  show V μJ7_copyOfRange_39247 2 m _ 0 [(0, vr a), (1, vi 0), (2, vi L)] [] m
  refine V_rg (k := 1) (x := 0) rfl fun r_0 => ?_
  refine V_rg (k := 2) (x := L) rfl fun r_L => ?_
  refine V_ld (pc := 0) dJ7_copyOfRange_39247_0 (v := vi 0) rfl rfl ?_
  refine V_if_ne (pc := 1) dJ7_copyOfRange_39247_1 (tgt := 10) rfl (fun h_ => absurd h_ (by decide)) (fun _ => ?_)
  refine V_ld (pc := 4) dJ7_copyOfRange_39247_4 (v := vi L) rfl rfl ?_
  refine V_ld (pc := 5) dJ7_copyOfRange_39247_5 (v := vr a) rfl rfl ?_
  refine V_alenB (pc := 6) dJ7_copyOfRange_39247_6 T_a (by omega) ?_
  refine V_icmp_eq (pc := 7) dJ7_copyOfRange_39247_7 (tgt := 17) rfl (fun h7 => ?_) (fun h7 => ?_)
  · skip
    exfalso; omega
  · skip
    refine V_ld (pc := 10) dJ7_copyOfRange_39247_10 (v := vr a) rfl rfl ?_
    refine V_ld (pc := 11) dJ7_copyOfRange_39247_11 (v := vi 0) rfl rfl ?_
    refine V_ld (pc := 12) dJ7_copyOfRange_39247_12 (v := vi L) rfl rfl ?_
    refine V_callS (pc := 13) dJ7_copyOfRange_39247_13 (F' := 1) (As := [vr a, vi 0, vi L]) (st := []) cw_RJ7_339 rfl rfl (Nat.le_of_ble_eq_true rfl) (by omega) (j_rangeB n nl m a L   T_a hp) ?_
    rintro _ _ ⟨x13, rfl, hx13, rfl⟩ ok13 le13
    refine V_retq (pc := 16) dJ7_copyOfRange_39247_16 trivial ?_
    exact ⟨hx13, rfl⟩

set_option maxHeartbeats 4000000 in
theorem j_rangeC (n : Nat) (nl : Nat) (m : Mem) (a : Nat) (L : Int)   (T_a : mT m a = (24, n)) (hp : L = (nl : Int) ∧ nl ≤ n ∧ n ≤ 100000 ∧ mN m + 1 ≤ NN ∧ mZ m + nl ≤ ZZ ∧ a < mN m) (hz : nl = n) : Ct μJ7_copyOfRange_39247 2 [vr a, vi 0, vi L] m (rq fun x_ m' => (x_ = some (mN m)) ∧ clnB m a nl = m') := by
  refine Ct_of_VF rfl (by decide +kernel) rfl (Nat.le_of_ble_eq_true rfl) ?_
  show V μJ7_copyOfRange_39247 2 m _ 0 [(0, vr a), (1, vi 0), (2, vi L)] [] m
  refine V_rg (k := 1) (x := 0) rfl fun r_0 => ?_
  refine V_rg (k := 2) (x := L) rfl fun r_L => ?_
  subst hz
  refine V_ld (pc := 0) dJ7_copyOfRange_39247_0 (v := vi 0) rfl rfl ?_
  refine V_if_ne (pc := 1) dJ7_copyOfRange_39247_1 (tgt := 10) rfl (fun h_ => absurd h_ (by decide)) (fun _ => ?_)
  refine V_ld (pc := 4) dJ7_copyOfRange_39247_4 (v := vi L) rfl rfl ?_
  refine V_ld (pc := 5) dJ7_copyOfRange_39247_5 (v := vr a) rfl rfl ?_
  refine V_alenB (pc := 6) dJ7_copyOfRange_39247_6 T_a (by omega) ?_
  refine V_icmp_eq (pc := 7) dJ7_copyOfRange_39247_7 (tgt := 17) rfl (fun h7 => ?_) (fun h7 => ?_)
  · skip
    refine V_ld (pc := 17) dJ7_copyOfRange_39247_17 (v := vr a) rfl rfl ?_
    refine V_cloneBv (pc := 18) (mN m) rfl dJ7_copyOfRange_39247_18 wcl_1 T_a (by omega) (by omega) (by omega) (by omega) (Nat.le_of_ble_eq_true rfl) ?_
    refine V_castB (pc := 21) dJ7_copyOfRange_39247_21 cl_RJ7_311 (if_pos rfl) (Nat.lt_succ_self _) ?_
    refine V_retq (pc := 24) dJ7_copyOfRange_39247_24 trivial ?_
    exact ⟨rfl, rfl⟩
  · skip
    exfalso; omega

set_option maxHeartbeats 4000000 in
theorem b_init5 (n : Nat) (m : Mem) (s : Nat) (L : Int)   (T_s : mT m s = (12, 4)) (hp : L = (n : Int) ∧ n ≤ 100000 ∧ mN m + 1 ≤ NN ∧ mZ m + n ≤ ZZ ∧ s < mN m) : Ct μJ5_init_d00df 1 [vr s, vi L] m (rv fun m' => setI (setR (newO m 24 n) s 0 (some (mN m))) s 1 0 = m') := by
  refine Ct_of_VF rfl (by decide +kernel) rfl (Nat.le_of_ble_eq_true rfl) ?_
  show V μJ5_init_d00df 1 m _ 0 [(0, vr s), (1, vi L)] [] m
  refine V_rg (k := 1) (x := L) rfl fun r_L => ?_
  refine V_ld (pc := 0) dJ5_init_d00df_0 (v := vr s) rfl rfl ?_
  refine V_objInit (pc := 1) dJ5_init_d00df_1 oi_RJ5_3 wo_i wo_c (by omega) (Nat.le_of_ble_eq_true rfl) ?_
  refine V_getsC (pc := 4) dJ5_init_d00df_4 gw_RJ5_18 ?_
  refine V_if_eq (pc := 7) dJ5_init_d00df_7 (tgt := 25) rfl (fun h_ => absurd h_ (by decide)) (fun _ => ?_)
  refine V_ld (pc := 10) dJ5_init_d00df_10 (v := vr s) rfl rfl ?_
  refine V_ld (pc := 11) dJ5_init_d00df_11 (v := vi L) rfl rfl ?_
  refine V_newBv (pc := 12) (N := n) (mN m) rfl (by omega) dJ5_init_d00df_12 (by omega) (by show mZ m + n ≤ ZZ; omega) (by omega) (by omega) ?_
  refine V_putR (pc := 14) dJ5_init_d00df_14 fw_RJ5_15 rfl ((mT_newne (M := m) (c := 24) (n := n) (o := s) (mN m) rfl (by omega)).trans T_s) (Or.inl rfl) (fun o_ h_ => by cases h_; (try unfold NN at *); unfold SC; omega) ?_
  refine V_ld (pc := 17) dJ5_init_d00df_17 (v := vr s) rfl rfl ?_
  refine V_iconst (pc := 18) dJ5_init_d00df_18 (by unfold I32; omega) ?_
  refine V_putI (pc := 19) dJ5_init_d00df_19 fw_RJ5_22 rfl ((mT_newne (M := m) (c := 24) (n := n) (o := s) (mN m) rfl (by omega)).trans T_s) (Or.inl rfl) (Or.inr (Or.inr ⟨rfl, rfl⟩)) ?_
  refine V_goto (pc := 22) dJ5_init_d00df_22 (tgt := 38) rfl ?_
  refine V_retv (pc := 38) dJ5_init_d00df_38 trivial ?_
  exact rfl

set_option maxHeartbeats 4000000 in
theorem b_init  (m : Mem) (s : Nat)   (T_s : mT m s = (12, 4)) (hp : mN m + 1 ≤ NN ∧ mZ m + 16 ≤ ZZ ∧ s < mN m) : Ct μJ4_init_da8c8 2 [vr s] m (rv fun m' => setI (setR (newO m 24 16) s 0 (some (mN m))) s 1 0 = m') := by
  refine Ct_of_VF rfl (by decide +kernel) rfl (Nat.le_of_ble_eq_true rfl) ?_
  show V μJ4_init_da8c8 2 m _ 0 [(0, vr s)] [] m
  refine V_ld (pc := 0) dJ4_init_da8c8_0 (v := vr s) rfl rfl ?_
  refine V_bipush (pc := 1) dJ4_init_da8c8_1 (by unfold I32; omega) (by decide) ?_
  refine V_callI (pc := 3) dJ4_init_da8c8_3 (F' := 1) (As := [vi 16]) (st := []) cw_RJ4_1 rfl rfl (Nat.le_of_ble_eq_true rfl) (by omega) (b_init5 16 m s 16   T_s ⟨rfl, by omega, by omega, by omega, by omega⟩) ?_
  rintro _ _ ⟨rfl, rfl⟩ ok3 le3
  refine V_retv (pc := 6) dJ4_init_da8c8_6 trivial ?_
  exact rfl

set_option maxHeartbeats 4000000 in
theorem j_newLen  (m : Mem) (a : Int) (b : Int) (c : Int)   (hp : 0 ≤ a ∧ a ≤ 100000 ∧ 0 < b ∧ b ≤ 100000 ∧ 0 < c ∧ c ≤ 100002) : Ct μJ8_newLength_cabcc 1 [vi a, vi b, vi c] m (ri fun x_ m' => (x_ = a + (if b < c then c else b)) ∧ m = m') := by
  refine Ct_of_VF rfl (by decide +kernel) rfl (Nat.le_of_ble_eq_true rfl) ?_
  show V μJ8_newLength_cabcc 1 m _ 0 [(0, vi a), (1, vi b), (2, vi c)] [] m
  refine V_rg (k := 0) (x := a) rfl fun r_a => ?_
  refine V_rg (k := 1) (x := b) rfl fun r_b => ?_
  refine V_rg (k := 2) (x := c) rfl fun r_c => ?_
  refine V_ld (pc := 0) dJ8_newLength_cabcc_0 (v := vi a) rfl rfl ?_
  refine V_ld (pc := 1) dJ8_newLength_cabcc_1 (v := vi b) rfl rfl ?_
  refine V_ld (pc := 2) dJ8_newLength_cabcc_2 (v := vi c) rfl rfl ?_
  refine V_callS (pc := 3) dJ8_newLength_cabcc_3 (F' := 0) (As := [vi b, vi c]) (st := [vi a]) cw_RJ8_194 rfl rfl (Nat.le_of_ble_eq_true rfl) (by omega) (j_max_i  m b c   ) ?_
  rintro _ _ ⟨x3, rfl, hx3, rfl⟩ ok3 le3
  refine V_iadd (pc := 6) dJ8_newLength_cabcc_6 (by unfold I32 at *; split at hx3 <;> omega) ?_
  refine V_st (pc := 7) dJ8_newLength_cabcc_7 (ls' := [(3, vi (a + x3)), (0, vi a), (1, vi b), (2, vi c)]) rfl (Nat.le_of_ble_eq_true rfl) rfl ?_
  refine V_iconst (pc := 8) dJ8_newLength_cabcc_8 (by unfold I32; omega) ?_
  refine V_ld (pc := 9) dJ8_newLength_cabcc_9 (v := vi (a + x3)) rfl rfl ?_
  refine V_icmp_ge (pc := 10) dJ8_newLength_cabcc_10 (tgt := 21) rfl (fun h10 => ?_) (fun h10 => ?_)
  · skip
    refine V_ld (pc := 21) dJ8_newLength_cabcc_21 (v := vi a) rfl rfl ?_
    refine V_ld (pc := 22) dJ8_newLength_cabcc_22 (v := vi b) rfl rfl ?_
    exfalso; omega
  · skip
    refine V_ld (pc := 13) dJ8_newLength_cabcc_13 (v := vi (a + x3)) rfl rfl ?_
    refine V_ldc (pc := 14) dJ8_newLength_cabcc_14 (x := 2147483639) kc_RJ8_200 (by unfold I32; omega) rfl ?_
    refine V_icmp_gt (pc := 16) dJ8_newLength_cabcc_16 (tgt := 21) rfl (fun h16 => ?_) (fun h16 => ?_)
    · skip
      refine V_ld (pc := 21) dJ8_newLength_cabcc_21 (v := vi a) rfl rfl ?_
      refine V_ld (pc := 22) dJ8_newLength_cabcc_22 (v := vi b) rfl rfl ?_
      exfalso; omega
    · skip
      refine V_ld (pc := 19) dJ8_newLength_cabcc_19 (v := vi (a + x3)) rfl rfl ?_
      refine V_reti (pc := 20) dJ8_newLength_cabcc_20 trivial ?_
      exact ⟨by rw [hx3], rfl⟩

set_option maxHeartbeats 4000000 in
theorem b_newCap (n : Nat) (m : Mem) (s : Nat) (L : Int) (b : Nat)  (T_s : mT m s = (12, 4)) (R_s_0 : mR m s 0 = some b) (T_b : mT m b = (24, n)) (hc : mI m s 1 = 0) (hn : n ≤ 100000) (hL : (n : Int) < L ∧ L ≤ 100000) : Ct μJ5_newCapacity_0f7a4 2 [vr s, vi L] m (ri fun x_ m' => (x_ = (n : Int) + (if L - (n : Int) < (n : Int) + 2 then (n : Int) + 2 else L - (n : Int))) ∧ m = m') := by
  refine Ct_of_VF rfl (by decide +kernel) rfl (Nat.le_of_ble_eq_true rfl) ?_
  show V μJ5_newCapacity_0f7a4 2 m _ 0 [(0, vr s), (1, vi L)] [] m
  refine V_rg (k := 1) (x := L) rfl fun r_L => ?_
  refine V_ld (pc := 0) dJ5_newCapacity_0f7a4_0 (v := vr s) rfl rfl ?_
  refine V_getRv (pc := 1) dJ5_newCapacity_0f7a4_1 (o' := b) fw_RJ5_15 rfl T_s R_s_0 ?_
  refine V_alenB (pc := 4) dJ5_newCapacity_0f7a4_4 T_b (by omega) ?_
  refine V_st (pc := 5) dJ5_newCapacity_0f7a4_5 (ls' := [(2, vi ((n : Nat) : Int)), (0, vr s), (1, vi L)]) rfl (Nat.le_of_ble_eq_true rfl) rfl ?_
  refine V_ld (pc := 6) dJ5_newCapacity_0f7a4_6 (v := vi L) rfl rfl ?_
  refine V_ld (pc := 7) dJ5_newCapacity_0f7a4_7 (v := vr s) rfl rfl ?_
  refine V_getIv (pc := 8) dJ5_newCapacity_0f7a4_8 (v := 0) fw_RJ5_22 rfl T_s hc (fun g8 => ?_)
  refine V_ishl (pc := 11) dJ5_newCapacity_0f7a4_11 ?_
  rw [shl0 (x := L) (by unfold I32 at *; omega)]
  refine V_st (pc := 12) dJ5_newCapacity_0f7a4_12 (ls' := [(3, vi L), (2, vi ((n : Nat) : Int)), (0, vr s), (1, vi L)]) rfl (Nat.le_of_ble_eq_true rfl) rfl ?_
  refine V_ld (pc := 13) dJ5_newCapacity_0f7a4_13 (v := vi L) rfl rfl ?_
  refine V_ld (pc := 14) dJ5_newCapacity_0f7a4_14 (v := vi ((n : Nat) : Int)) rfl rfl ?_
  refine V_isub (pc := 15) dJ5_newCapacity_0f7a4_15 (by unfold I32 at *; omega) ?_
  refine V_st (pc := 16) dJ5_newCapacity_0f7a4_16 (ls' := [(4, vi (L - ((n : Nat) : Int))), (3, vi L), (2, vi ((n : Nat) : Int)), (0, vr s), (1, vi L)]) rfl (Nat.le_of_ble_eq_true rfl) rfl ?_
  refine V_ld (pc := 18) dJ5_newCapacity_0f7a4_18 (v := vi ((n : Nat) : Int)) rfl rfl ?_
  refine V_ld (pc := 19) dJ5_newCapacity_0f7a4_19 (v := vi (L - ((n : Nat) : Int))) rfl rfl ?_
  refine V_ld (pc := 21) dJ5_newCapacity_0f7a4_21 (v := vi ((n : Nat) : Int)) rfl rfl ?_
  refine V_iconst (pc := 22) dJ5_newCapacity_0f7a4_22 (by unfold I32; omega) ?_
  refine V_ld (pc := 23) dJ5_newCapacity_0f7a4_23 (v := vr s) rfl rfl ?_
  refine V_getIv (pc := 24) dJ5_newCapacity_0f7a4_24 (v := 0) fw_RJ5_22 rfl T_s hc (fun g24 => ?_)
  refine V_ishl (pc := 27) dJ5_newCapacity_0f7a4_27 ?_
  rw [shl0 (x := 2) (by unfold I32 at *; omega)]
  refine V_iadd (pc := 28) dJ5_newCapacity_0f7a4_28 (by unfold I32 at *; omega) ?_
  refine V_callS (pc := 29) dJ5_newCapacity_0f7a4_29 (F' := 1) (As := [vi ((n : Nat) : Int), vi (L - ((n : Nat) : Int)), vi (((n : Nat) : Int) + 2)]) (st := []) cw_RJ5_114 rfl rfl (Nat.le_of_ble_eq_true rfl) (by omega) (j_newLen  m ((n : Nat) : Int) (L - ((n : Nat) : Int)) (((n : Nat) : Int) + 2)   (by omega)) ?_
  rintro _ _ ⟨x29, rfl, hx29, rfl⟩ ok29 le29
  refine V_st (pc := 32) dJ5_newCapacity_0f7a4_32 (ls' := [(5, vi x29), (4, vi (L - ((n : Nat) : Int))), (3, vi L), (2, vi ((n : Nat) : Int)), (0, vr s), (1, vi L)]) rfl (Nat.le_of_ble_eq_true rfl) rfl ?_
  refine V_ld (pc := 34) dJ5_newCapacity_0f7a4_34 (v := vi x29) rfl rfl ?_
  refine V_ldc (pc := 36) dJ5_newCapacity_0f7a4_36 (x := 2147483647) kc_RJ5_39 (by unfold I32; omega) rfl ?_
  refine V_icmp_ne (pc := 38) dJ5_newCapacity_0f7a4_38 (tgt := 51) rfl (fun h38 => ?_) (fun h38 => ?_)
  · skip
    refine V_ld (pc := 51) dJ5_newCapacity_0f7a4_51 (v := vi x29) rfl rfl ?_
    refine V_ld (pc := 53) dJ5_newCapacity_0f7a4_53 (v := vr s) rfl rfl ?_
    refine V_getIv (pc := 54) dJ5_newCapacity_0f7a4_54 (v := 0) fw_RJ5_22 rfl T_s hc (fun g54 => ?_)
    refine V_ishr (pc := 57) dJ5_newCapacity_0f7a4_57 ?_
    rw [shr0 (x := x29) (by unfold I32 at *; omega)]
    refine V_reti (pc := 58) dJ5_newCapacity_0f7a4_58 trivial ?_
    exact ⟨hx29, rfl⟩
  · skip
    exfalso; split at hx29 <;> omega

set_option maxHeartbeats 4000000 in
theorem b_ensN (n : Nat) (m : Mem) (s : Nat) (L : Int) (b : Nat)  (T_s : mT m s = (12, 4)) (R_s_0 : mR m s 0 = some b) (T_b : mT m b = (24, n)) (hc : mI m s 1 = 0) (hn : n ≤ 100000) (hL : L ≤ (n : Int) ∧ 0 ≤ L) : Ct μJ5_ensureCapacityInternal_d00df 3 [vr s, vi L] m (rv fun m' => m = m') := by
  refine Ct_of_VF rfl (by decide +kernel) rfl (Nat.le_of_ble_eq_true rfl) ?_
  show V μJ5_ensureCapacityInternal_d00df 3 m _ 0 [(0, vr s), (1, vi L)] [] m
  refine V_rg (k := 1) (x := L) rfl fun r_L => ?_
  refine V_ld (pc := 0) dJ5_ensureCapacityInternal_d00df_0 (v := vr s) rfl rfl ?_
  refine V_getRv (pc := 1) dJ5_ensureCapacityInternal_d00df_1 (o' := b) fw_RJ5_15 rfl T_s R_s_0 ?_
  refine V_alenB (pc := 4) dJ5_ensureCapacityInternal_d00df_4 T_b (by omega) ?_
  refine V_ld (pc := 5) dJ5_ensureCapacityInternal_d00df_5 (v := vr s) rfl rfl ?_
  refine V_getIv (pc := 6) dJ5_ensureCapacityInternal_d00df_6 (v := 0) fw_RJ5_22 rfl T_s hc (fun g6 => ?_)
  refine V_ishr (pc := 9) dJ5_ensureCapacityInternal_d00df_9 ?_
  rw [shr0 (x := ((n : Nat) : Int)) (by unfold I32 at *; omega)]
  refine V_st (pc := 10) dJ5_ensureCapacityInternal_d00df_10 (ls' := [(2, vi ((n : Nat) : Int)), (0, vr s), (1, vi L)]) rfl (Nat.le_of_ble_eq_true rfl) rfl ?_
  refine V_ld (pc := 11) dJ5_ensureCapacityInternal_d00df_11 (v := vi L) rfl rfl ?_
  refine V_ld (pc := 12) dJ5_ensureCapacityInternal_d00df_12 (v := vi ((n : Nat) : Int)) rfl rfl ?_
  refine V_isub (pc := 13) dJ5_ensureCapacityInternal_d00df_13 (by unfold I32 at *; omega) ?_
  refine V_if_le (pc := 14) dJ5_ensureCapacityInternal_d00df_14 (tgt := 38) rfl (fun h14 => ?_) (fun h14 => ?_)
  · skip
    refine V_retv (pc := 38) dJ5_ensureCapacityInternal_d00df_38 trivial ?_
    exact rfl
  · skip
    exfalso; omega

set_option maxHeartbeats 4000000 in
theorem b_ensG (n : Nat) (cap : Nat) (m : Mem) (s : Nat) (L : Int) (b : Nat)  (T_s : mT m s = (12, 4)) (R_s_0 : mR m s 0 = some b) (T_b : mT m b = (24, n)) (hc : mI m s 1 = 0) (hn : n ≤ 100000) (hL : (n : Int) < L ∧ L ≤ 40000 ∧ (cap : Int) = (n : Int) + (if L - (n : Int) < (n : Int) + 2 then (n : Int) + 2 else L - (n : Int))) (hr : mN m + 1 ≤ NN ∧ mZ m + cap ≤ ZZ ∧ b < mN m ∧ s < mN m) : Ct μJ5_ensureCapacityInternal_d00df 3 [vr s, vi L] m (rv fun m' => setR (cpyI (newO m 24 cap) b 0 (mN m) 0 n) s 0 (some (mN m)) = m') := by
  refine Ct_of_VF rfl (by decide +kernel) rfl (Nat.le_of_ble_eq_true rfl) ?_
  show V μJ5_ensureCapacityInternal_d00df 3 m _ 0 [(0, vr s), (1, vi L)] [] m
  refine V_rg (k := 1) (x := L) rfl fun r_L => ?_
  have hcap : n < cap ∧ cap ≤ 100000 := by obtain ⟨h1, h2, h3⟩ := hL; split at h3 <;> omega
  refine V_ld (pc := 0) dJ5_ensureCapacityInternal_d00df_0 (v := vr s) rfl rfl ?_
  refine V_getRv (pc := 1) dJ5_ensureCapacityInternal_d00df_1 (o' := b) fw_RJ5_15 rfl T_s R_s_0 ?_
  refine V_alenB (pc := 4) dJ5_ensureCapacityInternal_d00df_4 T_b (by omega) ?_
  refine V_ld (pc := 5) dJ5_ensureCapacityInternal_d00df_5 (v := vr s) rfl rfl ?_
  refine V_getIv (pc := 6) dJ5_ensureCapacityInternal_d00df_6 (v := 0) fw_RJ5_22 rfl T_s hc (fun g6 => ?_)
  refine V_ishr (pc := 9) dJ5_ensureCapacityInternal_d00df_9 ?_
  rw [shr0 (x := ((n : Nat) : Int)) (by unfold I32 at *; omega)]
  refine V_st (pc := 10) dJ5_ensureCapacityInternal_d00df_10 (ls' := [(2, vi ((n : Nat) : Int)), (0, vr s), (1, vi L)]) rfl (Nat.le_of_ble_eq_true rfl) rfl ?_
  refine V_ld (pc := 11) dJ5_ensureCapacityInternal_d00df_11 (v := vi L) rfl rfl ?_
  refine V_ld (pc := 12) dJ5_ensureCapacityInternal_d00df_12 (v := vi ((n : Nat) : Int)) rfl rfl ?_
  refine V_isub (pc := 13) dJ5_ensureCapacityInternal_d00df_13 (by unfold I32 at *; omega) ?_
  refine V_if_le (pc := 14) dJ5_ensureCapacityInternal_d00df_14 (tgt := 38) rfl (fun h14 => ?_) (fun h14 => ?_)
  · skip
    refine V_retv (pc := 38) dJ5_ensureCapacityInternal_d00df_38 trivial ?_
    first | (exfalso; omega) | exact rfl
  · skip
    refine V_ld (pc := 17) dJ5_ensureCapacityInternal_d00df_17 (v := vr s) rfl rfl ?_
    refine V_ld (pc := 18) dJ5_ensureCapacityInternal_d00df_18 (v := vr s) rfl rfl ?_
    refine V_getRv (pc := 19) dJ5_ensureCapacityInternal_d00df_19 (o' := b) fw_RJ5_15 rfl T_s R_s_0 ?_
    refine V_ld (pc := 22) dJ5_ensureCapacityInternal_d00df_22 (v := vr s) rfl rfl ?_
    refine V_ld (pc := 23) dJ5_ensureCapacityInternal_d00df_23 (v := vi L) rfl rfl ?_
    refine V_callU (pc := 24) dJ5_ensureCapacityInternal_d00df_24 (F' := 2) (As := [vi L]) (st := [vr b, vr s]) cw_RJ5_104 rfl rfl T_s (Nat.le_of_ble_eq_true rfl) (by omega) (b_newCap n m s L b  T_s R_s_0 T_b (by first | assumption | omega) (by first | assumption | omega) (by omega)) ?_
    rintro _ _ ⟨x24, rfl, hx24, rfl⟩ ok24 le24
    have hxc : x24 = (cap : Int) := by rw [hx24]; exact hL.2.2.symm
    refine V_ld (pc := 27) dJ5_ensureCapacityInternal_d00df_27 (v := vr s) rfl rfl ?_
    refine V_getIv (pc := 28) dJ5_ensureCapacityInternal_d00df_28 (v := 0) fw_RJ5_22 rfl T_s hc (fun g28 => ?_)
    refine V_ishl (pc := 31) dJ5_ensureCapacityInternal_d00df_31 ?_
    rw [shl0 (x := x24) (by unfold I32 at *; omega)]
    refine V_callS (pc := 32) dJ5_ensureCapacityInternal_d00df_32 (F' := 1) (As := [vr b, vi x24]) (st := [vr s]) cw_RJ5_108 rfl rfl (Nat.le_of_ble_eq_true rfl) (by omega) (j_copyB n cap m b x24   T_b ⟨hxc, by omega, by omega, by omega, by omega, by omega⟩) ?_
    rintro _ _ ⟨x32, rfl, hx32, rfl⟩ ok32 le32
    subst hx32
    refine V_putR (pc := 35) dJ5_ensureCapacityInternal_d00df_35 fw_RJ5_15 rfl ((mT_newne (M := m) (mN m) rfl (by omega)).trans T_s) (Or.inl rfl) (fun o_ h_ => by cases h_; unfold NN at *; unfold SC; omega) ?_
    refine V_retv (pc := 38) dJ5_ensureCapacityInternal_d00df_38 trivial ?_
    first | (exfalso; omega) | exact rfl
