/-! THE JDK'S STRINGS AND BUILDERS, 1: what is read, what is copied -/
theorem shr0 {x : Int} (h : I32 x) : shr32 x 0 = x := by
  unfold shr32
  rw [show Int32.ofInt 0 = (0 : Int32) from rfl, sb_shr0]
  exact i32_toInt h
theorem shl0 {x : Int} (h : I32 x) : shl32 x 0 = x := by
  unfold shl32
  rw [show Int32.ofInt 0 = (0 : Int32) from rfl, sb_shl0]
  exact i32_toInt h
theorem shr0n (n : Nat) (h : n ≤ 1000000) : shr32 (n : Int) 0 = (n : Int) := shr0 (by unfold I32; omega)
theorem shl0n (n : Nat) (h : n ≤ 1000000) : shl32 (n : Int) 0 = (n : Int) := shl0 (by unfold I32; omega)
theorem and255 {x : Int} (h : 0 ≤ x ∧ x < 128) : and32 x 255 = x := by
  have key : ∀ k : Fin 128, and32 (k.val : Int) 255 = (k.val : Int) := by decide +kernel
  have h1 := key ⟨x.toNat, by omega⟩
  have e : ((x.toNat : Nat) : Int) = x := by omega
  simp only [e] at h1
  exact h1
set_option maxHeartbeats 4000000 in
theorem s_coder  (m : Mem) (o : Nat)   (T_o : mT m o = (11, 4)) (hc : mI m o 1 = 0) : Ct μJ0_coder_7d493 0 [vr o] m (ri fun x_ m' => (x_ = 0) ∧ m = m') := by
  refine Ct_of_VF rfl (by decide +kernel) rfl (Nat.le_of_ble_eq_true rfl) ?_
  show V μJ0_coder_7d493 0 m _ 0 [(0, vr o)] [] m
  refine V_getsC (pc := 0) dJ0_coder_7d493_0 gw_RJ0_38 ?_
  refine V_if_eq (pc := 3) dJ0_coder_7d493_3 (tgt := 13) rfl (fun h_ => absurd h_ (by decide)) (fun _ => ?_)
  refine V_ld (pc := 6) dJ0_coder_7d493_6 (v := vr o) rfl rfl ?_
  refine V_getSc (pc := 7) dJ0_coder_7d493_7 fw_RJ0_15 T_o hc ?_
  refine V_goto (pc := 10) dJ0_coder_7d493_10 (tgt := 14) rfl ?_
  refine V_reti (pc := 14) dJ0_coder_7d493_14 (show _ = (0 : Int) from by first | rfl | omega) ?_
  exact ⟨by omega, rfl⟩

set_option maxHeartbeats 4000000 in
theorem s_isLatin1  (m : Mem) (o : Nat)   (T_o : mT m o = (11, 4)) (hc : mI m o 1 = 0) : Ct μJ0_isLatin1_aae02 0 [vr o] m (ri fun x_ m' => (x_ = 1) ∧ m = m') := by
  refine Ct_of_VF rfl (by decide +kernel) rfl (Nat.le_of_ble_eq_true rfl) ?_
  show V μJ0_isLatin1_aae02 0 m _ 0 [(0, vr o)] [] m
  refine V_getsC (pc := 0) dJ0_isLatin1_aae02_0 gw_RJ0_38 ?_
  refine V_if_eq (pc := 3) dJ0_isLatin1_aae02_3 (tgt := 17) rfl (fun h_ => absurd h_ (by decide)) (fun _ => ?_)
  refine V_ld (pc := 6) dJ0_isLatin1_aae02_6 (v := vr o) rfl rfl ?_
  refine V_getSc (pc := 7) dJ0_isLatin1_aae02_7 fw_RJ0_15 T_o hc ?_
  refine V_if_ne (pc := 10) dJ0_isLatin1_aae02_10 (tgt := 17) rfl (fun h_ => absurd h_ (by decide)) (fun _ => ?_)
  refine V_iconst (pc := 13) dJ0_isLatin1_aae02_13 (by unfold I32; omega) ?_
  refine V_goto (pc := 14) dJ0_isLatin1_aae02_14 (tgt := 18) rfl ?_
  refine V_reti (pc := 18) dJ0_isLatin1_aae02_18 (show _ = (0 : Int) ∨ _ = (1 : Int) from by first | exact Or.inl rfl | exact Or.inr rfl | omega) ?_
  exact ⟨by omega, rfl⟩

set_option maxHeartbeats 4000000 in
theorem s_length (n : Nat) (m : Mem) (o : Nat) (b : Nat)  (T_o : mT m o = (11, 4)) (R_o_0 : mR m o 0 = some b) (T_b : mT m b = (24, n)) (hc : mI m o 1 = 0) (hn : n ≤ 100000) : Ct μJ0_length_8abf5 1 [vr o] m (ri fun x_ m' => (x_ = (n : Int)) ∧ m = m') := by
  refine Ct_of_VF rfl (by decide +kernel) rfl (Nat.le_of_ble_eq_true rfl) ?_
  show V μJ0_length_8abf5 1 m _ 0 [(0, vr o)] [] m
  refine V_ld (pc := 0) dJ0_length_8abf5_0 (v := vr o) rfl rfl ?_
  refine V_getSv (pc := 1) dJ0_length_8abf5_1 (b := b) fw_RJ0_9 T_o R_o_0 ?_
  refine V_alenB (pc := 4) dJ0_length_8abf5_4 T_b (by omega) ?_
  refine V_ld (pc := 5) dJ0_length_8abf5_5 (v := vr o) rfl rfl ?_
  refine V_callVS (pc := 6) dJ0_length_8abf5_6 (F' := 0) (As := []) (st := [vi ((n : Nat) : Int)]) cw_RJ0_335 rfl rfl T_o (Nat.le_of_ble_eq_true rfl) (by omega) (s_coder  m o   T_o hc) ?_
  rintro _ _ ⟨x6, rfl, hx6, rfl⟩ ok6 le6
  subst hx6
  refine V_ishr (pc := 9) dJ0_length_8abf5_9 ?_
  rw [shr0 (x := ((n : Nat) : Int)) (by unfold I32 at *; omega)]
  refine V_reti (pc := 10) dJ0_length_8abf5_10 trivial ?_
  exact ⟨rfl, rfl⟩

set_option maxHeartbeats 4000000 in
theorem b_isLatin1  (m : Mem) (s : Nat)   (T_s : mT m s = (12, 4)) (hc : mI m s 1 = 0) : Ct μJ5_isLatin1_aae02 0 [vr s] m (ri fun x_ m' => (x_ = 1) ∧ m = m') := by
  refine Ct_of_VF rfl (by decide +kernel) rfl (Nat.le_of_ble_eq_true rfl) ?_
  show V μJ5_isLatin1_aae02 0 m _ 0 [(0, vr s)] [] m
  refine V_getsC (pc := 0) dJ5_isLatin1_aae02_0 gw_RJ5_18 ?_
  refine V_if_eq (pc := 3) dJ5_isLatin1_aae02_3 (tgt := 17) rfl (fun h_ => absurd h_ (by decide)) (fun _ => ?_)
  refine V_ld (pc := 6) dJ5_isLatin1_aae02_6 (v := vr s) rfl rfl ?_
  refine V_getIv (pc := 7) dJ5_isLatin1_aae02_7 (v := 0) fw_RJ5_22 rfl T_s hc (fun g7 => ?_)
  refine V_if_ne (pc := 10) dJ5_isLatin1_aae02_10 (tgt := 17) rfl (fun h_ => absurd h_ (by decide)) (fun _ => ?_)
  refine V_iconst (pc := 13) dJ5_isLatin1_aae02_13 (by unfold I32; omega) ?_
  refine V_goto (pc := 14) dJ5_isLatin1_aae02_14 (tgt := 18) rfl ?_
  refine V_reti (pc := 18) dJ5_isLatin1_aae02_18 (show _ = (0 : Int) ∨ _ = (1 : Int) from by first | exact Or.inl rfl | exact Or.inr rfl | omega) ?_
  exact ⟨by omega, rfl⟩

set_option maxHeartbeats 4000000 in
theorem b_length5  (m : Mem) (s : Nat)   (T_s : mT m s = (12, 4)) : Ct μJ5_length_8abf5 0 [vr s] m (ri fun x_ m' => (x_ = mI m s 3) ∧ m = m') := by
  refine Ct_of_VF rfl (by decide +kernel) rfl (Nat.le_of_ble_eq_true rfl) ?_
  show V μJ5_length_8abf5 0 m _ 0 [(0, vr s)] [] m
  refine V_ld (pc := 0) dJ5_length_8abf5_0 (v := vr s) rfl rfl ?_
  refine V_getIv (pc := 1) dJ5_length_8abf5_1 (v := mI m s 3) fw_RJ5_79 rfl T_s rfl (fun g1 => ?_)
  refine V_reti (pc := 4) dJ5_length_8abf5_4 trivial ?_
  exact ⟨by omega, rfl⟩

set_option maxHeartbeats 4000000 in
theorem b_length  (m : Mem) (s : Nat)   (T_s : mT m s = (12, 4)) : Ct μJ4_length_8abf5 1 [vr s] m (ri fun x_ m' => (x_ = mI m s 3) ∧ m = m') := by
  refine Ct_of_VF rfl (by decide +kernel) rfl (Nat.le_of_ble_eq_true rfl) ?_
  show V μJ4_length_8abf5 1 m _ 0 [(0, vr s)] [] m
  refine V_ld (pc := 0) dJ4_length_8abf5_0 (v := vr s) rfl rfl ?_
  refine V_callSU (pc := 1) dJ4_length_8abf5_1 (F' := 0) (As := []) (st := []) cw_RJ4_343 rfl rfl T_s (Nat.le_of_ble_eq_true rfl) (by omega) (b_length5  m s   T_s) ?_
  rintro _ _ ⟨x1, rfl, hx1, rfl⟩ ok1 le1
  refine V_reti (pc := 4) dJ4_length_8abf5_4 trivial ?_
  exact ⟨by omega, rfl⟩

set_option maxHeartbeats 4000000 in
theorem b_getValue  (m : Mem) (s : Nat) (b : Nat)  (T_s : mT m s = (12, 4)) (R_s_0 : mR m s 0 = some b) : Ct μJ5_getValue_6d5f1 0 [vr s] m (rq fun x_ m' => (x_ = some b) ∧ m = m') := by
  refine Ct_of_VF rfl (by decide +kernel) rfl (Nat.le_of_ble_eq_true rfl) ?_
  show V μJ5_getValue_6d5f1 0 m _ 0 [(0, vr s)] [] m
  refine V_ld (pc := 0) dJ5_getValue_6d5f1_0 (v := vr s) rfl rfl ?_
  refine V_getRv (pc := 1) dJ5_getValue_6d5f1_1 (o' := b) fw_RJ5_15 rfl T_s R_s_0 ?_
  refine V_retq (pc := 4) dJ5_getValue_6d5f1_4 trivial ?_
  exact ⟨rfl, rfl⟩

set_option maxHeartbeats 4000000 in
theorem j_canEncode  (m : Mem) (x : Int)   (hx : 0 ≤ x ∧ x < 128) : Ct μJ1_canEncode_fc78d 0 [vi x] m (ri fun x_ m' => (x_ = 1) ∧ m = m') := by
  refine Ct_of_VF rfl (by decide +kernel) rfl (Nat.le_of_ble_eq_true rfl) ?_
  show V μJ1_canEncode_fc78d 0 m _ 0 [(0, vi x)] [] m
  refine V_rg (k := 0) (x := x) rfl fun r_x => ?_
  refine V_ld (pc := 0) dJ1_canEncode_fc78d_0 (v := vi x) rfl rfl ?_
  refine V_sipush (pc := 1) dJ1_canEncode_fc78d_1 (by unfold I32; omega) (by decide) ?_
  refine V_icmp_gt (pc := 4) dJ1_canEncode_fc78d_4 (tgt := 11) rfl (fun h4 => ?_) (fun h4 => ?_)
  · skip
    refine V_iconst (pc := 11) dJ1_canEncode_fc78d_11 (by unfold I32; omega) ?_
    refine V_reti (pc := 12) dJ1_canEncode_fc78d_12 (show _ = (0 : Int) ∨ _ = (1 : Int) from by first | exact Or.inl rfl | exact Or.inr rfl | omega) ?_
    first | exact ⟨rfl, rfl⟩ | (exfalso; omega)
  · skip
    refine V_iconst (pc := 7) dJ1_canEncode_fc78d_7 (by unfold I32; omega) ?_
    refine V_goto (pc := 8) dJ1_canEncode_fc78d_8 (tgt := 12) rfl ?_
    refine V_reti (pc := 12) dJ1_canEncode_fc78d_12 (show _ = (0 : Int) ∨ _ = (1 : Int) from by first | exact Or.inl rfl | exact Or.inr rfl | omega) ?_
    first | exact ⟨rfl, rfl⟩ | (exfalso; omega)

set_option maxHeartbeats 4000000 in
theorem j_check  (m : Mem) (i : Int) (n : Int) (q : Option Nat)   (hi : 0 ≤ i ∧ i < n) : Ct μJ3_checkIndex_8e157 0 [vi i, vi n, vq q] m (ri fun x_ m' => (x_ = i) ∧ m = m') := by
  refine Ct_of_VF rfl (by decide +kernel) rfl (Nat.le_of_ble_eq_true rfl) ?_
  show V μJ3_checkIndex_8e157 0 m _ 0 [(0, vi i), (1, vi n), (2, vq q)] [] m
  refine V_rg (k := 0) (x := i) rfl fun r_i => ?_
  refine V_rg (k := 1) (x := n) rfl fun r_n => ?_
  refine V_ld (pc := 0) dJ3_checkIndex_8e157_0 (v := vi i) rfl rfl ?_
  refine V_if_lt (pc := 1) dJ3_checkIndex_8e157_1 (tgt := 9) rfl (fun h1 => ?_) (fun h1 => ?_)
  · skip
    exfalso; omega
  · skip
    refine V_ld (pc := 4) dJ3_checkIndex_8e157_4 (v := vi i) rfl rfl ?_
    refine V_ld (pc := 5) dJ3_checkIndex_8e157_5 (v := vi n) rfl rfl ?_
    refine V_icmp_lt (pc := 6) dJ3_checkIndex_8e157_6 (tgt := 16) rfl (fun h6 => ?_) (fun h6 => ?_)
    · skip
      refine V_ld (pc := 16) dJ3_checkIndex_8e157_16 (v := vi i) rfl rfl ?_
      refine V_reti (pc := 17) dJ3_checkIndex_8e157_17 trivial ?_
      exact ⟨by omega, rfl⟩
    · skip
      exfalso; omega

set_option maxHeartbeats 4000000 in
theorem s_check  (m : Mem) (i : Int) (n : Int)   (hi : 0 ≤ i ∧ i < n) : Ct μJ0_checkIndex_df160 1 [vi i, vi n] m (rv fun m' => m = m') := by
  refine Ct_of_VF rfl (by decide +kernel) rfl (Nat.le_of_ble_eq_true rfl) ?_
  show V μJ0_checkIndex_df160 1 m _ 0 [(0, vi i), (1, vi n)] [] m
  refine V_rg (k := 0) (x := i) rfl fun r_i => ?_
  refine V_rg (k := 1) (x := n) rfl fun r_n => ?_
  refine V_ld (pc := 0) dJ0_checkIndex_df160_0 (v := vi i) rfl rfl ?_
  refine V_ld (pc := 1) dJ0_checkIndex_df160_1 (v := vi n) rfl rfl ?_
  refine V_getsF (pc := 2) dJ0_checkIndex_df160_2 gw_RJ0_1053 (fun q2 => ?_)
  refine V_callS (pc := 5) dJ0_checkIndex_df160_5 (F' := 0) (As := [vi i, vi n, vq q2]) (st := []) cw_RJ0_1059 rfl rfl (Nat.le_of_ble_eq_true rfl) (by omega) (j_check  m i n q2   (by first | assumption | omega)) ?_
  rintro _ _ ⟨x5, rfl, hx5, rfl⟩ ok5 le5
  refine V_pop (pc := 8) dJ0_checkIndex_df160_8 rfl ?_
  refine V_retv (pc := 9) dJ0_checkIndex_df160_9 trivial ?_
  exact rfl

set_option maxHeartbeats 4000000 in
theorem l_charAt (n : Nat) (y : Int) (m : Mem) (b : Nat) (i : Int)   (T_b : mT m b = (24, n)) (hi : 0 ≤ i ∧ i < (n : Int) ∧ n ≤ 100000) (hy : mI m b i.toNat = y ∧ 0 ≤ y ∧ y < 128) : Ct μJ1_charAt_3b067 2 [vr b, vi i] m (ri fun x_ m' => (x_ = y) ∧ m = m') := by
  refine Ct_of_VF rfl (by decide +kernel) rfl (Nat.le_of_ble_eq_true rfl) ?_
  show V μJ1_charAt_3b067 2 m _ 0 [(0, vr b), (1, vi i)] [] m
  refine V_rg (k := 1) (x := i) rfl fun r_i => ?_
  refine V_ld (pc := 0) dJ1_charAt_3b067_0 (v := vi i) rfl rfl ?_
  refine V_ld (pc := 1) dJ1_charAt_3b067_1 (v := vr b) rfl rfl ?_
  refine V_alenB (pc := 2) dJ1_charAt_3b067_2 T_b (by omega) ?_
  refine V_callS (pc := 3) dJ1_charAt_3b067_3 (F' := 1) (As := [vi i, vi ((n : Nat) : Int)]) (st := []) cw_RJ1_9 rfl rfl (Nat.le_of_ble_eq_true rfl) (by omega) (s_check  m i ((n : Nat) : Int)   (by first | assumption | omega)) ?_
  rintro _ _ ⟨rfl, rfl⟩ ok3 le3
  refine V_ld (pc := 6) dJ1_charAt_3b067_6 (v := vr b) rfl rfl ?_
  refine V_ld (pc := 7) dJ1_charAt_3b067_7 (v := vi i) rfl rfl ?_
  refine V_bald (pc := 8) dJ1_charAt_3b067_8 (v := y) T_b (by omega) hy.1 (fun g8 => ?_)
  refine V_sipush (pc := 9) dJ1_charAt_3b067_9 (by unfold I32; omega) (by decide) ?_
  refine V_iand (pc := 12) dJ1_charAt_3b067_12 ?_
  rw [and255 (x := y) (by omega)]
  refine V_i2c (pc := 13) dJ1_charAt_3b067_13 (by omega) ?_
  refine V_reti (pc := 14) dJ1_charAt_3b067_14 (show 0 ≤ _ ∧ _ < 128 from by omega) ?_
  exact ⟨rfl, rfl⟩

set_option maxHeartbeats 4000000 in
theorem s_charAt (n : Nat) (y : Int) (m : Mem) (o : Nat) (i : Int) (b : Nat)  (T_o : mT m o = (11, 4)) (R_o_0 : mR m o 0 = some b) (T_b : mT m b = (24, n)) (hc : mI m o 1 = 0) (hn : n ≤ 100000) (hi : 0 ≤ i ∧ i < (n : Int)) (hy : mI m b i.toNat = y ∧ 0 ≤ y ∧ y < 128) : Ct μJ0_charAt_5068e 3 [vr o, vi i] m (ri fun x_ m' => (x_ = y) ∧ m = m') := by
  refine Ct_of_VF rfl (by decide +kernel) rfl (Nat.le_of_ble_eq_true rfl) ?_
  show V μJ0_charAt_5068e 3 m _ 0 [(0, vr o), (1, vi i)] [] m
  refine V_rg (k := 1) (x := i) rfl fun r_i => ?_
  refine V_ld (pc := 0) dJ0_charAt_5068e_0 (v := vr o) rfl rfl ?_
  refine V_callVS (pc := 1) dJ0_charAt_5068e_1 (F' := 0) (As := []) (st := []) cw_RJ0_492 rfl rfl T_o (Nat.le_of_ble_eq_true rfl) (by omega) (s_isLatin1  m o   T_o hc) ?_
  rintro _ _ ⟨x1, rfl, hx1, rfl⟩ ok1 le1
  subst hx1
  refine V_if_eq (pc := 4) dJ0_charAt_5068e_4 (tgt := 16) rfl (fun h_ => absurd h_ (by decide)) (fun _ => ?_)
  refine V_ld (pc := 7) dJ0_charAt_5068e_7 (v := vr o) rfl rfl ?_
  refine V_getSv (pc := 8) dJ0_charAt_5068e_8 (b := b) fw_RJ0_9 T_o R_o_0 ?_
  refine V_ld (pc := 11) dJ0_charAt_5068e_11 (v := vi i) rfl rfl ?_
  refine V_callS (pc := 12) dJ0_charAt_5068e_12 (F' := 2) (As := [vr b, vi i]) (st := []) cw_RJ0_495 rfl rfl (Nat.le_of_ble_eq_true rfl) (by omega) (l_charAt n y m b i   T_b (by omega) hy) ?_
  rintro _ _ ⟨x12, rfl, hx12, rfl⟩ ok12 le12
  subst hx12
  refine V_reti (pc := 15) dJ0_charAt_5068e_15 (show 0 ≤ _ ∧ _ < 128 from by omega) ?_
  exact ⟨rfl, rfl⟩

set_option maxHeartbeats 4000000 in
theorem j_copyB (n : Nat) (nl : Nat) (m : Mem) (a : Nat) (L : Int)   (T_a : mT m a = (24, n)) (hp : L = (nl : Int) ∧ n < nl ∧ nl ≤ 100000 ∧ mN m + 1 ≤ NN ∧ mZ m + nl ≤ ZZ ∧ a < mN m) : Ct μJ7_copyOf_9075b 1 [vr a, vi L] m (rq fun x_ m' => (x_ = some (mN m)) ∧ cpyI (newO m 24 nl) a 0 (mN m) 0 n = m') := by
  refine Ct_of_VF rfl (by decide +kernel) rfl (Nat.le_of_ble_eq_true rfl) ?_
  show V μJ7_copyOf_9075b 1 m _ 0 [(0, vr a), (1, vi L)] [] m
  refine V_rg (k := 1) (x := L) rfl fun r_L => ?_
  refine V_ld (pc := 0) dJ7_copyOf_9075b_0 (v := vi L) rfl rfl ?_
  refine V_ld (pc := 1) dJ7_copyOf_9075b_1 (v := vr a) rfl rfl ?_
  refine V_alenB (pc := 2) dJ7_copyOf_9075b_2 T_a (by omega) ?_
  refine V_icmp_ne (pc := 3) dJ7_copyOf_9075b_3 (tgt := 14) rfl (fun h3 => ?_) (fun h3 => ?_)
  · skip
    refine V_ld (pc := 14) dJ7_copyOf_9075b_14 (v := vi L) rfl rfl ?_
    refine V_newBv (pc := 15) (N := nl) (mN m) rfl (by omega) dJ7_copyOf_9075b_15 (by omega) (by show mZ m + nl ≤ ZZ; omega) (by omega) (by omega) ?_
    refine V_st (pc := 17) dJ7_copyOf_9075b_17 (ls' := [(2, vr (mN m)), (0, vr a), (1, vi L)]) rfl (Nat.le_of_ble_eq_true rfl) rfl ?_
    refine V_ld (pc := 18) dJ7_copyOf_9075b_18 (v := vr a) rfl rfl ?_
    refine V_iconst (pc := 19) dJ7_copyOf_9075b_19 (by unfold I32; omega) ?_
    refine V_ld (pc := 20) dJ7_copyOf_9075b_20 (v := vr (mN m)) rfl rfl ?_
    refine V_iconst (pc := 21) dJ7_copyOf_9075b_21 (by unfold I32; omega) ?_
    refine V_ld (pc := 22) dJ7_copyOf_9075b_22 (v := vr a) rfl rfl ?_
    refine V_alenB (pc := 23) dJ7_copyOf_9075b_23 ((mT_newne (M := m) (c := 24) (n := nl) (o := a) (mN m) rfl (by omega)).trans T_a) (by omega) ?_
    refine V_ld (pc := 24) dJ7_copyOf_9075b_24 (v := vi L) rfl rfl ?_
    refine V_callS (pc := 25) dJ7_copyOf_9075b_25 (F' := 0) (As := [vi ((n : Nat) : Int), vi L]) (st := [vi 0, vr (mN m), vi 0, vr a]) cw_RJ7_304 rfl rfl (Nat.le_of_ble_eq_true rfl) (by omega) (j_min_i  (newO m 24 nl) ((n : Nat) : Int) L   ) ?_
    rintro _ _ ⟨x25, rfl, hx25, rfl⟩ ok25 le25
    refine V_acopyB (pc := 28) dJ7_copyOf_9075b_28 ac_RJ7_150 ((mT_newne (M := m) (c := 24) (n := nl) (o := a) (mN m) rfl (by omega)).trans T_a) (mT_news (M := m) rfl) (Nat.lt_succ_self _) (by omega) (by omega) (by omega) (by omega) (by omega) (by omega) (Nat.le_of_ble_eq_true rfl) ?_
    refine V_ld (pc := 31) dJ7_copyOf_9075b_31 (v := vr (mN m)) rfl rfl ?_
    refine V_retq (pc := 32) dJ7_copyOf_9075b_32 trivial ?_
    refine ⟨rfl, ?_⟩
    rw [show x25.toNat = n from by omega]
    rfl
  · skip
    exfalso; omega

set_option maxHeartbeats 4000000 in
theorem j_checkLen  (m : Mem) (a : Int) (b : Int)   (hp : a ≤ b) : Ct μJ7_checkLength_df160 0 [vi a, vi b] m (rv fun m' => m = m') := by
  refine Ct_of_VF rfl (by decide +kernel) rfl (Nat.le_of_ble_eq_true rfl) ?_
  show V μJ7_checkLength_df160 0 m _ 0 [(0, vi a), (1, vi b)] [] m
  refine V_rg (k := 0) (x := a) rfl fun r_a => ?_
  refine V_rg (k := 1) (x := b) rfl fun r_b => ?_
  refine V_ld (pc := 0) dJ7_checkLength_df160_0 (v := vi b) rfl rfl ?_
  refine V_ld (pc := 1) dJ7_checkLength_df160_1 (v := vi a) rfl rfl ?_
  refine V_icmp_ge (pc := 2) dJ7_checkLength_df160_2 (tgt := 37) rfl (fun h2 => ?_) (fun h2 => ?_)
  · skip
    refine V_retv (pc := 37) dJ7_checkLength_df160_37 trivial ?_
    first | exact rfl | (exfalso; omega)
  · skip
    exfalso; omega

set_option maxHeartbeats 4000000 in
theorem j_rangeB (n : Nat) (nl : Nat) (m : Mem) (a : Nat) (L : Int)   (T_a : mT m a = (24, n)) (hp : L = (nl : Int) ∧ nl ≤ n ∧ n ≤ 100000 ∧ mN m + 1 ≤ NN ∧ mZ m + nl ≤ ZZ ∧ a < mN m) : Ct μJ7_copyOfRangeByte_39247 1 [vr a, vi 0, vi L] m (rq fun x_ m' => (x_ = some (mN m)) ∧ cpyI (newO m 24 nl) a 0 (mN m) 0 nl = m') := by
  refine Ct_of_VF rfl (by decide +kernel) rfl (Nat.le_of_ble_eq_true rfl) ?_
  show V μJ7_copyOfRangeByte_39247 1 m _ 0 [(0, vr a), (1, vi 0), (2, vi L)] [] m
  refine V_rg (k := 1) (x := 0) rfl fun r_0 => ?_
  refine V_rg (k := 2) (x := L) rfl fun r_L => ?_
  refine V_ld (pc := 0) dJ7_copyOfRangeByte_39247_0 (v := vi 0) rfl rfl ?_
  refine V_ld (pc := 1) dJ7_copyOfRangeByte_39247_1 (v := vi L) rfl rfl ?_
  refine V_callS (pc := 2) dJ7_copyOfRangeByte_39247_2 (F' := 0) (As := [vi 0, vi L]) (st := []) cw_RJ7_343 rfl rfl (Nat.le_of_ble_eq_true rfl) (by omega) (j_checkLen  m 0 L   (by first | assumption | omega)) ?_
  rintro _ _ ⟨rfl, rfl⟩ ok2 le2
  refine V_ld (pc := 5) dJ7_copyOfRangeByte_39247_5 (v := vi L) rfl rfl ?_
  refine V_ld (pc := 6) dJ7_copyOfRangeByte_39247_6 (v := vi 0) rfl rfl ?_
  refine V_isub (pc := 7) dJ7_copyOfRangeByte_39247_7 (by unfold I32 at *; omega) ?_
  refine V_st (pc := 8) dJ7_copyOfRangeByte_39247_8 (ls' := [(3, vi (L - 0)), (0, vr a), (1, vi 0), (2, vi L)]) rfl (Nat.le_of_ble_eq_true rfl) rfl ?_
  refine V_ld (pc := 9) dJ7_copyOfRangeByte_39247_9 (v := vi (L - 0)) rfl rfl ?_
  refine V_newBv (pc := 10) (N := nl) (mN m) rfl (by omega) dJ7_copyOfRangeByte_39247_10 (by omega) (by show mZ m + nl ≤ ZZ; omega) (by omega) (by omega) ?_
  refine V_st (pc := 12) dJ7_copyOfRangeByte_39247_12 (ls' := [(4, vr (mN m)), (3, vi (L - 0)), (0, vr a), (1, vi 0), (2, vi L)]) rfl (Nat.le_of_ble_eq_true rfl) rfl ?_
  refine V_ld (pc := 14) dJ7_copyOfRangeByte_39247_14 (v := vr a) rfl rfl ?_
  refine V_ld (pc := 15) dJ7_copyOfRangeByte_39247_15 (v := vi 0) rfl rfl ?_
  refine V_ld (pc := 16) dJ7_copyOfRangeByte_39247_16 (v := vr (mN m)) rfl rfl ?_
  refine V_iconst (pc := 18) dJ7_copyOfRangeByte_39247_18 (by unfold I32; omega) ?_
  refine V_ld (pc := 19) dJ7_copyOfRangeByte_39247_19 (v := vr a) rfl rfl ?_
  refine V_alenB (pc := 20) dJ7_copyOfRangeByte_39247_20 ((mT_newne (M := m) (c := 24) (n := nl) (o := a) (mN m) rfl (by omega)).trans T_a) (by omega) ?_
  refine V_ld (pc := 21) dJ7_copyOfRangeByte_39247_21 (v := vi 0) rfl rfl ?_
  refine V_isub (pc := 22) dJ7_copyOfRangeByte_39247_22 (by unfold I32 at *; omega) ?_
  refine V_ld (pc := 23) dJ7_copyOfRangeByte_39247_23 (v := vi (L - 0)) rfl rfl ?_
  refine V_callS (pc := 24) dJ7_copyOfRangeByte_39247_24 (F' := 0) (As := [vi (((n : Nat) : Int) - 0), vi (L - 0)]) (st := [vi 0, vr (mN m), vi 0, vr a]) cw_RJ7_304 rfl rfl (Nat.le_of_ble_eq_true rfl) (by omega) (j_min_i  (newO m 24 nl) (((n : Nat) : Int) - 0) (L - 0)   ) ?_
  rintro _ _ ⟨x24, rfl, hx24, rfl⟩ ok24 le24
  refine V_acopyB (pc := 27) dJ7_copyOfRangeByte_39247_27 ac_RJ7_150 ((mT_newne (M := m) (c := 24) (n := nl) (o := a) (mN m) rfl (by omega)).trans T_a) (mT_news (M := m) rfl) (Nat.lt_succ_self _) (by omega) (by omega) (by omega) (by omega) (by omega) (by omega) (Nat.le_of_ble_eq_true rfl) ?_
  refine V_ld (pc := 30) dJ7_copyOfRangeByte_39247_30 (v := vr (mN m)) rfl rfl ?_
  refine V_retq (pc := 32) dJ7_copyOfRangeByte_39247_32 trivial ?_
  refine ⟨rfl, ?_⟩
  rw [show x24.toNat = nl from by omega]
  rfl
