/-! THE JDK'S STRINGS AND BUILDERS, 4: a figure is appended, a builder's text becomes a String -/
theorem dig_T {m : Mem} (h : okM m) : mT m (SC + 49) = (24, 100) := by rw [(h.2.2.2.2.1 _ (isOut_c 49 (by decide))).1, outT_49]
theorem dig_I {m : Mem} (h : okM m) {i : Int} (hi : 0 ≤ i ∧ i < 10) : mI m (SC + 49) (-(-i)).toNat = 48 + i := by
  rw [(h.2.2.2.2.1 _ (isOut_c 49 (by decide))).2.1]
  unfold outI
  rw [if_neg (by omega), if_pos rfl]
  omega
set_option maxHeartbeats 4000000 in
theorem j_size1  (m : Mem) (i : Int)   (hi : 0 ≤ i ∧ i < 10) : Ct μJ6_stringSize_0f7a4 0 [vi i] m (ri fun x_ m' => (x_ = 1) ∧ m = m') := by
  refine Ct_of_VF rfl (by decide +kernel) rfl (Nat.le_of_ble_eq_true rfl) ?_
  show V μJ6_stringSize_0f7a4 0 m _ 0 [(0, vi i)] [] m
  refine V_rg (k := 0) (x := i) rfl fun r_i => ?_
  refine V_iconst (pc := 0) dJ6_stringSize_0f7a4_0 (by unfold I32; omega) ?_
  refine V_st (pc := 1) dJ6_stringSize_0f7a4_1 (ls' := [(1, vi 1), (0, vi i)]) rfl (Nat.le_of_ble_eq_true rfl) rfl ?_
  refine V_ld (pc := 2) dJ6_stringSize_0f7a4_2 (v := vi i) rfl rfl ?_
  refine V_if_lt (pc := 3) dJ6_stringSize_0f7a4_3 (tgt := 11) rfl (fun h3 => ?_) (fun h3 => ?_)
  · skip
    refine V_bipush (pc := 11) dJ6_stringSize_0f7a4_11 (by unfold I32; omega) (by decide) ?_
    refine V_st (pc := 13) dJ6_stringSize_0f7a4_13 (ls' := [(2, vi (-10)), (1, vi 1), (0, vi i)]) rfl (Nat.le_of_ble_eq_true rfl) rfl ?_
    refine V_iconst (pc := 14) dJ6_stringSize_0f7a4_14 (by unfold I32; omega) ?_
    refine V_st (pc := 15) dJ6_stringSize_0f7a4_15 (ls' := [(3, vi 1), (2, vi (-10)), (1, vi 1), (0, vi i)]) rfl (Nat.le_of_ble_eq_true rfl) rfl ?_
    refine V_ld (pc := 16) dJ6_stringSize_0f7a4_16 (v := vi 1) rfl rfl ?_
    refine V_bipush (pc := 17) dJ6_stringSize_0f7a4_17 (by unfold I32; omega) (by decide) ?_
    refine V_icmp_ge (pc := 19) dJ6_stringSize_0f7a4_19 (tgt := 42) rfl (fun h_ => absurd h_ (by decide)) (fun _ => ?_)
    refine V_ld (pc := 22) dJ6_stringSize_0f7a4_22 (v := vi i) rfl rfl ?_
    refine V_ld (pc := 23) dJ6_stringSize_0f7a4_23 (v := vi (-10)) rfl rfl ?_
    refine V_icmp_le (pc := 24) dJ6_stringSize_0f7a4_24 (tgt := 31) rfl (fun h24 => ?_) (fun h24 => ?_)
    · skip
      exfalso; omega
    · skip
      refine V_ld (pc := 27) dJ6_stringSize_0f7a4_27 (v := vi 1) rfl rfl ?_
      refine V_ld (pc := 28) dJ6_stringSize_0f7a4_28 (v := vi 1) rfl rfl ?_
      refine V_iadd (pc := 29) dJ6_stringSize_0f7a4_29 (by unfold I32 at *; omega) ?_
      refine V_reti (pc := 30) dJ6_stringSize_0f7a4_30 trivial ?_
      first | exact ⟨rfl, rfl⟩ | (exfalso; omega)
  · skip
    refine V_iconst (pc := 6) dJ6_stringSize_0f7a4_6 (by unfold I32; omega) ?_
    refine V_st (pc := 7) dJ6_stringSize_0f7a4_7 (ls' := [(1, vi 0), (0, vi i)]) rfl (Nat.le_of_ble_eq_true rfl) rfl ?_
    refine V_ld (pc := 8) dJ6_stringSize_0f7a4_8 (v := vi i) rfl rfl ?_
    refine V_ineg (pc := 9) dJ6_stringSize_0f7a4_9 (by unfold I32 at *; omega) ?_
    refine V_st (pc := 10) dJ6_stringSize_0f7a4_10 (ls' := [(0, vi (-i)), (1, vi 0)]) rfl (Nat.le_of_ble_eq_true rfl) rfl ?_
    refine V_bipush (pc := 11) dJ6_stringSize_0f7a4_11 (by unfold I32; omega) (by decide) ?_
    refine V_st (pc := 13) dJ6_stringSize_0f7a4_13 (ls' := [(2, vi (-10)), (0, vi (-i)), (1, vi 0)]) rfl (Nat.le_of_ble_eq_true rfl) rfl ?_
    refine V_iconst (pc := 14) dJ6_stringSize_0f7a4_14 (by unfold I32; omega) ?_
    refine V_st (pc := 15) dJ6_stringSize_0f7a4_15 (ls' := [(3, vi 1), (2, vi (-10)), (0, vi (-i)), (1, vi 0)]) rfl (Nat.le_of_ble_eq_true rfl) rfl ?_
    refine V_ld (pc := 16) dJ6_stringSize_0f7a4_16 (v := vi 1) rfl rfl ?_
    refine V_bipush (pc := 17) dJ6_stringSize_0f7a4_17 (by unfold I32; omega) (by decide) ?_
    refine V_icmp_ge (pc := 19) dJ6_stringSize_0f7a4_19 (tgt := 42) rfl (fun h_ => absurd h_ (by decide)) (fun _ => ?_)
    refine V_ld (pc := 22) dJ6_stringSize_0f7a4_22 (v := vi (-i)) rfl rfl ?_
    refine V_ld (pc := 23) dJ6_stringSize_0f7a4_23 (v := vi (-10)) rfl rfl ?_
    refine V_icmp_le (pc := 24) dJ6_stringSize_0f7a4_24 (tgt := 31) rfl (fun h24 => ?_) (fun h24 => ?_)
    · skip
      exfalso; omega
    · skip
      refine V_ld (pc := 27) dJ6_stringSize_0f7a4_27 (v := vi 1) rfl rfl ?_
      refine V_ld (pc := 28) dJ6_stringSize_0f7a4_28 (v := vi 0) rfl rfl ?_
      refine V_iadd (pc := 29) dJ6_stringSize_0f7a4_29 (by unfold I32 at *; omega) ?_
      refine V_reti (pc := 30) dJ6_stringSize_0f7a4_30 trivial ?_
      first | exact ⟨rfl, rfl⟩ | (exfalso; omega)

set_option maxHeartbeats 4000000 in
theorem j_getChars (n : Nat) (m : Mem) (i : Int) (ix : Int) (b : Nat)   (T_b : mT m b = (24, n)) (hi : 0 ≤ i ∧ i < 10) (hp : 1 ≤ ix ∧ ix ≤ (n : Int) ∧ n ≤ 100000 ∧ b < mN m) : Ct μJ6_getChars_ba4f3 0 [vi i, vi ix, vr b] m (ri fun x_ m' => (True) ∧ setI m b (ix + (-1)).toNat (48 + i) = m') := by
  refine Ct_of_VF rfl (by decide +kernel) rfl (Nat.le_of_ble_eq_true rfl) ?_
  show V μJ6_getChars_ba4f3 0 m _ 0 [(0, vi i), (1, vi ix), (2, vr b)] [] m
  refine V_rg (k := 0) (x := i) rfl fun r_i => ?_
  refine V_rg (k := 1) (x := ix) rfl fun r_ix => ?_
  refine V_okM fun hM_ => ?_
  refine V_ld (pc := 0) dJ6_getChars_ba4f3_0 (v := vi ix) rfl rfl ?_
  refine V_st (pc := 1) dJ6_getChars_ba4f3_1 (ls' := [(5, vi ix), (0, vi i), (1, vi ix), (2, vr b)]) rfl (Nat.le_of_ble_eq_true rfl) rfl ?_
  refine V_ld (pc := 3) dJ6_getChars_ba4f3_3 (v := vi i) rfl rfl ?_
  refine V_if_ge (pc := 4) dJ6_getChars_ba4f3_4 (tgt := 11) rfl (fun h4 => ?_) (fun h4 => ?_)
  · skip
    refine V_iconst (pc := 11) dJ6_getChars_ba4f3_11 (by unfold I32; omega) ?_
    refine V_st (pc := 12) dJ6_getChars_ba4f3_12 (ls' := [(6, vi 0), (5, vi ix), (0, vi i), (1, vi ix), (2, vr b)]) rfl (Nat.le_of_ble_eq_true rfl) rfl ?_
    refine V_ld (pc := 14) dJ6_getChars_ba4f3_14 (v := vi 0) rfl rfl ?_
    refine V_if_ne (pc := 16) dJ6_getChars_ba4f3_16 (tgt := 22) rfl (fun h_ => absurd h_ (by decide)) (fun _ => ?_)
    refine V_ld (pc := 19) dJ6_getChars_ba4f3_19 (v := vi i) rfl rfl ?_
    refine V_ineg (pc := 20) dJ6_getChars_ba4f3_20 (by unfold I32 at *; omega) ?_
    refine V_st (pc := 21) dJ6_getChars_ba4f3_21 (ls' := [(0, vi (-i)), (6, vi 0), (5, vi ix), (1, vi ix), (2, vr b)]) rfl (Nat.le_of_ble_eq_true rfl) rfl ?_
    refine V_ld (pc := 22) dJ6_getChars_ba4f3_22 (v := vi (-i)) rfl rfl ?_
    refine V_bipush (pc := 23) dJ6_getChars_ba4f3_23 (by unfold I32; omega) (by decide) ?_
    refine V_icmp_gt (pc := 25) dJ6_getChars_ba4f3_25 (tgt := 72) rfl (fun h25 => ?_) (fun h25 => ?_)
    · skip
      refine V_ld (pc := 72) dJ6_getChars_ba4f3_72 (v := vr b) rfl rfl ?_
      refine V_iinc (pc := 73) dJ6_getChars_ba4f3_73 (x := ix) (ls' := [(5, vi (ix + (-1))), (0, vi (-i)), (6, vi 0), (1, vi ix), (2, vr b)]) rfl (by unfold I32 at *; omega) (Nat.le_of_ble_eq_true rfl) rfl ?_
      refine V_ld (pc := 76) dJ6_getChars_ba4f3_76 (v := vi (ix + (-1))) rfl rfl ?_
      refine V_gets49 (pc := 78) dJ6_getChars_ba4f3_78 gw_RJ6_83 ?_
      refine V_ld (pc := 81) dJ6_getChars_ba4f3_81 (v := vi (-i)) rfl rfl ?_
      refine V_ineg (pc := 82) dJ6_getChars_ba4f3_82 (by unfold I32 at *; omega) ?_
      refine V_bald (pc := 83) dJ6_getChars_ba4f3_83 (v := 48 + i) (dig_T hM_) (by omega) (dig_I hM_ hi) (fun g83 => ?_)
      refine V_bast (pc := 84) dJ6_getChars_ba4f3_84 T_b (by omega) (by omega) (by unfold I8; omega) ?_
      refine V_ld (pc := 85) dJ6_getChars_ba4f3_85 (v := vi (-i)) rfl rfl ?_
      refine V_bipush (pc := 86) dJ6_getChars_ba4f3_86 (by unfold I32; omega) (by decide) ?_
      refine V_icmp_ge (pc := 88) dJ6_getChars_ba4f3_88 (tgt := 104) rfl (fun h88 => ?_) (fun h88 => ?_)
      · skip
        refine V_ld (pc := 104) dJ6_getChars_ba4f3_104 (v := vi 0) rfl rfl ?_
        refine V_if_eq (pc := 106) dJ6_getChars_ba4f3_106 (tgt := 118) rfl (fun _ => ?_) (fun h_ => absurd h_ (by decide))
        refine V_ld (pc := 118) dJ6_getChars_ba4f3_118 (v := vi (ix + (-1))) rfl rfl ?_
        refine V_reti (pc := 120) dJ6_getChars_ba4f3_120 trivial ?_
        exact ⟨trivial, rfl⟩
      · skip
        exfalso; omega
    · skip
      exfalso; omega
  · skip
    exfalso; omega

set_option maxHeartbeats 4000000 in
theorem b_inN5 (n : Nat) (q : Nat) (m : Mem) (s : Nat) (z : Int) (b : Nat)  (T_s : mT m s = (12, 4)) (R_s_0 : mR m s 0 = some b) (T_b : mT m b = (24, n)) (hc : mI m s 1 = 0) (hn : n ≤ 100000) (hx : 0 ≤ z ∧ z < 10) (hq : mI m s 3 = (q : Int) ∧ q ≤ n ∧ b < mN m ∧ s < mN m) (hr : q + 1 ≤ n ∧ b ≠ s) : Ct μJ5_append_c97b9 4 [vr s, vi z] m (rq fun x_ m' => (x_ = some s) ∧ setI (setI m b q (48 + z)) s 3 ((q : Int) + 1) = m') := by
  refine Ct_of_VF rfl (by decide +kernel) rfl (Nat.le_of_ble_eq_true rfl) ?_
  show V μJ5_append_c97b9 4 m _ 0 [(0, vr s), (1, vi z)] [] m
  refine V_rg (k := 1) (x := z) rfl fun r_z => ?_
  refine V_ld (pc := 0) dJ5_append_c97b9_0 (v := vr s) rfl rfl ?_
  refine V_getIv (pc := 1) dJ5_append_c97b9_1 (v := (q : Int)) fw_RJ5_79 rfl T_s hq.1 (fun g1 => ?_)
  refine V_st (pc := 4) dJ5_append_c97b9_4 (ls' := [(2, vi (q : Int)), (0, vr s), (1, vi z)]) rfl (Nat.le_of_ble_eq_true rfl) rfl ?_
  refine V_ld (pc := 5) dJ5_append_c97b9_5 (v := vi (q : Int)) rfl rfl ?_
  refine V_ld (pc := 6) dJ5_append_c97b9_6 (v := vi z) rfl rfl ?_
  refine V_callS (pc := 7) dJ5_append_c97b9_7 (F' := 0) (As := [vi z]) (st := [vi (q : Int)]) cw_RJ5_245 rfl rfl (Nat.le_of_ble_eq_true rfl) (by omega) (j_size1  m z   hx) ?_
  rintro _ _ ⟨x7, rfl, hx7, rfl⟩ ok7 le7
  subst hx7
  refine V_iadd (pc := 10) dJ5_append_c97b9_10 (by unfold I32 at *; omega) ?_
  refine V_st (pc := 11) dJ5_append_c97b9_11 (ls' := [(3, vi ((q : Int) + 1)), (2, vi (q : Int)), (0, vr s), (1, vi z)]) rfl (Nat.le_of_ble_eq_true rfl) rfl ?_
  refine V_ld (pc := 12) dJ5_append_c97b9_12 (v := vr s) rfl rfl ?_
  refine V_ld (pc := 13) dJ5_append_c97b9_13 (v := vi ((q : Int) + 1)) rfl rfl ?_
  refine V_callU (pc := 14) dJ5_append_c97b9_14 (F' := 3) (As := [vi ((q : Int) + 1)]) (st := []) cw_RJ5_100 rfl rfl T_s (Nat.le_of_ble_eq_true rfl) (by omega) (b_ensN n m s ((q : Int) + 1) b  T_s R_s_0 T_b (by first | assumption | omega) (by first | assumption | omega) (by omega)) ?_
  rintro _ _ ⟨rfl, rfl⟩ ok14 le14
  refine V_ld (pc := 17) dJ5_append_c97b9_17 (v := vr s) rfl rfl ?_
  refine V_callU (pc := 18) dJ5_append_c97b9_18 (F' := 0) (As := []) (st := []) cw_RJ5_83 rfl rfl T_s (Nat.le_of_ble_eq_true rfl) (by omega) (b_isLatin1  m s   T_s hc) ?_
  rintro _ _ ⟨x18, rfl, hx18, rfl⟩ ok18 le18
  subst hx18
  refine V_if_eq (pc := 21) dJ5_append_c97b9_21 (tgt := 37) rfl (fun h_ => absurd h_ (by decide)) (fun _ => ?_)
  refine V_ld (pc := 24) dJ5_append_c97b9_24 (v := vi z) rfl rfl ?_
  refine V_ld (pc := 25) dJ5_append_c97b9_25 (v := vi ((q : Int) + 1)) rfl rfl ?_
  refine V_ld (pc := 26) dJ5_append_c97b9_26 (v := vr s) rfl rfl ?_
  refine V_getRv (pc := 27) dJ5_append_c97b9_27 (o' := b) fw_RJ5_15 rfl T_s R_s_0 ?_
  refine V_callS (pc := 30) dJ5_append_c97b9_30 (F' := 0) (As := [vi z, vi ((q : Int) + 1), vr b]) (st := []) cw_RJ5_248 rfl rfl (Nat.le_of_ble_eq_true rfl) (by omega) (j_getChars n m z ((q : Int) + 1) b   T_b hx ⟨by omega, by omega, by omega, by omega⟩) ?_
  rintro _ _ ⟨x30, rfl, hx30, rfl⟩ ok30 le30
  have e30_ : (((q : Int) + 1) + (-1)).toNat = q := by omega
  rw [e30_]
  refine V_pop (pc := 33) dJ5_append_c97b9_33 rfl ?_
  refine V_goto (pc := 34) dJ5_append_c97b9_34 (tgt := 48) rfl ?_
  refine V_ld (pc := 48) dJ5_append_c97b9_48 (v := vr s) rfl rfl ?_
  refine V_ld (pc := 49) dJ5_append_c97b9_49 (v := vi ((q : Int) + 1)) rfl rfl ?_
  refine V_putI (pc := 50) dJ5_append_c97b9_50 fw_RJ5_79 rfl T_s (Or.inl rfl) (Or.inl rfl) ?_
  refine V_ld (pc := 53) dJ5_append_c97b9_53 (v := vr s) rfl rfl ?_
  refine V_retq (pc := 54) dJ5_append_c97b9_54 trivial ?_
  exact ⟨rfl, rfl⟩

set_option maxHeartbeats 4000000 in
theorem b_inG5 (n : Nat) (q : Nat) (cap : Nat) (m : Mem) (s : Nat) (z : Int) (b : Nat)  (T_s : mT m s = (12, 4)) (R_s_0 : mR m s 0 = some b) (T_b : mT m b = (24, n)) (hc : mI m s 1 = 0) (hn : n ≤ 100000) (hx : 0 ≤ z ∧ z < 10) (hq : mI m s 3 = (q : Int) ∧ q ≤ n ∧ b < mN m ∧ s < mN m) (hr : n < q + 1 ∧ mN m + 1 ≤ NN ∧ mZ m + cap ≤ ZZ ∧ q + 1 ≤ 20000 ∧ b ≠ s ∧ (cap : Int) = (n : Int) + (if ((q : Int) + 1) - (n : Int) < (n : Int) + 2 then (n : Int) + 2 else ((q : Int) + 1) - (n : Int))) : Ct μJ5_append_c97b9 4 [vr s, vi z] m (rq fun x_ m' => (x_ = some s) ∧ setI (setI (setR (cpyI (newO m 24 cap) b 0 (mN m) 0 n) s 0 (some (mN m))) (mN m) q (48 + z)) s 3 ((q : Int) + 1) = m') := by
  refine Ct_of_VF rfl (by decide +kernel) rfl (Nat.le_of_ble_eq_true rfl) ?_
  show V μJ5_append_c97b9 4 m _ 0 [(0, vr s), (1, vi z)] [] m
  refine V_rg (k := 1) (x := z) rfl fun r_z => ?_
  have hcap : n < cap ∧ cap ≤ 100000 ∧ q + 1 ≤ cap := by obtain ⟨h1, h2, h3, h4, h5, h6⟩ := hr; split at h6 <;> omega
  have hnI : ∀ y k, y ≠ mN m → mI (setR (cpyI (newO m 24 cap) b 0 (mN m) 0 n) s 0 (some (mN m))) y k = mI m y k := fun y k h1 => (if_neg (fun e_ => h1 e_.1)).trans (mI_newne (M := m) (mN m) rfl h1)
  refine V_ld (pc := 0) dJ5_append_c97b9_0 (v := vr s) rfl rfl ?_
  refine V_getIv (pc := 1) dJ5_append_c97b9_1 (v := (q : Int)) fw_RJ5_79 rfl T_s hq.1 (fun g1 => ?_)
  refine V_st (pc := 4) dJ5_append_c97b9_4 (ls' := [(2, vi (q : Int)), (0, vr s), (1, vi z)]) rfl (Nat.le_of_ble_eq_true rfl) rfl ?_
  refine V_ld (pc := 5) dJ5_append_c97b9_5 (v := vi (q : Int)) rfl rfl ?_
  refine V_ld (pc := 6) dJ5_append_c97b9_6 (v := vi z) rfl rfl ?_
  refine V_callS (pc := 7) dJ5_append_c97b9_7 (F' := 0) (As := [vi z]) (st := [vi (q : Int)]) cw_RJ5_245 rfl rfl (Nat.le_of_ble_eq_true rfl) (by omega) (j_size1  m z   hx) ?_
  rintro _ _ ⟨x7, rfl, hx7, rfl⟩ ok7 le7
  subst hx7
  refine V_iadd (pc := 10) dJ5_append_c97b9_10 (by unfold I32 at *; omega) ?_
  refine V_st (pc := 11) dJ5_append_c97b9_11 (ls' := [(3, vi ((q : Int) + 1)), (2, vi (q : Int)), (0, vr s), (1, vi z)]) rfl (Nat.le_of_ble_eq_true rfl) rfl ?_
  refine V_ld (pc := 12) dJ5_append_c97b9_12 (v := vr s) rfl rfl ?_
  refine V_ld (pc := 13) dJ5_append_c97b9_13 (v := vi ((q : Int) + 1)) rfl rfl ?_
  refine V_callU (pc := 14) dJ5_append_c97b9_14 (F' := 3) (As := [vi ((q : Int) + 1)]) (st := []) cw_RJ5_100 rfl rfl T_s (Nat.le_of_ble_eq_true rfl) (by omega) (b_ensG n cap m s ((q : Int) + 1) b  T_s R_s_0 T_b (by first | assumption | omega) (by first | assumption | omega) ⟨by omega, by omega, hr.2.2.2.2.2⟩ (by omega)) ?_
  rintro _ _ ⟨rfl, rfl⟩ ok14 le14
  refine V_ld (pc := 17) dJ5_append_c97b9_17 (v := vr s) rfl rfl ?_
  refine V_callU (pc := 18) dJ5_append_c97b9_18 (F' := 0) (As := []) (st := []) cw_RJ5_83 rfl rfl ((mT_newne (M := m) (mN m) rfl (by omega)).trans T_s) (Nat.le_of_ble_eq_true rfl) (by omega) (b_isLatin1  (setR (cpyI (newO m 24 cap) b 0 (mN m) 0 n) s 0 (some (mN m))) s   ((mT_newne (M := m) (mN m) rfl (by omega)).trans T_s) ((hnI s 1 (by omega)).trans hc)) ?_
  rintro _ _ ⟨x18, rfl, hx18, rfl⟩ ok18 le18
  subst hx18
  refine V_if_eq (pc := 21) dJ5_append_c97b9_21 (tgt := 37) rfl (fun h_ => absurd h_ (by decide)) (fun _ => ?_)
  refine V_ld (pc := 24) dJ5_append_c97b9_24 (v := vi z) rfl rfl ?_
  refine V_ld (pc := 25) dJ5_append_c97b9_25 (v := vi ((q : Int) + 1)) rfl rfl ?_
  refine V_ld (pc := 26) dJ5_append_c97b9_26 (v := vr s) rfl rfl ?_
  refine V_getRv (pc := 27) dJ5_append_c97b9_27 (o' := (mN m)) fw_RJ5_15 rfl ((mT_newne (M := m) (mN m) rfl (by omega)).trans T_s) mR_sets ?_
  refine V_callS (pc := 30) dJ5_append_c97b9_30 (F' := 0) (As := [vi z, vi ((q : Int) + 1), vr (mN m)]) (st := []) cw_RJ5_248 rfl rfl (Nat.le_of_ble_eq_true rfl) (by omega) (j_getChars cap (setR (cpyI (newO m 24 cap) b 0 (mN m) 0 n) s 0 (some (mN m))) z ((q : Int) + 1) (mN m)   (mT_news (M := m) rfl) hx ⟨by omega, by omega, by omega, Nat.lt_succ_self _⟩) ?_
  rintro _ _ ⟨x30, rfl, hx30, rfl⟩ ok30 le30
  have e30_ : (((q : Int) + 1) + (-1)).toNat = q := by omega
  rw [e30_]
  refine V_pop (pc := 33) dJ5_append_c97b9_33 rfl ?_
  refine V_goto (pc := 34) dJ5_append_c97b9_34 (tgt := 48) rfl ?_
  refine V_ld (pc := 48) dJ5_append_c97b9_48 (v := vr s) rfl rfl ?_
  refine V_ld (pc := 49) dJ5_append_c97b9_49 (v := vi ((q : Int) + 1)) rfl rfl ?_
  refine V_putI (pc := 50) dJ5_append_c97b9_50 fw_RJ5_79 rfl ((mT_newne (M := m) (mN m) rfl (by omega)).trans T_s) (Or.inl rfl) (Or.inl rfl) ?_
  refine V_ld (pc := 53) dJ5_append_c97b9_53 (v := vr s) rfl rfl ?_
  refine V_retq (pc := 54) dJ5_append_c97b9_54 trivial ?_
  exact ⟨rfl, rfl⟩

set_option maxHeartbeats 4000000 in
theorem b_inN (n : Nat) (q : Nat) (m : Mem) (s : Nat) (z : Int) (b : Nat)  (T_s : mT m s = (12, 4)) (R_s_0 : mR m s 0 = some b) (T_b : mT m b = (24, n)) (hc : mI m s 1 = 0) (hn : n ≤ 100000) (hx : 0 ≤ z ∧ z < 10) (hq : mI m s 3 = (q : Int) ∧ q ≤ n ∧ b < mN m ∧ s < mN m) (hr : q + 1 ≤ n ∧ b ≠ s) : Ct μJ4_append_bf812 5 [vr s, vi z] m (rq fun x_ m' => (x_ = some s) ∧ setI (setI m b q (48 + z)) s 3 ((q : Int) + 1) = m') := by
  refine Ct_of_VF rfl (by decide +kernel) rfl (Nat.le_of_ble_eq_true rfl) ?_
  show V μJ4_append_bf812 5 m _ 0 [(0, vr s), (1, vi z)] [] m
  refine V_rg (k := 1) (x := z) rfl fun r_z => ?_
  refine V_ld (pc := 0) dJ4_append_bf812_0 (v := vr s) rfl rfl ?_
  refine V_ld (pc := 1) dJ4_append_bf812_1 (v := vi z) rfl rfl ?_
  refine V_callSU (pc := 2) dJ4_append_bf812_2 (F' := 4) (As := [vi z]) (st := []) cw_RJ4_53 rfl rfl T_s (Nat.le_of_ble_eq_true rfl) (by omega) (b_inN5 n q m s z b  T_s R_s_0 T_b hc hn hx hq hr) ?_
  rintro _ _ ⟨x2, rfl, hx2, rfl⟩ ok2 le2
  refine V_pop (pc := 5) dJ4_append_bf812_5 rfl ?_
  refine V_ld (pc := 6) dJ4_append_bf812_6 (v := vr s) rfl rfl ?_
  refine V_retq (pc := 7) dJ4_append_bf812_7 trivial ?_
  exact ⟨rfl, rfl⟩

set_option maxHeartbeats 4000000 in
theorem b_inG (n : Nat) (q : Nat) (cap : Nat) (m : Mem) (s : Nat) (z : Int) (b : Nat)  (T_s : mT m s = (12, 4)) (R_s_0 : mR m s 0 = some b) (T_b : mT m b = (24, n)) (hc : mI m s 1 = 0) (hn : n ≤ 100000) (hx : 0 ≤ z ∧ z < 10) (hq : mI m s 3 = (q : Int) ∧ q ≤ n ∧ b < mN m ∧ s < mN m) (hr : n < q + 1 ∧ mN m + 1 ≤ NN ∧ mZ m + cap ≤ ZZ ∧ q + 1 ≤ 20000 ∧ b ≠ s ∧ (cap : Int) = (n : Int) + (if ((q : Int) + 1) - (n : Int) < (n : Int) + 2 then (n : Int) + 2 else ((q : Int) + 1) - (n : Int))) : Ct μJ4_append_bf812 5 [vr s, vi z] m (rq fun x_ m' => (x_ = some s) ∧ setI (setI (setR (cpyI (newO m 24 cap) b 0 (mN m) 0 n) s 0 (some (mN m))) (mN m) q (48 + z)) s 3 ((q : Int) + 1) = m') := by
  refine Ct_of_VF rfl (by decide +kernel) rfl (Nat.le_of_ble_eq_true rfl) ?_
  show V μJ4_append_bf812 5 m _ 0 [(0, vr s), (1, vi z)] [] m
  refine V_rg (k := 1) (x := z) rfl fun r_z => ?_
  refine V_ld (pc := 0) dJ4_append_bf812_0 (v := vr s) rfl rfl ?_
  refine V_ld (pc := 1) dJ4_append_bf812_1 (v := vi z) rfl rfl ?_
  refine V_callSU (pc := 2) dJ4_append_bf812_2 (F' := 4) (As := [vi z]) (st := []) cw_RJ4_53 rfl rfl T_s (Nat.le_of_ble_eq_true rfl) (by omega) (b_inG5 n q cap m s z b  T_s R_s_0 T_b hc hn hx hq hr) ?_
  rintro _ _ ⟨x2, rfl, hx2, rfl⟩ ok2 le2
  refine V_pop (pc := 5) dJ4_append_bf812_5 rfl ?_
  refine V_ld (pc := 6) dJ4_append_bf812_6 (v := vr s) rfl rfl ?_
  refine V_retq (pc := 7) dJ4_append_bf812_7 trivial ?_
  exact ⟨rfl, rfl⟩

set_option maxHeartbeats 4000000 in
theorem s_init5S (n : Nat) (q : Nat) (m : Mem) (o : Nat) (s : Nat) (z : Option Nat) (b : Nat)  (T_o : mT m o = (11, 4)) (T_s : mT m s = (12, 4)) (R_s_0 : mR m s 0 = some b) (T_b : mT m b = (24, n)) (hc : mI m s 1 = 0) (hn : n ≤ 100000) (hq : mI m s 3 = (q : Int)) (hr : mN m + 1 ≤ NN ∧ mZ m + q ≤ ZZ ∧ b < mN m ∧ o < mN m ∧ s < mN m ∧ o ≠ s ∧ o ≠ b) (hk : q < n) : Ct μJ0_init_db425 4 [vr o, vr s, vq z] m (rv fun m' => setR (cpyI (newO (setI m o 1 0) 24 q) b 0 (mN m) 0 q) o 0 (some (mN m)) = m') := by
  refine Ct_of_VF rfl (by decide +kernel) rfl (Nat.le_of_ble_eq_true rfl) ?_
  show V μJ0_init_db425 4 m _ 0 [(0, vr o), (1, vr s), (2, vq z)] [] m
  refine V_ld (pc := 0) dJ0_init_db425_0 (v := vr o) rfl rfl ?_
  refine V_objInit (pc := 1) dJ0_init_db425_1 oi_RJ0_1 wo_i wo_c (by omega) (Nat.le_of_ble_eq_true rfl) ?_
  refine V_ld (pc := 4) dJ0_init_db425_4 (v := vr s) rfl rfl ?_
  refine V_callU (pc := 5) dJ0_init_db425_5 (F' := 0) (As := []) (st := []) cw_RJ0_552 rfl rfl T_s (Nat.le_of_ble_eq_true rfl) (by omega) (b_getValue  m s b  T_s R_s_0) ?_
  rintro _ _ ⟨x5, rfl, hx5, rfl⟩ ok5 le5
  subst hx5
  refine V_st (pc := 8) dJ0_init_db425_8 (ls' := [(3, vr b), (0, vr o), (1, vr s), (2, vq z)]) rfl (Nat.le_of_ble_eq_true rfl) rfl ?_
  refine V_ld (pc := 9) dJ0_init_db425_9 (v := vr s) rfl rfl ?_
  refine V_callO (pc := 10) dJ0_init_db425_10 (F' := 1) (As := []) (st := []) cw_RJ0_549 rfl rfl T_s (Nat.le_of_ble_eq_true rfl) (by omega) (b_length  m s   T_s) ?_
  rintro _ _ ⟨x10, rfl, hx10, rfl⟩ ok10 le10
  rw [hq] at hx10
  subst hx10
  refine V_st (pc := 13) dJ0_init_db425_13 (ls' := [(4, vi (q : Int)), (3, vr b), (0, vr o), (1, vr s), (2, vq z)]) rfl (Nat.le_of_ble_eq_true rfl) rfl ?_
  refine V_ld (pc := 15) dJ0_init_db425_15 (v := vr s) rfl rfl ?_
  refine V_callU (pc := 16) dJ0_init_db425_16 (F' := 0) (As := []) (st := []) cw_RJ0_1047 rfl rfl T_s (Nat.le_of_ble_eq_true rfl) (by omega) (b_isLatin1  m s   T_s hc) ?_
  rintro _ _ ⟨x16, rfl, hx16, rfl⟩ ok16 le16
  subst hx16
  refine V_if_eq (pc := 19) dJ0_init_db425_19 (tgt := 41) rfl (fun h_ => absurd h_ (by decide)) (fun _ => ?_)
  refine V_ld (pc := 22) dJ0_init_db425_22 (v := vr o) rfl rfl ?_
  refine V_iconst (pc := 23) dJ0_init_db425_23 (by unfold I32; omega) ?_
  refine V_putI (pc := 24) dJ0_init_db425_24 fw_RJ0_15 rfl T_o (Or.inr ⟨rfl, rfl⟩) (Or.inr (Or.inr ⟨rfl, rfl⟩)) ?_ (Or.inr hr.2.2.2.1)
  refine V_ld (pc := 27) dJ0_init_db425_27 (v := vr o) rfl rfl ?_
  refine V_ld (pc := 28) dJ0_init_db425_28 (v := vr b) rfl rfl ?_
  refine V_iconst (pc := 29) dJ0_init_db425_29 (by unfold I32; omega) ?_
  refine V_ld (pc := 30) dJ0_init_db425_30 (v := vi (q : Int)) rfl rfl ?_
  refine V_callS (pc := 32) dJ0_init_db425_32 (F' := 2) (As := [vr b, vi 0, vi (q : Int)]) (st := [vr o]) cw_RJ0_54 rfl rfl (Nat.le_of_ble_eq_true rfl) (by omega) (j_rangeS n q (setI m o 1 0) b (q : Int)   T_b ⟨rfl, by omega, by omega, by show mN m + 1 ≤ NN; omega, by show mZ m + q ≤ ZZ; omega, hr.2.2.1⟩ hk) ?_
  rintro _ _ ⟨x32, rfl, hx32, rfl⟩ ok32 le32
  subst hx32
  refine V_putR (pc := 35) dJ0_init_db425_35 fw_RJ0_9 rfl ((mT_newne (M := setI m o 1 0) (mN m) rfl (by omega)).trans T_o) (Or.inr ⟨rfl, rfl⟩) (fun o_ h_ => by cases h_; unfold NN at *; unfold SC; show mN m ≠ 700000; omega) ?_ (Or.inr (by show o < mN m + 1; omega))
  refine V_goto (pc := 38) dJ0_init_db425_38 (tgt := 97) rfl ?_
  refine V_retv (pc := 97) dJ0_init_db425_97 trivial ?_
  exact rfl

set_option maxHeartbeats 4000000 in
theorem s_initS (n : Nat) (q : Nat) (m : Mem) (o : Nat) (s : Nat) (b : Nat)  (T_o : mT m o = (11, 4)) (T_s : mT m s = (12, 4)) (R_s_0 : mR m s 0 = some b) (T_b : mT m b = (24, n)) (hc : mI m s 1 = 0) (hn : n ≤ 100000) (hq : mI m s 3 = (q : Int)) (hr : mN m + 1 ≤ NN ∧ mZ m + q ≤ ZZ ∧ b < mN m ∧ o < mN m ∧ s < mN m ∧ o ≠ s ∧ o ≠ b) (hk : q < n) : Ct μJ0_init_81219 5 [vr o, vr s] m (rv fun m' => setR (cpyI (newO (setI m o 1 0) 24 q) b 0 (mN m) 0 q) o 0 (some (mN m)) = m') := by
  refine Ct_of_VF rfl (by decide +kernel) rfl (Nat.le_of_ble_eq_true rfl) ?_
  show V μJ0_init_81219 5 m _ 0 [(0, vr o), (1, vr s)] [] m
  refine V_ld (pc := 0) dJ0_init_81219_0 (v := vr o) rfl rfl ?_
  refine V_ld (pc := 1) dJ0_init_81219_1 (v := vr s) rfl rfl ?_
  refine V_null (pc := 2) dJ0_init_81219_2 ?_
  refine V_callI (pc := 3) dJ0_init_81219_3 (F' := 4) (As := [vr s, vq none]) (st := []) cw_RJ0_489 rfl rfl (Nat.le_of_ble_eq_true rfl) (by omega) (s_init5S n q m o s none b  T_o T_s R_s_0 T_b hc hn hq hr hk) ?_
  rintro _ _ ⟨rfl, rfl⟩ ok3 le3
  refine V_retv (pc := 6) dJ0_init_81219_6 trivial ?_
  exact rfl

set_option maxHeartbeats 4000000 in
theorem b_toStrS (n : Nat) (q : Nat) (m : Mem) (s : Nat) (b : Nat)  (T_s : mT m s = (12, 4)) (R_s_0 : mR m s 0 = some b) (T_b : mT m b = (24, n)) (hc : mI m s 1 = 0) (hn : n ≤ 100000) (hq : mI m s 3 = (q : Int)) (hr : mN m + 2 ≤ NN ∧ mZ m + 4 + q ≤ ZZ ∧ b < mN m ∧ s < mN m) (hk : q < n) : Ct μJ4_toString_0e30d 6 [vr s] m (rq fun x_ m' => (x_ = some (mN m)) ∧ setR (cpyI (newO (setI (newO m 11 4) (mN m) 1 0) 24 q) b 0 (mN m + 1) 0 q) (mN m) 0 (some (mN m + 1)) = m') := by
  refine Ct_of_VF rfl (by decide +kernel) rfl (Nat.le_of_ble_eq_true rfl) ?_
  show V μJ4_toString_0e30d 6 m _ 0 [(0, vr s)] [] m
  refine V_newv (pc := 0) (mN m) rfl dJ4_toString_0e30d_0 nw_RJ4_18 (by omega) (by omega) ?_
  refine V_dup (pc := 3) dJ4_toString_0e30d_3 rfl ?_
  refine V_ld (pc := 4) dJ4_toString_0e30d_4 (v := vr s) rfl rfl ?_
  refine V_callI (pc := 5) dJ4_toString_0e30d_5 (F' := 5) (As := [vr s]) (st := [vr (mN m)]) cw_RJ4_137 rfl rfl (Nat.le_of_ble_eq_true rfl) (by omega) (s_initS n q (newO m 11 4) (mN m) s b  (mT_news (M := m) rfl) ((mT_newne (M := m) (c := 11) (n := 4) (o := s) (mN m) rfl (by omega)).trans T_s) ((mR_newne (M := m) (c := 11) (n := 4) (o := s) (mN m) rfl (by omega)).trans R_s_0) ((mT_newne (M := m) (c := 11) (n := 4) (o := b) (mN m) rfl (by omega)).trans T_b) ((mI_newne (M := m) (c := 11) (n := 4) (o := s) (mN m) rfl (by omega)).trans hc) hn ((mI_newne (M := m) (c := 11) (n := 4) (o := s) (mN m) rfl (by omega)).trans hq) ⟨by show mN m + 1 + 1 ≤ NN; omega, by show mZ m + 4 + q ≤ ZZ; omega, by show b < mN m + 1; omega, Nat.lt_succ_self _, by show s < mN m + 1; omega, by omega, by omega⟩ hk) ?_
  rintro _ _ ⟨rfl, rfl⟩ ok5 le5
  refine V_retq (pc := 8) dJ4_toString_0e30d_8 trivial ?_
  exact ⟨rfl, rfl⟩

set_option maxHeartbeats 4000000 in
theorem s_init5C (n : Nat) (q : Nat) (m : Mem) (o : Nat) (s : Nat) (z : Option Nat) (b : Nat)  (T_o : mT m o = (11, 4)) (T_s : mT m s = (12, 4)) (R_s_0 : mR m s 0 = some b) (T_b : mT m b = (24, n)) (hc : mI m s 1 = 0) (hn : n ≤ 100000) (hq : mI m s 3 = (q : Int)) (hr : mN m + 1 ≤ NN ∧ mZ m + q ≤ ZZ ∧ b < mN m ∧ o < mN m ∧ s < mN m ∧ o ≠ s ∧ o ≠ b) (hk : q = n) : Ct μJ0_init_db425 4 [vr o, vr s, vq z] m (rv fun m' => setR (clnB (setI m o 1 0) b q) o 0 (some (mN m)) = m') := by
  refine Ct_of_VF rfl (by decide +kernel) rfl (Nat.le_of_ble_eq_true rfl) ?_
  show V μJ0_init_db425 4 m _ 0 [(0, vr o), (1, vr s), (2, vq z)] [] m
  refine V_ld (pc := 0) dJ0_init_db425_0 (v := vr o) rfl rfl ?_
  refine V_objInit (pc := 1) dJ0_init_db425_1 oi_RJ0_1 wo_i wo_c (by omega) (Nat.le_of_ble_eq_true rfl) ?_
  refine V_ld (pc := 4) dJ0_init_db425_4 (v := vr s) rfl rfl ?_
  refine V_callU (pc := 5) dJ0_init_db425_5 (F' := 0) (As := []) (st := []) cw_RJ0_552 rfl rfl T_s (Nat.le_of_ble_eq_true rfl) (by omega) (b_getValue  m s b  T_s R_s_0) ?_
  rintro _ _ ⟨x5, rfl, hx5, rfl⟩ ok5 le5
  subst hx5
  refine V_st (pc := 8) dJ0_init_db425_8 (ls' := [(3, vr b), (0, vr o), (1, vr s), (2, vq z)]) rfl (Nat.le_of_ble_eq_true rfl) rfl ?_
  refine V_ld (pc := 9) dJ0_init_db425_9 (v := vr s) rfl rfl ?_
  refine V_callO (pc := 10) dJ0_init_db425_10 (F' := 1) (As := []) (st := []) cw_RJ0_549 rfl rfl T_s (Nat.le_of_ble_eq_true rfl) (by omega) (b_length  m s   T_s) ?_
  rintro _ _ ⟨x10, rfl, hx10, rfl⟩ ok10 le10
  rw [hq] at hx10
  subst hx10
  refine V_st (pc := 13) dJ0_init_db425_13 (ls' := [(4, vi (q : Int)), (3, vr b), (0, vr o), (1, vr s), (2, vq z)]) rfl (Nat.le_of_ble_eq_true rfl) rfl ?_
  refine V_ld (pc := 15) dJ0_init_db425_15 (v := vr s) rfl rfl ?_
  refine V_callU (pc := 16) dJ0_init_db425_16 (F' := 0) (As := []) (st := []) cw_RJ0_1047 rfl rfl T_s (Nat.le_of_ble_eq_true rfl) (by omega) (b_isLatin1  m s   T_s hc) ?_
  rintro _ _ ⟨x16, rfl, hx16, rfl⟩ ok16 le16
  subst hx16
  refine V_if_eq (pc := 19) dJ0_init_db425_19 (tgt := 41) rfl (fun h_ => absurd h_ (by decide)) (fun _ => ?_)
  refine V_ld (pc := 22) dJ0_init_db425_22 (v := vr o) rfl rfl ?_
  refine V_iconst (pc := 23) dJ0_init_db425_23 (by unfold I32; omega) ?_
  refine V_putI (pc := 24) dJ0_init_db425_24 fw_RJ0_15 rfl T_o (Or.inr ⟨rfl, rfl⟩) (Or.inr (Or.inr ⟨rfl, rfl⟩)) ?_ (Or.inr hr.2.2.2.1)
  refine V_ld (pc := 27) dJ0_init_db425_27 (v := vr o) rfl rfl ?_
  refine V_ld (pc := 28) dJ0_init_db425_28 (v := vr b) rfl rfl ?_
  refine V_iconst (pc := 29) dJ0_init_db425_29 (by unfold I32; omega) ?_
  refine V_ld (pc := 30) dJ0_init_db425_30 (v := vi (q : Int)) rfl rfl ?_
  refine V_callS (pc := 32) dJ0_init_db425_32 (F' := 2) (As := [vr b, vi 0, vi (q : Int)]) (st := [vr o]) cw_RJ0_54 rfl rfl (Nat.le_of_ble_eq_true rfl) (by omega) (j_rangeC n q (setI m o 1 0) b (q : Int)   T_b ⟨rfl, by omega, by omega, by show mN m + 1 ≤ NN; omega, by show mZ m + q ≤ ZZ; omega, hr.2.2.1⟩ hk) ?_
  rintro _ _ ⟨x32, rfl, hx32, rfl⟩ ok32 le32
  subst hx32
  refine V_putR (pc := 35) dJ0_init_db425_35 fw_RJ0_9 rfl ((if_neg (show ¬ o = mN (setI m o 1 0) from by show ¬ o = mN m; omega)).trans T_o) (Or.inr ⟨rfl, rfl⟩) (fun o_ h_ => by cases h_; unfold NN at *; unfold SC; show mN m ≠ 700000; omega) ?_ (Or.inr (by show o < mN m + 1; omega))
  refine V_goto (pc := 38) dJ0_init_db425_38 (tgt := 97) rfl ?_
  refine V_retv (pc := 97) dJ0_init_db425_97 trivial ?_
  exact rfl

set_option maxHeartbeats 4000000 in
theorem s_initC (n : Nat) (q : Nat) (m : Mem) (o : Nat) (s : Nat) (b : Nat)  (T_o : mT m o = (11, 4)) (T_s : mT m s = (12, 4)) (R_s_0 : mR m s 0 = some b) (T_b : mT m b = (24, n)) (hc : mI m s 1 = 0) (hn : n ≤ 100000) (hq : mI m s 3 = (q : Int)) (hr : mN m + 1 ≤ NN ∧ mZ m + q ≤ ZZ ∧ b < mN m ∧ o < mN m ∧ s < mN m ∧ o ≠ s ∧ o ≠ b) (hk : q = n) : Ct μJ0_init_81219 5 [vr o, vr s] m (rv fun m' => setR (clnB (setI m o 1 0) b q) o 0 (some (mN m)) = m') := by
  refine Ct_of_VF rfl (by decide +kernel) rfl (Nat.le_of_ble_eq_true rfl) ?_
  show V μJ0_init_81219 5 m _ 0 [(0, vr o), (1, vr s)] [] m
  refine V_ld (pc := 0) dJ0_init_81219_0 (v := vr o) rfl rfl ?_
  refine V_ld (pc := 1) dJ0_init_81219_1 (v := vr s) rfl rfl ?_
  refine V_null (pc := 2) dJ0_init_81219_2 ?_
  refine V_callI (pc := 3) dJ0_init_81219_3 (F' := 4) (As := [vr s, vq none]) (st := []) cw_RJ0_489 rfl rfl (Nat.le_of_ble_eq_true rfl) (by omega) (s_init5C n q m o s none b  T_o T_s R_s_0 T_b hc hn hq hr hk) ?_
  rintro _ _ ⟨rfl, rfl⟩ ok3 le3
  refine V_retv (pc := 6) dJ0_init_81219_6 trivial ?_
  exact rfl

set_option maxHeartbeats 4000000 in
theorem b_toStrC (n : Nat) (q : Nat) (m : Mem) (s : Nat) (b : Nat)  (T_s : mT m s = (12, 4)) (R_s_0 : mR m s 0 = some b) (T_b : mT m b = (24, n)) (hc : mI m s 1 = 0) (hn : n ≤ 100000) (hq : mI m s 3 = (q : Int)) (hr : mN m + 2 ≤ NN ∧ mZ m + 4 + q ≤ ZZ ∧ b < mN m ∧ s < mN m) (hk : q = n) : Ct μJ4_toString_0e30d 6 [vr s] m (rq fun x_ m' => (x_ = some (mN m)) ∧ setR (clnB (setI (newO m 11 4) (mN m) 1 0) b q) (mN m) 0 (some (mN m + 1)) = m') := by
  refine Ct_of_VF rfl (by decide +kernel) rfl (Nat.le_of_ble_eq_true rfl) ?_
  show V μJ4_toString_0e30d 6 m _ 0 [(0, vr s)] [] m
  refine V_newv (pc := 0) (mN m) rfl dJ4_toString_0e30d_0 nw_RJ4_18 (by omega) (by omega) ?_
  refine V_dup (pc := 3) dJ4_toString_0e30d_3 rfl ?_
  refine V_ld (pc := 4) dJ4_toString_0e30d_4 (v := vr s) rfl rfl ?_
  refine V_callI (pc := 5) dJ4_toString_0e30d_5 (F' := 5) (As := [vr s]) (st := [vr (mN m)]) cw_RJ4_137 rfl rfl (Nat.le_of_ble_eq_true rfl) (by omega) (s_initC n q (newO m 11 4) (mN m) s b  (mT_news (M := m) rfl) ((mT_newne (M := m) (c := 11) (n := 4) (o := s) (mN m) rfl (by omega)).trans T_s) ((mR_newne (M := m) (c := 11) (n := 4) (o := s) (mN m) rfl (by omega)).trans R_s_0) ((mT_newne (M := m) (c := 11) (n := 4) (o := b) (mN m) rfl (by omega)).trans T_b) ((mI_newne (M := m) (c := 11) (n := 4) (o := s) (mN m) rfl (by omega)).trans hc) hn ((mI_newne (M := m) (c := 11) (n := 4) (o := s) (mN m) rfl (by omega)).trans hq) ⟨by show mN m + 1 + 1 ≤ NN; omega, by show mZ m + 4 + q ≤ ZZ; omega, by show b < mN m + 1; omega, Nat.lt_succ_self _, by show s < mN m + 1; omega, by omega, by omega⟩ hk) ?_
  rintro _ _ ⟨rfl, rfl⟩ ok5 le5
  refine V_retq (pc := 8) dJ4_toString_0e30d_8 trivial ?_
  exact ⟨rfl, rfl⟩
