/-! THE JDK'S STRINGS AND BUILDERS, 3: what is appended, what comes of it -/
set_option maxHeartbeats 4000000 in
theorem s_getBytes (n : Nat) (nd : Nat) (m : Mem) (o : Nat) (d : Nat) (g : Int) (bo : Nat)  (T_o : mT m o = (11, 4)) (R_o_0 : mR m o 0 = some bo) (T_bo : mT m bo = (24, n)) (hc : mI m o 1 = 0) (hn : n ≤ 100000) (T_d : mT m d = (24, nd)) (hp : 0 ≤ g ∧ g + (n : Int) ≤ (nd : Int) ∧ nd ≤ 100000 ∧ d < mN m) : Ct μJ0_getBytes_840e7 1 [vr o, vr d, vi g, vi 0] m (rv fun m' => cpyI m bo 0 d g.toNat n = m') := by
  refine Ct_of_VF rfl (by decide +kernel) rfl (Nat.le_of_ble_eq_true rfl) ?_
  show V μJ0_getBytes_840e7 1 m _ 0 [(0, vr o), (1, vr d), (2, vi g), (3, vi 0)] [] m
  refine V_rg (k := 2) (x := g) rfl fun r_g => ?_
  refine V_rg (k := 3) (x := 0) rfl fun r_0 => ?_
  refine V_ld (pc := 0) dJ0_getBytes_840e7_0 (v := vr o) rfl rfl ?_
  refine V_callVS (pc := 1) dJ0_getBytes_840e7_1 (F' := 0) (As := []) (st := []) cw_RJ0_335 rfl rfl T_o (Nat.le_of_ble_eq_true rfl) (by omega) (s_coder  m o   T_o hc) ?_
  rintro _ _ ⟨x1, rfl, hx1, rfl⟩ ok1 le1
  subst hx1
  refine V_ld (pc := 4) dJ0_getBytes_840e7_4 (v := vi 0) rfl rfl ?_
  refine V_icmp_ne (pc := 5) dJ0_getBytes_840e7_5 (tgt := 28) rfl (fun h_ => absurd h_ (by decide)) (fun _ => ?_)
  refine V_ld (pc := 8) dJ0_getBytes_840e7_8 (v := vr o) rfl rfl ?_
  refine V_getSv (pc := 9) dJ0_getBytes_840e7_9 (b := bo) fw_RJ0_9 T_o R_o_0 ?_
  refine V_iconst (pc := 12) dJ0_getBytes_840e7_12 (by unfold I32; omega) ?_
  refine V_ld (pc := 13) dJ0_getBytes_840e7_13 (v := vr d) rfl rfl ?_
  refine V_ld (pc := 14) dJ0_getBytes_840e7_14 (v := vi g) rfl rfl ?_
  refine V_ld (pc := 15) dJ0_getBytes_840e7_15 (v := vi 0) rfl rfl ?_
  refine V_ishl (pc := 16) dJ0_getBytes_840e7_16 ?_
  rw [shl0 (x := g) (by unfold I32 at *; omega)]
  refine V_ld (pc := 17) dJ0_getBytes_840e7_17 (v := vr o) rfl rfl ?_
  refine V_getSv (pc := 18) dJ0_getBytes_840e7_18 (b := bo) fw_RJ0_9 T_o R_o_0 ?_
  refine V_alenB (pc := 21) dJ0_getBytes_840e7_21 T_bo (by omega) ?_
  refine V_acopyB (pc := 22) dJ0_getBytes_840e7_22 ac_RJ0_212 T_bo T_d (by omega) (by omega) (by omega) (by omega) (by omega) (by omega) (by omega) (Nat.le_of_ble_eq_true rfl) ?_
  refine V_goto (pc := 25) dJ0_getBytes_840e7_25 (tgt := 43) rfl ?_
  refine V_retv (pc := 43) dJ0_getBytes_840e7_43 trivial ?_
  exact rfl

set_option maxHeartbeats 4000000 in
theorem b_infl  (m : Mem) (s : Nat) (o : Nat)   (T_s : mT m s = (12, 4)) (hc : mI m s 1 = 0) (T_o : mT m o = (11, 4)) (hco : mI m o 1 = 0) : Ct μJ5_inflateIfNeededFor_a7421 1 [vr s, vr o] m (rv fun m' => m = m') := by
  refine Ct_of_VF rfl (by decide +kernel) rfl (Nat.le_of_ble_eq_true rfl) ?_
  show V μJ5_inflateIfNeededFor_a7421 1 m _ 0 [(0, vr s), (1, vr o)] [] m
  refine V_getsC (pc := 0) dJ5_inflateIfNeededFor_a7421_0 gw_RJ5_18 ?_
  refine V_if_eq (pc := 3) dJ5_inflateIfNeededFor_a7421_3 (tgt := 21) rfl (fun h_ => absurd h_ (by decide)) (fun _ => ?_)
  refine V_ld (pc := 6) dJ5_inflateIfNeededFor_a7421_6 (v := vr s) rfl rfl ?_
  refine V_getIv (pc := 7) dJ5_inflateIfNeededFor_a7421_7 (v := 0) fw_RJ5_22 rfl T_s hc (fun g7 => ?_)
  refine V_ld (pc := 10) dJ5_inflateIfNeededFor_a7421_10 (v := vr o) rfl rfl ?_
  refine V_callVS (pc := 11) dJ5_inflateIfNeededFor_a7421_11 (F' := 0) (As := []) (st := [vi 0]) cw_RJ5_40 rfl rfl T_o (Nat.le_of_ble_eq_true rfl) (by omega) (s_coder  m o   T_o hco) ?_
  rintro _ _ ⟨x11, rfl, hx11, rfl⟩ ok11 le11
  subst hx11
  refine V_icmp_eq (pc := 14) dJ5_inflateIfNeededFor_a7421_14 (tgt := 21) rfl (fun _ => ?_) (fun h_ => absurd h_ (by decide))
  refine V_retv (pc := 21) dJ5_inflateIfNeededFor_a7421_21 trivial ?_
  exact rfl

set_option maxHeartbeats 4000000 in
theorem b_putS (n : Nat) (w : Nat) (m : Mem) (s : Nat) (g : Int) (o : Nat) (b : Nat) (bo : Nat)  (T_s : mT m s = (12, 4)) (R_s_0 : mR m s 0 = some b) (T_b : mT m b = (24, n)) (hc : mI m s 1 = 0) (hn : n ≤ 100000) (T_o : mT m o = (11, 4)) (R_o_0 : mR m o 0 = some bo) (T_bo : mT m bo = (24, w)) (hco : mI m o 1 = 0) (hw : w ≤ 10000) (hp : 0 ≤ g ∧ g + (w : Int) ≤ (n : Int) ∧ b < mN m) : Ct μJ5_putStringAt_47b60 2 [vr s, vi g, vr o] m (rv fun m' => cpyI m bo 0 b g.toNat w = m') := by
  refine Ct_of_VF rfl (by decide +kernel) rfl (Nat.le_of_ble_eq_true rfl) ?_
  show V μJ5_putStringAt_47b60 2 m _ 0 [(0, vr s), (1, vi g), (2, vr o)] [] m
  refine V_rg (k := 1) (x := g) rfl fun r_g => ?_
  refine V_ld (pc := 0) dJ5_putStringAt_47b60_0 (v := vr s) rfl rfl ?_
  refine V_ld (pc := 1) dJ5_putStringAt_47b60_1 (v := vr o) rfl rfl ?_
  refine V_callU (pc := 2) dJ5_putStringAt_47b60_2 (F' := 1) (As := [vr o]) (st := []) cw_RJ5_397 rfl rfl T_s (Nat.le_of_ble_eq_true rfl) (by omega) (b_infl  m s o   T_s (by first | assumption | omega) T_o (by first | assumption | omega)) ?_
  rintro _ _ ⟨rfl, rfl⟩ ok2 le2
  refine V_ld (pc := 5) dJ5_putStringAt_47b60_5 (v := vr o) rfl rfl ?_
  refine V_ld (pc := 6) dJ5_putStringAt_47b60_6 (v := vr s) rfl rfl ?_
  refine V_getRv (pc := 7) dJ5_putStringAt_47b60_7 (o' := b) fw_RJ5_15 rfl T_s R_s_0 ?_
  refine V_ld (pc := 10) dJ5_putStringAt_47b60_10 (v := vi g) rfl rfl ?_
  refine V_ld (pc := 11) dJ5_putStringAt_47b60_11 (v := vr s) rfl rfl ?_
  refine V_getIv (pc := 12) dJ5_putStringAt_47b60_12 (v := 0) fw_RJ5_22 rfl T_s hc (fun g12 => ?_)
  refine V_callVS (pc := 15) dJ5_putStringAt_47b60_15 (F' := 1) (As := [vr b, vi g, vi 0]) (st := []) cw_RJ5_399 rfl rfl T_o (Nat.le_of_ble_eq_true rfl) (by omega) (s_getBytes w n m o b g bo  T_o R_o_0 T_bo hco (by omega) T_b ⟨by omega, by omega, by omega, by omega⟩) ?_
  rintro _ _ ⟨rfl, rfl⟩ ok15 le15
  refine V_retv (pc := 18) dJ5_putStringAt_47b60_18 trivial ?_
  exact rfl

set_option maxHeartbeats 4000000 in
theorem b_appN5 (n : Nat) (w : Nat) (q : Nat) (m : Mem) (s : Nat) (o : Nat) (b : Nat) (bo : Nat)  (T_s : mT m s = (12, 4)) (R_s_0 : mR m s 0 = some b) (T_b : mT m b = (24, n)) (hc : mI m s 1 = 0) (hn : n ≤ 100000) (T_o : mT m o = (11, 4)) (R_o_0 : mR m o 0 = some bo) (T_bo : mT m bo = (24, w)) (hco : mI m o 1 = 0) (hw : w ≤ 10000) (hq : mI m s 3 = (q : Int) ∧ q ≤ n ∧ b < mN m ∧ s < mN m) (hr : q + w ≤ n ∧ b ≠ s) : Ct μJ5_append_cf1ce 4 [vr s, vr o] m (rq fun x_ m' => (x_ = some s) ∧ setI (cpyI m bo 0 b q w) s 3 ((q : Int) + (w : Int)) = m') := by
  refine Ct_of_VF rfl (by decide +kernel) rfl (Nat.le_of_ble_eq_true rfl) ?_
  show V μJ5_append_cf1ce 4 m _ 0 [(0, vr s), (1, vr o)] [] m
  refine V_ld (pc := 0) dJ5_append_cf1ce_0 (v := vr o) rfl rfl ?_
  refine V_ifnonnull (pc := 1) dJ5_append_cf1ce_1 (tgt := 9) rfl (fun _ _ => ?_) (fun h_ => by cases h_)
  refine V_ld (pc := 9) dJ5_append_cf1ce_9 (v := vr o) rfl rfl ?_
  refine V_callVS (pc := 10) dJ5_append_cf1ce_10 (F' := 1) (As := []) (st := []) cw_RJ5_32 rfl rfl T_o (Nat.le_of_ble_eq_true rfl) (by omega) (s_length w m o bo  T_o R_o_0 T_bo hco (by omega)) ?_
  rintro _ _ ⟨x10, rfl, hx10, rfl⟩ ok10 le10
  subst hx10
  refine V_st (pc := 13) dJ5_append_cf1ce_13 (ls' := [(2, vi (w : Int)), (0, vr s), (1, vr o)]) rfl (Nat.le_of_ble_eq_true rfl) rfl ?_
  refine V_ld (pc := 14) dJ5_append_cf1ce_14 (v := vr s) rfl rfl ?_
  refine V_ld (pc := 15) dJ5_append_cf1ce_15 (v := vr s) rfl rfl ?_
  refine V_getIv (pc := 16) dJ5_append_cf1ce_16 (v := (q : Int)) fw_RJ5_79 rfl T_s hq.1 (fun g16 => ?_)
  refine V_ld (pc := 19) dJ5_append_cf1ce_19 (v := vi (w : Int)) rfl rfl ?_
  refine V_iadd (pc := 20) dJ5_append_cf1ce_20 (by unfold I32 at *; omega) ?_
  refine V_callU (pc := 21) dJ5_append_cf1ce_21 (F' := 3) (As := [vi ((q : Int) + (w : Int))]) (st := []) cw_RJ5_100 rfl rfl T_s (Nat.le_of_ble_eq_true rfl) (by omega) (b_ensN n m s ((q : Int) + (w : Int)) b  T_s R_s_0 T_b (by first | assumption | omega) (by first | assumption | omega) (by omega)) ?_
  rintro _ _ ⟨rfl, rfl⟩ ok21 le21
  refine V_ld (pc := 24) dJ5_append_cf1ce_24 (v := vr s) rfl rfl ?_
  refine V_ld (pc := 25) dJ5_append_cf1ce_25 (v := vr s) rfl rfl ?_
  refine V_getIv (pc := 26) dJ5_append_cf1ce_26 (v := (q : Int)) fw_RJ5_79 rfl T_s hq.1 (fun g26 => ?_)
  refine V_ld (pc := 29) dJ5_append_cf1ce_29 (v := vr o) rfl rfl ?_
  refine V_callU (pc := 30) dJ5_append_cf1ce_30 (F' := 2) (As := [vi (q : Int), vr o]) (st := []) cw_RJ5_208 rfl rfl T_s (Nat.le_of_ble_eq_true rfl) (by omega) (b_putS n w m s (q : Int) o b bo  T_s R_s_0 T_b (by first | assumption | omega) (by first | assumption | omega) T_o R_o_0 T_bo (by first | assumption | omega) (by omega) ⟨by omega, by omega, by omega⟩) ?_
  rintro _ _ ⟨rfl, rfl⟩ ok30 le30
  refine V_ld (pc := 33) dJ5_append_cf1ce_33 (v := vr s) rfl rfl ?_
  refine V_dup (pc := 34) dJ5_append_cf1ce_34 rfl ?_
  refine V_getIv (pc := 35) dJ5_append_cf1ce_35 (v := (q : Int)) fw_RJ5_79 rfl T_s ((if_neg (fun e_ => hr.2 e_.1.symm)).trans hq.1) (fun g35 => ?_)
  refine V_ld (pc := 38) dJ5_append_cf1ce_38 (v := vi (w : Int)) rfl rfl ?_
  refine V_iadd (pc := 39) dJ5_append_cf1ce_39 (by unfold I32 at *; omega) ?_
  refine V_putI (pc := 40) dJ5_append_cf1ce_40 fw_RJ5_79 rfl T_s (Or.inl rfl) (Or.inl rfl) ?_
  refine V_ld (pc := 43) dJ5_append_cf1ce_43 (v := vr s) rfl rfl ?_
  refine V_retq (pc := 44) dJ5_append_cf1ce_44 trivial ?_
  exact ⟨rfl, rfl⟩

set_option maxHeartbeats 4000000 in
theorem b_appG5 (n : Nat) (w : Nat) (q : Nat) (cap : Nat) (m : Mem) (s : Nat) (o : Nat) (b : Nat) (bo : Nat)  (T_s : mT m s = (12, 4)) (R_s_0 : mR m s 0 = some b) (T_b : mT m b = (24, n)) (hc : mI m s 1 = 0) (hn : n ≤ 100000) (T_o : mT m o = (11, 4)) (R_o_0 : mR m o 0 = some bo) (T_bo : mT m bo = (24, w)) (hco : mI m o 1 = 0) (hw : w ≤ 10000) (hq : mI m s 3 = (q : Int) ∧ q ≤ n ∧ b < mN m ∧ s < mN m) (hr : n < q + w ∧ mN m + 1 ≤ NN ∧ mZ m + cap ≤ ZZ ∧ q + w ≤ 20000 ∧ b ≠ s ∧ (cap : Int) = (n : Int) + (if ((q : Int) + (w : Int)) - (n : Int) < (n : Int) + 2 then (n : Int) + 2 else ((q : Int) + (w : Int)) - (n : Int))) (ho : (o < mN m ∨ isOut o) ∧ (bo < mN m ∨ isOut bo) ∧ o ≠ s) : Ct μJ5_append_cf1ce 4 [vr s, vr o] m (rq fun x_ m' => (x_ = some s) ∧ setI (cpyI (setR (cpyI (newO m 24 cap) b 0 (mN m) 0 n) s 0 (some (mN m))) bo 0 (mN m) q w) s 3 ((q : Int) + (w : Int)) = m') := by
  refine Ct_of_VF rfl (by decide +kernel) rfl (Nat.le_of_ble_eq_true rfl) ?_
  show V μJ5_append_cf1ce 4 m _ 0 [(0, vr s), (1, vr o)] [] m
  have hcap : n < cap ∧ cap ≤ 100000 ∧ q + w ≤ cap := by obtain ⟨h1, h2, h3, h4, h5, h6⟩ := hr; split at h6 <;> omega
  have ho_ : o ≠ mN m ∧ bo ≠ mN m := ⟨Kp.ne ho.1 (Nat.le_refl (mN m)) (Nat.lt_succ_self _) hr.2.1, Kp.ne ho.2.1 (Nat.le_refl (mN m)) (Nat.lt_succ_self _) hr.2.1⟩
  have hnw : ∀ y c z, y ≠ mN m → mT m y = (c, z) → mT (newO m 24 cap) y = (c, z) := fun y c z h1 h2 => (mT_newne (M := m) (mN m) rfl h1).trans h2
  have hnI : ∀ y k, y ≠ mN m → mI (setR (cpyI (newO m 24 cap) b 0 (mN m) 0 n) s 0 (some (mN m))) y k = mI m y k := fun y k h1 => (if_neg (fun e_ => h1 e_.1)).trans (mI_newne (M := m) (mN m) rfl h1)
  have hnR : mR (setR (cpyI (newO m 24 cap) b 0 (mN m) 0 n) s 0 (some (mN m))) o 0 = some bo := (mR_setne (Or.inl ho.2.2)).trans ((mR_newne (M := m) (c := 24) (n := cap) (mN m) rfl ho_.1).trans R_o_0)
  refine V_ld (pc := 0) dJ5_append_cf1ce_0 (v := vr o) rfl rfl ?_
  refine V_ifnonnull (pc := 1) dJ5_append_cf1ce_1 (tgt := 9) rfl (fun _ _ => ?_) (fun h_ => by cases h_)
  refine V_ld (pc := 9) dJ5_append_cf1ce_9 (v := vr o) rfl rfl ?_
  refine V_callVS (pc := 10) dJ5_append_cf1ce_10 (F' := 1) (As := []) (st := []) cw_RJ5_32 rfl rfl T_o (Nat.le_of_ble_eq_true rfl) (by omega) (s_length w m o bo  T_o R_o_0 T_bo hco (by omega)) ?_
  rintro _ _ ⟨x10, rfl, hx10, rfl⟩ ok10 le10
  subst hx10
  refine V_st (pc := 13) dJ5_append_cf1ce_13 (ls' := [(2, vi (w : Int)), (0, vr s), (1, vr o)]) rfl (Nat.le_of_ble_eq_true rfl) rfl ?_
  refine V_ld (pc := 14) dJ5_append_cf1ce_14 (v := vr s) rfl rfl ?_
  refine V_ld (pc := 15) dJ5_append_cf1ce_15 (v := vr s) rfl rfl ?_
  refine V_getIv (pc := 16) dJ5_append_cf1ce_16 (v := (q : Int)) fw_RJ5_79 rfl T_s hq.1 (fun g16 => ?_)
  refine V_ld (pc := 19) dJ5_append_cf1ce_19 (v := vi (w : Int)) rfl rfl ?_
  refine V_iadd (pc := 20) dJ5_append_cf1ce_20 (by unfold I32 at *; omega) ?_
  refine V_callU (pc := 21) dJ5_append_cf1ce_21 (F' := 3) (As := [vi ((q : Int) + (w : Int))]) (st := []) cw_RJ5_100 rfl rfl T_s (Nat.le_of_ble_eq_true rfl) (by omega) (b_ensG n cap m s ((q : Int) + (w : Int)) b  T_s R_s_0 T_b (by first | assumption | omega) (by first | assumption | omega) ⟨by omega, by omega, hr.2.2.2.2.2⟩ (by omega)) ?_
  rintro _ _ ⟨rfl, rfl⟩ ok21 le21
  refine V_ld (pc := 24) dJ5_append_cf1ce_24 (v := vr s) rfl rfl ?_
  refine V_ld (pc := 25) dJ5_append_cf1ce_25 (v := vr s) rfl rfl ?_
  refine V_getIv (pc := 26) dJ5_append_cf1ce_26 (v := (q : Int)) fw_RJ5_79 rfl (hnw s 12 4 (by omega) T_s) ((hnI s 3 (by omega)).trans hq.1) (fun g26 => ?_)
  refine V_ld (pc := 29) dJ5_append_cf1ce_29 (v := vr o) rfl rfl ?_
  refine V_callU (pc := 30) dJ5_append_cf1ce_30 (F' := 2) (As := [vi (q : Int), vr o]) (st := []) cw_RJ5_208 rfl rfl (hnw s 12 4 (by omega) T_s) (Nat.le_of_ble_eq_true rfl) (by omega) (b_putS cap w (setR (cpyI (newO m 24 cap) b 0 (mN m) 0 n) s 0 (some (mN m))) s (q : Int) o (mN m) bo  (hnw s 12 4 (by omega) T_s) mR_sets (mT_news (M := m) rfl) ((hnI s 1 (by omega)).trans hc) (by omega) (hnw o 11 4 ho_.1 T_o) hnR (hnw bo 24 w ho_.2 T_bo) ((hnI o 1 ho_.1).trans hco) (by omega) ⟨by omega, by omega, Nat.lt_succ_self _⟩) ?_
  rintro _ _ ⟨rfl, rfl⟩ ok30 le30
  refine V_ld (pc := 33) dJ5_append_cf1ce_33 (v := vr s) rfl rfl ?_
  refine V_dup (pc := 34) dJ5_append_cf1ce_34 rfl ?_
  refine V_getIv (pc := 35) dJ5_append_cf1ce_35 (v := (q : Int)) fw_RJ5_79 rfl (hnw s 12 4 (by omega) T_s) ((if_neg (fun e_ => absurd e_.1 (by omega))).trans ((hnI s 3 (by omega)).trans hq.1)) (fun g35 => ?_)
  refine V_ld (pc := 38) dJ5_append_cf1ce_38 (v := vi (w : Int)) rfl rfl ?_
  refine V_iadd (pc := 39) dJ5_append_cf1ce_39 (by unfold I32 at *; omega) ?_
  refine V_putI (pc := 40) dJ5_append_cf1ce_40 fw_RJ5_79 rfl (hnw s 12 4 (by omega) T_s) (Or.inl rfl) (Or.inl rfl) ?_
  refine V_ld (pc := 43) dJ5_append_cf1ce_43 (v := vr s) rfl rfl ?_
  refine V_retq (pc := 44) dJ5_append_cf1ce_44 trivial ?_
  exact ⟨rfl, rfl⟩

set_option maxHeartbeats 4000000 in
theorem b_appN (n : Nat) (w : Nat) (q : Nat) (m : Mem) (s : Nat) (o : Nat) (b : Nat) (bo : Nat)  (T_s : mT m s = (12, 4)) (R_s_0 : mR m s 0 = some b) (T_b : mT m b = (24, n)) (hc : mI m s 1 = 0) (hn : n ≤ 100000) (T_o : mT m o = (11, 4)) (R_o_0 : mR m o 0 = some bo) (T_bo : mT m bo = (24, w)) (hco : mI m o 1 = 0) (hw : w ≤ 10000) (hq : mI m s 3 = (q : Int) ∧ q ≤ n ∧ b < mN m ∧ s < mN m) (hr : q + w ≤ n ∧ b ≠ s) : Ct μJ4_append_15ec4 5 [vr s, vr o] m (rq fun x_ m' => (x_ = some s) ∧ setI (cpyI m bo 0 b q w) s 3 ((q : Int) + (w : Int)) = m') := by
  refine Ct_of_VF rfl (by decide +kernel) rfl (Nat.le_of_ble_eq_true rfl) ?_
  show V μJ4_append_15ec4 5 m _ 0 [(0, vr s), (1, vr o)] [] m
  refine V_ld (pc := 0) dJ4_append_15ec4_0 (v := vr s) rfl rfl ?_
  refine V_ld (pc := 1) dJ4_append_15ec4_1 (v := vr o) rfl rfl ?_
  refine V_callSU (pc := 2) dJ4_append_15ec4_2 (F' := 4) (As := [vr o]) (st := []) cw_RJ4_29 rfl rfl T_s (Nat.le_of_ble_eq_true rfl) (by omega) (b_appN5 n w q m s o b bo  T_s R_s_0 T_b hc hn T_o R_o_0 T_bo hco hw hq hr) ?_
  rintro _ _ ⟨x2, rfl, hx2, rfl⟩ ok2 le2
  refine V_pop (pc := 5) dJ4_append_15ec4_5 rfl ?_
  refine V_ld (pc := 6) dJ4_append_15ec4_6 (v := vr s) rfl rfl ?_
  refine V_retq (pc := 7) dJ4_append_15ec4_7 trivial ?_
  exact ⟨rfl, rfl⟩

set_option maxHeartbeats 4000000 in
theorem b_appG (n : Nat) (w : Nat) (q : Nat) (cap : Nat) (m : Mem) (s : Nat) (o : Nat) (b : Nat) (bo : Nat)  (T_s : mT m s = (12, 4)) (R_s_0 : mR m s 0 = some b) (T_b : mT m b = (24, n)) (hc : mI m s 1 = 0) (hn : n ≤ 100000) (T_o : mT m o = (11, 4)) (R_o_0 : mR m o 0 = some bo) (T_bo : mT m bo = (24, w)) (hco : mI m o 1 = 0) (hw : w ≤ 10000) (hq : mI m s 3 = (q : Int) ∧ q ≤ n ∧ b < mN m ∧ s < mN m) (hr : n < q + w ∧ mN m + 1 ≤ NN ∧ mZ m + cap ≤ ZZ ∧ q + w ≤ 20000 ∧ b ≠ s ∧ (cap : Int) = (n : Int) + (if ((q : Int) + (w : Int)) - (n : Int) < (n : Int) + 2 then (n : Int) + 2 else ((q : Int) + (w : Int)) - (n : Int))) (ho : (o < mN m ∨ isOut o) ∧ (bo < mN m ∨ isOut bo) ∧ o ≠ s) : Ct μJ4_append_15ec4 5 [vr s, vr o] m (rq fun x_ m' => (x_ = some s) ∧ setI (cpyI (setR (cpyI (newO m 24 cap) b 0 (mN m) 0 n) s 0 (some (mN m))) bo 0 (mN m) q w) s 3 ((q : Int) + (w : Int)) = m') := by
  refine Ct_of_VF rfl (by decide +kernel) rfl (Nat.le_of_ble_eq_true rfl) ?_
  show V μJ4_append_15ec4 5 m _ 0 [(0, vr s), (1, vr o)] [] m
  refine V_ld (pc := 0) dJ4_append_15ec4_0 (v := vr s) rfl rfl ?_
  refine V_ld (pc := 1) dJ4_append_15ec4_1 (v := vr o) rfl rfl ?_
  refine V_callSU (pc := 2) dJ4_append_15ec4_2 (F' := 4) (As := [vr o]) (st := []) cw_RJ4_29 rfl rfl T_s (Nat.le_of_ble_eq_true rfl) (by omega) (b_appG5 n w q cap m s o b bo  T_s R_s_0 T_b hc hn T_o R_o_0 T_bo hco hw hq hr ho) ?_
  rintro _ _ ⟨x2, rfl, hx2, rfl⟩ ok2 le2
  refine V_pop (pc := 5) dJ4_append_15ec4_5 rfl ?_
  refine V_ld (pc := 6) dJ4_append_15ec4_6 (v := vr s) rfl rfl ?_
  refine V_retq (pc := 7) dJ4_append_15ec4_7 trivial ?_
  exact ⟨rfl, rfl⟩

set_option maxHeartbeats 4000000 in
theorem b_chN5 (n : Nat) (q : Nat) (m : Mem) (s : Nat) (z : Int) (b : Nat)  (T_s : mT m s = (12, 4)) (R_s_0 : mR m s 0 = some b) (T_b : mT m b = (24, n)) (hc : mI m s 1 = 0) (hn : n ≤ 100000) (hx : 0 ≤ z ∧ z < 128) (hq : mI m s 3 = (q : Int) ∧ q ≤ n ∧ b < mN m ∧ s < mN m) (hr : q + 1 ≤ n ∧ b ≠ s) : Ct μJ5_append_3fe6f 4 [vr s, vi z] m (rq fun x_ m' => (x_ = some s) ∧ setI (setI m s 3 ((q : Int) + 1)) b q z = m') := by
  refine Ct_of_VF rfl (by decide +kernel) rfl (Nat.le_of_ble_eq_true rfl) ?_
  show V μJ5_append_3fe6f 4 m _ 0 [(0, vr s), (1, vi z)] [] m
  refine V_rg (k := 1) (x := z) rfl fun r_z => ?_
  refine V_ld (pc := 0) dJ5_append_3fe6f_0 (v := vr s) rfl rfl ?_
  refine V_ld (pc := 1) dJ5_append_3fe6f_1 (v := vr s) rfl rfl ?_
  refine V_getIv (pc := 2) dJ5_append_3fe6f_2 (v := (q : Int)) fw_RJ5_79 rfl T_s hq.1 (fun g2 => ?_)
  refine V_iconst (pc := 5) dJ5_append_3fe6f_5 (by unfold I32; omega) ?_
  refine V_iadd (pc := 6) dJ5_append_3fe6f_6 (by unfold I32 at *; omega) ?_
  refine V_callU (pc := 7) dJ5_append_3fe6f_7 (F' := 3) (As := [vi ((q : Int) + 1)]) (st := []) cw_RJ5_100 rfl rfl T_s (Nat.le_of_ble_eq_true rfl) (by omega) (b_ensN n m s ((q : Int) + 1) b  T_s R_s_0 T_b (by first | assumption | omega) (by first | assumption | omega) (by omega)) ?_
  rintro _ _ ⟨rfl, rfl⟩ ok7 le7
  refine V_ld (pc := 10) dJ5_append_3fe6f_10 (v := vr s) rfl rfl ?_
  refine V_callU (pc := 11) dJ5_append_3fe6f_11 (F' := 0) (As := []) (st := []) cw_RJ5_83 rfl rfl T_s (Nat.le_of_ble_eq_true rfl) (by omega) (b_isLatin1  m s   T_s hc) ?_
  rintro _ _ ⟨x11, rfl, hx11, rfl⟩ ok11 le11
  subst hx11
  refine V_if_eq (pc := 14) dJ5_append_3fe6f_14 (tgt := 45) rfl (fun h_ => absurd h_ (by decide)) (fun _ => ?_)
  refine V_ld (pc := 17) dJ5_append_3fe6f_17 (v := vi z) rfl rfl ?_
  refine V_callS (pc := 18) dJ5_append_3fe6f_18 (F' := 0) (As := [vi z]) (st := []) cw_RJ5_191 rfl rfl (Nat.le_of_ble_eq_true rfl) (by omega) (j_canEncode  m z   hx) ?_
  rintro _ _ ⟨x18, rfl, hx18, rfl⟩ ok18 le18
  subst hx18
  refine V_if_eq (pc := 21) dJ5_append_3fe6f_21 (tgt := 45) rfl (fun h_ => absurd h_ (by decide)) (fun _ => ?_)
  refine V_ld (pc := 24) dJ5_append_3fe6f_24 (v := vr s) rfl rfl ?_
  refine V_getRv (pc := 25) dJ5_append_3fe6f_25 (o' := b) fw_RJ5_15 rfl T_s R_s_0 ?_
  refine V_ld (pc := 28) dJ5_append_3fe6f_28 (v := vr s) rfl rfl ?_
  refine V_dup (pc := 29) dJ5_append_3fe6f_29 rfl ?_
  refine V_getIv (pc := 30) dJ5_append_3fe6f_30 (v := (q : Int)) fw_RJ5_79 rfl T_s hq.1 (fun g30 => ?_)
  refine V_dupx1 (pc := 33) dJ5_append_3fe6f_33 rfl rfl ?_
  refine V_iconst (pc := 34) dJ5_append_3fe6f_34 (by unfold I32; omega) ?_
  refine V_iadd (pc := 35) dJ5_append_3fe6f_35 (by unfold I32 at *; omega) ?_
  refine V_putI (pc := 36) dJ5_append_3fe6f_36 fw_RJ5_79 rfl T_s (Or.inl rfl) (Or.inl rfl) ?_
  refine V_ld (pc := 39) dJ5_append_3fe6f_39 (v := vi z) rfl rfl ?_
  refine V_i2b (pc := 40) dJ5_append_3fe6f_40 (by unfold I8; omega) ?_
  refine V_bast (pc := 41) dJ5_append_3fe6f_41 T_b (show b < mN m by omega) (by omega) (by unfold I8; omega) ?_
  refine V_goto (pc := 42) dJ5_append_3fe6f_42 (tgt := 75) rfl ?_
  refine V_ld (pc := 75) dJ5_append_3fe6f_75 (v := vr s) rfl rfl ?_
  refine V_retq (pc := 76) dJ5_append_3fe6f_76 trivial ?_
  exact ⟨rfl, rfl⟩

set_option maxHeartbeats 4000000 in
theorem b_chG5 (n : Nat) (q : Nat) (cap : Nat) (m : Mem) (s : Nat) (z : Int) (b : Nat)  (T_s : mT m s = (12, 4)) (R_s_0 : mR m s 0 = some b) (T_b : mT m b = (24, n)) (hc : mI m s 1 = 0) (hn : n ≤ 100000) (hx : 0 ≤ z ∧ z < 128) (hq : mI m s 3 = (q : Int) ∧ q ≤ n ∧ b < mN m ∧ s < mN m) (hr : n < q + 1 ∧ mN m + 1 ≤ NN ∧ mZ m + cap ≤ ZZ ∧ q + 1 ≤ 20000 ∧ b ≠ s ∧ (cap : Int) = (n : Int) + (if ((q : Int) + 1) - (n : Int) < (n : Int) + 2 then (n : Int) + 2 else ((q : Int) + 1) - (n : Int))) : Ct μJ5_append_3fe6f 4 [vr s, vi z] m (rq fun x_ m' => (x_ = some s) ∧ setI (setI (setR (cpyI (newO m 24 cap) b 0 (mN m) 0 n) s 0 (some (mN m))) s 3 ((q : Int) + 1)) (mN m) q z = m') := by
  refine Ct_of_VF rfl (by decide +kernel) rfl (Nat.le_of_ble_eq_true rfl) ?_
  show V μJ5_append_3fe6f 4 m _ 0 [(0, vr s), (1, vi z)] [] m
  refine V_rg (k := 1) (x := z) rfl fun r_z => ?_
  have hcap : n < cap ∧ cap ≤ 100000 ∧ q + 1 ≤ cap := by obtain ⟨h1, h2, h3, h4, h5, h6⟩ := hr; split at h6 <;> omega
  have hnI : ∀ y k, y ≠ mN m → mI (setR (cpyI (newO m 24 cap) b 0 (mN m) 0 n) s 0 (some (mN m))) y k = mI m y k := fun y k h1 => (if_neg (fun e_ => h1 e_.1)).trans (mI_newne (M := m) (mN m) rfl h1)
  refine V_ld (pc := 0) dJ5_append_3fe6f_0 (v := vr s) rfl rfl ?_
  refine V_ld (pc := 1) dJ5_append_3fe6f_1 (v := vr s) rfl rfl ?_
  refine V_getIv (pc := 2) dJ5_append_3fe6f_2 (v := (q : Int)) fw_RJ5_79 rfl T_s hq.1 (fun g2 => ?_)
  refine V_iconst (pc := 5) dJ5_append_3fe6f_5 (by unfold I32; omega) ?_
  refine V_iadd (pc := 6) dJ5_append_3fe6f_6 (by unfold I32 at *; omega) ?_
  refine V_callU (pc := 7) dJ5_append_3fe6f_7 (F' := 3) (As := [vi ((q : Int) + 1)]) (st := []) cw_RJ5_100 rfl rfl T_s (Nat.le_of_ble_eq_true rfl) (by omega) (b_ensG n cap m s ((q : Int) + 1) b  T_s R_s_0 T_b (by first | assumption | omega) (by first | assumption | omega) ⟨by omega, by omega, hr.2.2.2.2.2⟩ (by omega)) ?_
  rintro _ _ ⟨rfl, rfl⟩ ok7 le7
  refine V_ld (pc := 10) dJ5_append_3fe6f_10 (v := vr s) rfl rfl ?_
  refine V_callU (pc := 11) dJ5_append_3fe6f_11 (F' := 0) (As := []) (st := []) cw_RJ5_83 rfl rfl ((mT_newne (M := m) (mN m) rfl (by omega)).trans T_s) (Nat.le_of_ble_eq_true rfl) (by omega) (b_isLatin1  (setR (cpyI (newO m 24 cap) b 0 (mN m) 0 n) s 0 (some (mN m))) s   ((mT_newne (M := m) (mN m) rfl (by omega)).trans T_s) ((hnI s 1 (by omega)).trans hc)) ?_
  rintro _ _ ⟨x11, rfl, hx11, rfl⟩ ok11 le11
  subst hx11
  refine V_if_eq (pc := 14) dJ5_append_3fe6f_14 (tgt := 45) rfl (fun h_ => absurd h_ (by decide)) (fun _ => ?_)
  refine V_ld (pc := 17) dJ5_append_3fe6f_17 (v := vi z) rfl rfl ?_
  refine V_callS (pc := 18) dJ5_append_3fe6f_18 (F' := 0) (As := [vi z]) (st := []) cw_RJ5_191 rfl rfl (Nat.le_of_ble_eq_true rfl) (by omega) (j_canEncode  (setR (cpyI (newO m 24 cap) b 0 (mN m) 0 n) s 0 (some (mN m))) z   hx) ?_
  rintro _ _ ⟨x18, rfl, hx18, rfl⟩ ok18 le18
  subst hx18
  refine V_if_eq (pc := 21) dJ5_append_3fe6f_21 (tgt := 45) rfl (fun h_ => absurd h_ (by decide)) (fun _ => ?_)
  refine V_ld (pc := 24) dJ5_append_3fe6f_24 (v := vr s) rfl rfl ?_
  refine V_getRv (pc := 25) dJ5_append_3fe6f_25 (o' := (mN m)) fw_RJ5_15 rfl ((mT_newne (M := m) (mN m) rfl (by omega)).trans T_s) mR_sets ?_
  refine V_ld (pc := 28) dJ5_append_3fe6f_28 (v := vr s) rfl rfl ?_
  refine V_dup (pc := 29) dJ5_append_3fe6f_29 rfl ?_
  refine V_getIv (pc := 30) dJ5_append_3fe6f_30 (v := (q : Int)) fw_RJ5_79 rfl ((mT_newne (M := m) (mN m) rfl (by omega)).trans T_s) ((hnI s 3 (by omega)).trans hq.1) (fun g30 => ?_)
  refine V_dupx1 (pc := 33) dJ5_append_3fe6f_33 rfl rfl ?_
  refine V_iconst (pc := 34) dJ5_append_3fe6f_34 (by unfold I32; omega) ?_
  refine V_iadd (pc := 35) dJ5_append_3fe6f_35 (by unfold I32 at *; omega) ?_
  refine V_putI (pc := 36) dJ5_append_3fe6f_36 fw_RJ5_79 rfl ((mT_newne (M := m) (mN m) rfl (by omega)).trans T_s) (Or.inl rfl) (Or.inl rfl) ?_
  refine V_ld (pc := 39) dJ5_append_3fe6f_39 (v := vi z) rfl rfl ?_
  refine V_i2b (pc := 40) dJ5_append_3fe6f_40 (by unfold I8; omega) ?_
  refine V_bast (pc := 41) dJ5_append_3fe6f_41 (mT_news (M := m) rfl) (Nat.lt_succ_self _) (by omega) (by unfold I8; omega) ?_
  refine V_goto (pc := 42) dJ5_append_3fe6f_42 (tgt := 75) rfl ?_
  refine V_ld (pc := 75) dJ5_append_3fe6f_75 (v := vr s) rfl rfl ?_
  refine V_retq (pc := 76) dJ5_append_3fe6f_76 trivial ?_
  exact ⟨rfl, rfl⟩

set_option maxHeartbeats 4000000 in
theorem b_chN (n : Nat) (q : Nat) (m : Mem) (s : Nat) (z : Int) (b : Nat)  (T_s : mT m s = (12, 4)) (R_s_0 : mR m s 0 = some b) (T_b : mT m b = (24, n)) (hc : mI m s 1 = 0) (hn : n ≤ 100000) (hx : 0 ≤ z ∧ z < 128) (hq : mI m s 3 = (q : Int) ∧ q ≤ n ∧ b < mN m ∧ s < mN m) (hr : q + 1 ≤ n ∧ b ≠ s) : Ct μJ4_append_cf468 5 [vr s, vi z] m (rq fun x_ m' => (x_ = some s) ∧ setI (setI m s 3 ((q : Int) + 1)) b q z = m') := by
  refine Ct_of_VF rfl (by decide +kernel) rfl (Nat.le_of_ble_eq_true rfl) ?_
  show V μJ4_append_cf468 5 m _ 0 [(0, vr s), (1, vi z)] [] m
  refine V_rg (k := 1) (x := z) rfl fun r_z => ?_
  refine V_ld (pc := 0) dJ4_append_cf468_0 (v := vr s) rfl rfl ?_
  refine V_ld (pc := 1) dJ4_append_cf468_1 (v := vi z) rfl rfl ?_
  refine V_callSU (pc := 2) dJ4_append_cf468_2 (F' := 4) (As := [vi z]) (st := []) cw_RJ4_50 rfl rfl T_s (Nat.le_of_ble_eq_true rfl) (by omega) (b_chN5 n q m s z b  T_s R_s_0 T_b hc hn hx hq hr) ?_
  rintro _ _ ⟨x2, rfl, hx2, rfl⟩ ok2 le2
  refine V_pop (pc := 5) dJ4_append_cf468_5 rfl ?_
  refine V_ld (pc := 6) dJ4_append_cf468_6 (v := vr s) rfl rfl ?_
  refine V_retq (pc := 7) dJ4_append_cf468_7 trivial ?_
  exact ⟨rfl, rfl⟩

set_option maxHeartbeats 4000000 in
theorem b_chG (n : Nat) (q : Nat) (cap : Nat) (m : Mem) (s : Nat) (z : Int) (b : Nat)  (T_s : mT m s = (12, 4)) (R_s_0 : mR m s 0 = some b) (T_b : mT m b = (24, n)) (hc : mI m s 1 = 0) (hn : n ≤ 100000) (hx : 0 ≤ z ∧ z < 128) (hq : mI m s 3 = (q : Int) ∧ q ≤ n ∧ b < mN m ∧ s < mN m) (hr : n < q + 1 ∧ mN m + 1 ≤ NN ∧ mZ m + cap ≤ ZZ ∧ q + 1 ≤ 20000 ∧ b ≠ s ∧ (cap : Int) = (n : Int) + (if ((q : Int) + 1) - (n : Int) < (n : Int) + 2 then (n : Int) + 2 else ((q : Int) + 1) - (n : Int))) : Ct μJ4_append_cf468 5 [vr s, vi z] m (rq fun x_ m' => (x_ = some s) ∧ setI (setI (setR (cpyI (newO m 24 cap) b 0 (mN m) 0 n) s 0 (some (mN m))) s 3 ((q : Int) + 1)) (mN m) q z = m') := by
  refine Ct_of_VF rfl (by decide +kernel) rfl (Nat.le_of_ble_eq_true rfl) ?_
  show V μJ4_append_cf468 5 m _ 0 [(0, vr s), (1, vi z)] [] m
  refine V_rg (k := 1) (x := z) rfl fun r_z => ?_
  refine V_ld (pc := 0) dJ4_append_cf468_0 (v := vr s) rfl rfl ?_
  refine V_ld (pc := 1) dJ4_append_cf468_1 (v := vi z) rfl rfl ?_
  refine V_callSU (pc := 2) dJ4_append_cf468_2 (F' := 4) (As := [vi z]) (st := []) cw_RJ4_50 rfl rfl T_s (Nat.le_of_ble_eq_true rfl) (by omega) (b_chG5 n q cap m s z b  T_s R_s_0 T_b hc hn hx hq hr) ?_
  rintro _ _ ⟨x2, rfl, hx2, rfl⟩ ok2 le2
  refine V_pop (pc := 5) dJ4_append_cf468_5 rfl ?_
  refine V_ld (pc := 6) dJ4_append_cf468_6 (v := vr s) rfl rfl ?_
  refine V_retq (pc := 7) dJ4_append_cf468_7 trivial ?_
  exact ⟨rfl, rfl⟩
