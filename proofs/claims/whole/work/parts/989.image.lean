/-! image(), undo(): the reference; the class's copies -/
set_option maxHeartbeats 4000000 in
theorem L_pour {F : Nat} {m0 m : Mem} {post : Option AV → Mem → Prop} {a b : Nat} (Ta : mT m a = (20, 4459)) (Tb : mT m b = (20, 4459)) (hab : a ≠ b) (kx : V μX11_pours F m0 post 21 [(2, vi ((4459 : Nat) : Int)), (0, vr a), (1, vr b)] [] (cpyI m a 0 b 0 4459)) : ∀ (dd i : Nat), dd + i = 4459 → V μX11_pours F m0 post 2 [(2, vi ((i : Nat) : Int)), (0, vr a), (1, vr b)] [] (cpyI m a 0 b 0 i) := by
  intro dd
  induction dd with
  | zero =>
    intro i hi
    obtain rfl : 4459 = i := by omega
    refine V_ld (pc := 2) dX11_pours_2 (v := vi ((4459 : Nat) : Int)) rfl rfl ?_
    refine V_sipush (pc := 3) dX11_pours_3 (by unfold I32; omega) (by decide) ?_
    refine V_icmp_ge (pc := 6) dX11_pours_6 (tgt := 21) rfl (fun h6 => ?_) (fun h6 => ?_)
    · skip
      first | exact kx | (skip; exact kx) | (exfalso; omega)
    · skip
      refine V_ld (pc := 9) dX11_pours_9 (v := vr b) rfl rfl ?_
      refine V_ld (pc := 10) dX11_pours_10 (v := vi ((4459 : Nat) : Int)) rfl rfl ?_
      refine V_ld (pc := 11) dX11_pours_11 (v := vr a) rfl rfl ?_
      refine V_ld (pc := 12) dX11_pours_12 (v := vi ((4459 : Nat) : Int)) rfl rfl ?_
      refine V_ialdv (pc := 13) dX11_pours_13 (v := mI (cpyI m a 0 b 0 4459) a (((4459 : Nat) : Int).toNat)) Ta (by omega) rfl (fun g13 => ?_)
      refine V_iast (pc := 14) dX11_pours_14 Tb (by omega) ?_
      refine V_iinc (pc := 15) dX11_pours_15 (x := ((4459 : Nat) : Int)) (ls' := [(2, vi (((4459 : Nat) : Int) + 1)), (0, vr a), (1, vr b)]) rfl (by unfold I32 at *; omega) (Nat.le_of_ble_eq_true rfl) rfl ?_
      refine V_goto (pc := 18) dX11_pours_18 (tgt := 2) rfl ?_
      exfalso; omega
  | succ dd ih =>
    intro i hi
    refine V_ld (pc := 2) dX11_pours_2 (v := vi ((i : Nat) : Int)) rfl rfl ?_
    refine V_sipush (pc := 3) dX11_pours_3 (by unfold I32; omega) (by decide) ?_
    refine V_icmp_ge (pc := 6) dX11_pours_6 (tgt := 21) rfl (fun h6 => ?_) (fun h6 => ?_)
    · skip
      exfalso; omega
    · skip
      refine V_ld (pc := 9) dX11_pours_9 (v := vr b) rfl rfl ?_
      refine V_ld (pc := 10) dX11_pours_10 (v := vi ((i : Nat) : Int)) rfl rfl ?_
      refine V_ld (pc := 11) dX11_pours_11 (v := vr a) rfl rfl ?_
      refine V_ld (pc := 12) dX11_pours_12 (v := vi ((i : Nat) : Int)) rfl rfl ?_
      refine V_ialdv (pc := 13) dX11_pours_13 (v := mI (cpyI m a 0 b 0 i) a (((i : Nat) : Int).toNat)) Ta (by omega) rfl (fun g13 => ?_)
      refine V_iast (pc := 14) dX11_pours_14 Tb (by omega) ?_
      refine V_iinc (pc := 15) dX11_pours_15 (x := ((i : Nat) : Int)) (ls' := [(2, vi (((i : Nat) : Int) + 1)), (0, vr a), (1, vr b)]) rfl (by unfold I32 at *; omega) (Nat.le_of_ble_eq_true rfl) rfl ?_
      refine V_goto (pc := 18) dX11_pours_18 (tgt := 2) rfl ?_
      skip
      refine V_mem (cpyI_s (by omega) (by (rw [mI_cpyI, if_neg (by omega)]) <;> (first | rfl | (congr 1; omega)))) ?_
      exact ih (i + 1) (by omega)

set_option maxHeartbeats 4000000 in
theorem r_pours  (m : Mem) (a : Nat) (b : Nat)   (T_a : mT m a = (20, 4459)) (T_b : mT m b = (20, 4459)) (hab : a ≠ b) : Ct μX11_pours 0 [vr a, vr b] m (rv fun m' => cpyI m a 0 b 0 4459 = m') := by
  refine Ct_of_V rfl (by decide) rfl (Nat.le_of_ble_eq_true rfl) ?_
  show V μX11_pours 0 m _ 0 [(0, vr a), (1, vr b)] [] m
  refine V_iconst (pc := 0) dX11_pours_0 (by unfold I32; omega) ?_
  refine V_st (pc := 1) dX11_pours_1 (ls' := [(2, vi 0), (0, vr a), (1, vr b)]) rfl (Nat.le_of_ble_eq_true rfl) rfl ?_
  refine V_ls (ls' := [(2, vi ((0 : Nat) : Int)), (0, vr a), (1, vr b)]) (by intro q_ h_; simp only [List.mem_cons, List.not_mem_nil, or_false] at h_ ⊢; rcases h_ with rfl | rfl | rfl <;> simp) ?_
  refine V_mem (cpyI_0 (a := a) (sp := 0) (b := b) (dp := 0)).symm ?_
  refine L_pour T_a T_b hab ?_ 4459 0 (by omega)
  refine V_retv (pc := 21) dX11_pours_21 trivial ?_
  first | exact rfl | exact ⟨rfl, rfl⟩

set_option maxHeartbeats 4000000 in
theorem r_image  (m : Mem)    (hL : Lay (mT m) (mR m)) : Ct μX11_image 1 [vr 30] m (ri fun x_ m' => (x_ = mI m 31 64) ∧ setI (cpyI m 31 0 32 0 4459) 30 2 1 = m') := by
  refine Ct_of_V rfl (by decide) rfl (Nat.le_of_ble_eq_true rfl) ?_
  show V μX11_image 1 m _ 0 [(0, vr 30)] [] m
  refine V_ld (pc := 0) dX11_image_0 (v := vr 30) rfl rfl ?_
  refine V_getRv (pc := 1) dX11_image_1 (o' := 31) fw_RX11_9 rfl hL.t30 hL.r30_0 ?_
  refine V_ld (pc := 4) dX11_image_4 (v := vr 30) rfl rfl ?_
  refine V_getRv (pc := 5) dX11_image_5 (o' := 32) fw_RX11_15 rfl hL.t30 hL.r30_1 ?_
  refine V_callS (pc := 8) dX11_image_8 (F' := 0) (As := [vr 31, vr 32]) (st := []) cw_RX11_401 rfl rfl (Nat.le_of_ble_eq_true rfl) (by omega) (r_pours  m 31 32   hL.t31 hL.t32 (by decide)) ?_
  rintro _ _ ⟨rfl, rfl⟩ ok8 le8
  refine V_ld (pc := 11) dX11_image_11 (v := vr 30) rfl rfl ?_
  refine V_iconst (pc := 12) dX11_image_12 (by unfold I32; omega) ?_
  refine V_putI (pc := 13) dX11_image_13 fw_RX11_405 rfl hL.t30 (Or.inl rfl) (Or.inr ⟨rfl, by first | exact Or.inl rfl | exact Or.inr rfl | omega⟩) ?_
  refine V_ld (pc := 16) dX11_image_16 (v := vr 30) rfl rfl ?_
  refine V_callV (pc := 17) dX11_image_17 (F' := 0) (As := []) (st := []) cw_RX11_97 rfl rfl hL.t30 (by decide) (Nat.le_of_ble_eq_true rfl) (by omega) (r_many  (setI (cpyI m 31 0 32 0 4459) 30 2 1)    (by first | assumption | omega)) ?_
  rintro _ _ ⟨x17, rfl, hx17, rfl⟩ ok17 le17
  obtain rfl : x17 = (mI m 31 64) := hx17.trans (by first | rfl | (simp only [mI_setI, up2]; repeat (first | rfl | rw [if_neg (by omega)] | rw [if_pos (by omega)])))
  refine V_reti (pc := 20) dX11_image_20 trivial ?_
  first | exact ⟨rfl, rfl⟩ | exact ⟨by omega, rfl⟩

set_option maxHeartbeats 4000000 in
theorem r_undoS  (m : Mem)    (hL : Lay (mT m) (mR m)) (hk : mI m 30 2 = 1) : Ct μX11_undo 1 [vr 30] m (ri fun x_ m' => (x_ = mI m 32 64) ∧ cpyI m 32 0 31 0 4459 = m') := by
  refine Ct_of_V rfl (by decide) rfl (Nat.le_of_ble_eq_true rfl) ?_
  show V μX11_undo 1 m _ 0 [(0, vr 30)] [] m
  refine V_ld (pc := 0) dX11_undo_0 (v := vr 30) rfl rfl ?_
  refine V_getIv (pc := 1) dX11_undo_1 (v := 1) fw_RX11_405 rfl hL.t30 hk (fun g1 => ?_)
  refine V_if_ne (pc := 4) dX11_undo_4 (tgt := 10) rfl (fun _ => ?_) (fun h_ => absurd h_ (by decide))
  refine V_ld (pc := 10) dX11_undo_10 (v := vr 30) rfl rfl ?_
  refine V_getRv (pc := 11) dX11_undo_11 (o' := 32) fw_RX11_15 rfl hL.t30 hL.r30_1 ?_
  refine V_ld (pc := 14) dX11_undo_14 (v := vr 30) rfl rfl ?_
  refine V_getRv (pc := 15) dX11_undo_15 (o' := 31) fw_RX11_9 rfl hL.t30 hL.r30_0 ?_
  refine V_callS (pc := 18) dX11_undo_18 (F' := 0) (As := [vr 32, vr 31]) (st := []) cw_RX11_401 rfl rfl (Nat.le_of_ble_eq_true rfl) (by omega) (r_pours  m 32 31   hL.t32 hL.t31 (by decide)) ?_
  rintro _ _ ⟨rfl, rfl⟩ ok18 le18
  refine V_ld (pc := 21) dX11_undo_21 (v := vr 30) rfl rfl ?_
  refine V_callV (pc := 22) dX11_undo_22 (F' := 0) (As := []) (st := []) cw_RX11_97 rfl rfl hL.t30 (by decide) (Nat.le_of_ble_eq_true rfl) (by omega) (r_many  (cpyI m 32 0 31 0 4459)    (by first | assumption | omega)) ?_
  rintro _ _ ⟨x22, rfl, hx22, rfl⟩ ok22 le22
  obtain rfl : x22 = (mI m 32 64) := hx22.trans rfl
  refine V_reti (pc := 25) dX11_undo_25 trivial ?_
  first | exact ⟨rfl, rfl⟩ | exact ⟨by omega, rfl⟩

set_option maxHeartbeats 4000000 in
theorem r_undoN  (m : Mem)    (hL : Lay (mT m) (mR m)) (hk : mI m 30 2 = 0) : Ct μX11_undo 1 [vr 30] m (ri fun x_ m' => (x_ = -3) ∧ m = m') := by
  refine Ct_of_V rfl (by decide) rfl (Nat.le_of_ble_eq_true rfl) ?_
  show V μX11_undo 1 m _ 0 [(0, vr 30)] [] m
  refine V_ld (pc := 0) dX11_undo_0 (v := vr 30) rfl rfl ?_
  refine V_getIv (pc := 1) dX11_undo_1 (v := 0) fw_RX11_405 rfl hL.t30 hk (fun g1 => ?_)
  refine V_if_ne (pc := 4) dX11_undo_4 (tgt := 10) rfl (fun h_ => absurd h_ (by decide)) (fun _ => ?_)
  refine V_bipush (pc := 7) dX11_undo_7 (by unfold I32; omega) (by decide) ?_
  refine V_reti (pc := 9) dX11_undo_9 trivial ?_
  exact ⟨rfl, rfl⟩

set_option maxHeartbeats 4000000 in
theorem c_tabBecome  (m : Mem) (t : Nat) (s_ : Nat) (a : Nat) (b : Nat)  (T_t : mT m t = (8, 2)) (R_t_0 : mR m t 0 = some a) (T_a : mT m a = (20, 64)) (T_s_ : mT m s_ = (8, 2)) (R_s__0 : mR m s_ 0 = some b) (T_b : mT m b = (20, 64)) (hd : s_ ≠ a ∧ s_ ≠ t) : Ct μX8_become 1 [vr t, vr s_] m (rv fun m' => setI (cpyI m b 0 a 0 64) t 1 (mI m s_ 1) = m') := by
  refine Ct_of_V rfl (by decide) rfl (Nat.le_of_ble_eq_true rfl) ?_
  show V μX8_become 1 m _ 0 [(0, vr t), (1, vr s_)] [] m
  refine V_ld (pc := 0) dX8_become_0 (v := vr s_) rfl rfl ?_
  refine V_getRv (pc := 1) dX8_become_1 (o' := b) fw_RX8_9 rfl T_s_ R_s__0 ?_
  refine V_iconst (pc := 4) dX8_become_4 (by unfold I32; omega) ?_
  refine V_ld (pc := 5) dX8_become_5 (v := vr t) rfl rfl ?_
  refine V_getRv (pc := 6) dX8_become_6 (o' := a) fw_RX8_9 rfl T_t R_t_0 ?_
  refine V_iconst (pc := 9) dX8_become_9 (by unfold I32; omega) ?_
  refine V_bipush (pc := 10) dX8_become_10 (by unfold I32; omega) (by decide) ?_
  refine V_acopy (pc := 12) dX8_become_12 ac_RX8_23 T_b T_a (by decide) (by omega) (by omega) (by omega) (by omega) (by omega) (by omega) (Nat.le_of_ble_eq_true rfl) ?_
  refine V_ld (pc := 15) dX8_become_15 (v := vr t) rfl rfl ?_
  refine V_ld (pc := 16) dX8_become_16 (v := vr s_) rfl rfl ?_
  refine V_getIv (pc := 17) dX8_become_17 (v := (mI m s_ 1)) fw_RX8_15 rfl T_s_ (mI_cpyI.trans (if_neg (by omega))) (fun g17 => ?_)
  refine V_putI (pc := 20) dX8_become_20 fw_RX8_15 rfl T_t (Or.inl rfl) (Or.inl rfl) ?_
  refine V_retv (pc := 23) dX8_become_23 trivial ?_
  first | exact rfl | exact ⟨rfl, rfl⟩

set_option maxHeartbeats 4000000 in
theorem c_matBecome  (m : Mem) (M : Nat) (s_ : Nat) (a : Nat) (b : Nat) (c : Nat) (a2 : Nat) (b2 : Nat) (c2 : Nat)  (T_M : mT m M = (3, 4)) (R_M_0 : mR m M 0 = some a) (R_M_1 : mR m M 1 = some b) (R_M_2 : mR m M 2 = some c) (T_a : mT m a = (20, 33)) (T_b : mT m b = (20, 33)) (T_c : mT m c = (20, 1056)) (T_s_ : mT m s_ = (3, 4)) (R_s__0 : mR m s_ 0 = some a2) (R_s__1 : mR m s_ 1 = some b2) (R_s__2 : mR m s_ 2 = some c2) (T_a2 : mT m a2 = (20, 33)) (T_b2 : mT m b2 = (20, 33)) (T_c2 : mT m c2 = (20, 1056)) (hd : s_ ≠ a ∧ s_ ≠ b ∧ s_ ≠ c ∧ s_ ≠ M) : Ct μX3_become 1 [vr M, vr s_] m (rv fun m' => setI (cpyI (cpyI (cpyI m a2 0 a 0 33) b2 0 b 0 33) c2 0 c 0 1056) M 3 (mI m s_ 3) = m') := by
  refine Ct_of_V rfl (by decide) rfl (Nat.le_of_ble_eq_true rfl) ?_
  show V μX3_become 1 m _ 0 [(0, vr M), (1, vr s_)] [] m
  refine V_ld (pc := 0) dX3_become_0 (v := vr s_) rfl rfl ?_
  refine V_getRv (pc := 1) dX3_become_1 (o' := a2) fw_RX3_11 rfl T_s_ R_s__0 ?_
  refine V_iconst (pc := 4) dX3_become_4 (by unfold I32; omega) ?_
  refine V_ld (pc := 5) dX3_become_5 (v := vr M) rfl rfl ?_
  refine V_getRv (pc := 6) dX3_become_6 (o' := a) fw_RX3_11 rfl T_M R_M_0 ?_
  refine V_iconst (pc := 9) dX3_become_9 (by unfold I32; omega) ?_
  refine V_bipush (pc := 10) dX3_become_10 (by unfold I32; omega) (by decide) ?_
  refine V_acopy (pc := 12) dX3_become_12 ac_RX3_31 T_a2 T_a (by decide) (by omega) (by omega) (by omega) (by omega) (by omega) (by omega) (Nat.le_of_ble_eq_true rfl) ?_
  refine V_ld (pc := 15) dX3_become_15 (v := vr s_) rfl rfl ?_
  refine V_getRv (pc := 16) dX3_become_16 (o' := b2) fw_RX3_15 rfl T_s_ R_s__1 ?_
  refine V_iconst (pc := 19) dX3_become_19 (by unfold I32; omega) ?_
  refine V_ld (pc := 20) dX3_become_20 (v := vr M) rfl rfl ?_
  refine V_getRv (pc := 21) dX3_become_21 (o' := b) fw_RX3_15 rfl T_M R_M_1 ?_
  refine V_iconst (pc := 24) dX3_become_24 (by unfold I32; omega) ?_
  refine V_bipush (pc := 25) dX3_become_25 (by unfold I32; omega) (by decide) ?_
  refine V_acopy (pc := 27) dX3_become_27 ac_RX3_31 T_b2 T_b (by decide) (by omega) (by omega) (by omega) (by omega) (by omega) (by omega) (Nat.le_of_ble_eq_true rfl) ?_
  refine V_ld (pc := 30) dX3_become_30 (v := vr s_) rfl rfl ?_
  refine V_getRv (pc := 31) dX3_become_31 (o' := c2) fw_RX3_18 rfl T_s_ R_s__2 ?_
  refine V_iconst (pc := 34) dX3_become_34 (by unfold I32; omega) ?_
  refine V_ld (pc := 35) dX3_become_35 (v := vr M) rfl rfl ?_
  refine V_getRv (pc := 36) dX3_become_36 (o' := c) fw_RX3_18 rfl T_M R_M_2 ?_
  refine V_iconst (pc := 39) dX3_become_39 (by unfold I32; omega) ?_
  refine V_sipush (pc := 40) dX3_become_40 (by unfold I32; omega) (by decide) ?_
  refine V_acopy (pc := 43) dX3_become_43 ac_RX3_31 T_c2 T_c (by decide) (by omega) (by omega) (by omega) (by omega) (by omega) (by omega) (Nat.le_of_ble_eq_true rfl) ?_
  refine V_ld (pc := 46) dX3_become_46 (v := vr M) rfl rfl ?_
  refine V_ld (pc := 47) dX3_become_47 (v := vr s_) rfl rfl ?_
  refine V_getIv (pc := 48) dX3_become_48 (v := (mI m s_ 3)) fw_RX3_21 rfl T_s_ ((mI_cpyI.trans (if_neg (by omega))).trans ((mI_cpyI.trans (if_neg (by omega))).trans (mI_cpyI.trans (if_neg (by omega))))) (fun g48 => ?_)
  refine V_putI (pc := 51) dX3_become_51 fw_RX3_21 rfl T_M (Or.inl rfl) (Or.inl rfl) ?_
  refine V_retv (pc := 54) dX3_become_54 trivial ?_
  first | exact rfl | exact ⟨rfl, rfl⟩
