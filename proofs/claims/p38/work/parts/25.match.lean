/-! matches: leaves -/
set_option maxHeartbeats 4000000 in
theorem c_M_has  (m : Mem) (t : Nat) (j : Int)   (T_t : mT m t = (3, 4)) : Ct μX3_has 0 [vr t, vi j] m (ri fun x_ m' => (x_ = if 0 ≤ j ∧ j < mI m t 3 ∧ j < 33 then 1 else 0) ∧ m = m') := by
  refine Ct_of_V rfl (by decide) rfl (Nat.le_of_ble_eq_true rfl) ?_
  show V μX3_has 0 m _ 0 [(0, vr t), (1, vi j)] [] m
  refine V_rg (k := 1) (x := j) rfl fun r_j => ?_
  refine V_ld (pc := 0) dX3_has_0 (v := vi j) rfl rfl ?_
  refine V_if_lt (pc := 1) dX3_has_1 (tgt := 22) rfl (fun h1 => ?_) (fun h1 => ?_)
  · skip
    refine V_iconst (pc := 22) dX3_has_22 (by unfold I32; omega) ?_
    refine V_reti (pc := 23) dX3_has_23 (show _ = (0 : Int) ∨ _ = (1 : Int) from by first | exact Or.inl rfl | exact Or.inr rfl | omega) ?_
    exact ⟨by omega, rfl⟩
  · skip
    refine V_ld (pc := 4) dX3_has_4 (v := vi j) rfl rfl ?_
    refine V_ld (pc := 5) dX3_has_5 (v := vr t) rfl rfl ?_
    refine V_getIv (pc := 6) dX3_has_6 (v := mI m t 3) fw_RX3_21 rfl T_t rfl (fun g6 => ?_)
    refine V_icmp_ge (pc := 9) dX3_has_9 (tgt := 22) rfl (fun h9 => ?_) (fun h9 => ?_)
    · skip
      refine V_iconst (pc := 22) dX3_has_22 (by unfold I32; omega) ?_
      refine V_reti (pc := 23) dX3_has_23 (show _ = (0 : Int) ∨ _ = (1 : Int) from by first | exact Or.inl rfl | exact Or.inr rfl | omega) ?_
      exact ⟨by omega, rfl⟩
    · skip
      refine V_ld (pc := 12) dX3_has_12 (v := vi j) rfl rfl ?_
      refine V_bipush (pc := 13) dX3_has_13 (by unfold I32; omega) (by decide) ?_
      refine V_icmp_ge (pc := 15) dX3_has_15 (tgt := 22) rfl (fun h15 => ?_) (fun h15 => ?_)
      · skip
        refine V_iconst (pc := 22) dX3_has_22 (by unfold I32; omega) ?_
        refine V_reti (pc := 23) dX3_has_23 (show _ = (0 : Int) ∨ _ = (1 : Int) from by first | exact Or.inl rfl | exact Or.inr rfl | omega) ?_
        exact ⟨by omega, rfl⟩
      · skip
        refine V_iconst (pc := 18) dX3_has_18 (by unfold I32; omega) ?_
        refine V_goto (pc := 19) dX3_has_19 (tgt := 23) rfl ?_
        refine V_reti (pc := 23) dX3_has_23 (show _ = (0 : Int) ∨ _ = (1 : Int) from by first | exact Or.inl rfl | exact Or.inr rfl | omega) ?_
        exact ⟨by omega, rfl⟩

set_option maxHeartbeats 4000000 in
theorem c_startOf  (m : Mem) (t : Nat) (j : Int) (a : Nat)  (T_t : mT m t = (3, 4)) (R_t_0 : mR m t 0 = some a) (T_a : mT m a = (20, 33)) : Ct μX3_startOf 1 [vr t, vi j] m (ri fun x_ m' => (x_ = if 0 ≤ j ∧ j < mI m t 3 ∧ j < 33 then mI m a j.toNat else -1) ∧ m = m') := by
  refine Ct_of_V rfl (by decide) rfl (Nat.le_of_ble_eq_true rfl) ?_
  show V μX3_startOf 1 m _ 0 [(0, vr t), (1, vi j)] [] m
  refine V_rg (k := 1) (x := j) rfl fun r_j => ?_
  refine V_ld (pc := 0) dX3_startOf_0 (v := vr t) rfl rfl ?_
  refine V_ld (pc := 1) dX3_startOf_1 (v := vi j) rfl rfl ?_
  refine V_callV (pc := 2) dX3_startOf_2 (F' := 0) (As := [vi j]) (st := []) cw_RX3_37 rfl rfl T_t (by decide) (Nat.le_of_ble_eq_true rfl) (by omega) (c_M_has  m t j   T_t) ?_
  rintro _ _ ⟨x2, rfl, hx2, rfl⟩ ok2 le2
  refine V_if_eq (pc := 5) dX3_startOf_5 (tgt := 17) rfl (fun h5 => ?_) (fun h5 => ?_)
  · skip
    refine V_iconst (pc := 17) dX3_startOf_17 (by unfold I32; omega) ?_
    refine V_reti (pc := 18) dX3_startOf_18 trivial ?_
    exact ⟨by omega, rfl⟩
  · skip
    refine V_ld (pc := 8) dX3_startOf_8 (v := vr t) rfl rfl ?_
    refine V_getRv (pc := 9) dX3_startOf_9 (o' := a) fw_RX3_11 rfl T_t R_t_0 ?_
    refine V_ld (pc := 12) dX3_startOf_12 (v := vi j) rfl rfl ?_
    refine V_ialdv (pc := 13) dX3_startOf_13 (v := mI m a j.toNat) T_a (by omega) rfl (fun g13 => ?_)
    refine V_goto (pc := 14) dX3_startOf_14 (tgt := 18) rfl ?_
    refine V_reti (pc := 18) dX3_startOf_18 trivial ?_
    exact ⟨by omega, rfl⟩

set_option maxHeartbeats 4000000 in
theorem c_rowsOf  (m : Mem) (t : Nat) (j : Int) (a : Nat) (b : Nat)  (T_t : mT m t = (3, 4)) (R_t_0 : mR m t 0 = some a) (R_t_1 : mR m t 1 = some b) (T_a : mT m a = (20, 33)) (T_b : mT m b = (20, 33)) (hr : ∀ j : Nat, j < 33 → 0 ≤ mI m a j ∧ mI m a j ≤ 100 ∧ 0 ≤ mI m b j ∧ mI m b j ≤ 100) : Ct μX3_rowsOf 1 [vr t, vi j] m (ri fun x_ m' => (x_ = if 0 ≤ j ∧ j < mI m t 3 ∧ j < 33 then mI m b j.toNat - mI m a j.toNat else -1) ∧ m = m') := by
  refine Ct_of_V rfl (by decide) rfl (Nat.le_of_ble_eq_true rfl) ?_
  show V μX3_rowsOf 1 m _ 0 [(0, vr t), (1, vi j)] [] m
  refine V_rg (k := 1) (x := j) rfl fun r_j => ?_
  have hrj := hr j.toNat
  refine V_ld (pc := 0) dX3_rowsOf_0 (v := vr t) rfl rfl ?_
  refine V_ld (pc := 1) dX3_rowsOf_1 (v := vi j) rfl rfl ?_
  refine V_callV (pc := 2) dX3_rowsOf_2 (F' := 0) (As := [vi j]) (st := []) cw_RX3_37 rfl rfl T_t (by decide) (Nat.le_of_ble_eq_true rfl) (by omega) (c_M_has  m t j   T_t) ?_
  rintro _ _ ⟨x2, rfl, hx2, rfl⟩ ok2 le2
  refine V_if_eq (pc := 5) dX3_rowsOf_5 (tgt := 24) rfl (fun h5 => ?_) (fun h5 => ?_)
  · skip
    refine V_iconst (pc := 24) dX3_rowsOf_24 (by unfold I32; omega) ?_
    refine V_reti (pc := 25) dX3_rowsOf_25 trivial ?_
    exact ⟨by omega, rfl⟩
  · skip
    refine V_ld (pc := 8) dX3_rowsOf_8 (v := vr t) rfl rfl ?_
    refine V_getRv (pc := 9) dX3_rowsOf_9 (o' := b) fw_RX3_15 rfl T_t R_t_1 ?_
    refine V_ld (pc := 12) dX3_rowsOf_12 (v := vi j) rfl rfl ?_
    refine V_ialdv (pc := 13) dX3_rowsOf_13 (v := mI m b j.toNat) T_b (by omega) rfl (fun g13 => ?_)
    refine V_ld (pc := 14) dX3_rowsOf_14 (v := vr t) rfl rfl ?_
    refine V_getRv (pc := 15) dX3_rowsOf_15 (o' := a) fw_RX3_11 rfl T_t R_t_0 ?_
    refine V_ld (pc := 18) dX3_rowsOf_18 (v := vi j) rfl rfl ?_
    refine V_ialdv (pc := 19) dX3_rowsOf_19 (v := mI m a j.toNat) T_a (by omega) rfl (fun g19 => ?_)
    refine V_isub (pc := 20) dX3_rowsOf_20 (by unfold I32 at *; omega) ?_
    refine V_goto (pc := 21) dX3_rowsOf_21 (tgt := 25) rfl ?_
    refine V_reti (pc := 25) dX3_rowsOf_25 trivial ?_
    exact ⟨by omega, rfl⟩

set_option maxHeartbeats 4000000 in
theorem c_letterOf  (m : Mem) (t : Nat) (j : Int) (r : Int) (c : Nat)  (T_t : mT m t = (3, 4)) (R_t_2 : mR m t 2 = some c) (T_c : mT m c = (20, 1056)) : Ct μX3_letterOf 1 [vr t, vi j, vi r] m (ri fun x_ m' => (x_ = if (0 ≤ j ∧ j < mI m t 3 ∧ j < 33) ∧ 0 ≤ r ∧ r < 32 then mI m c (j * 32 + r).toNat else -5) ∧ m = m') := by
  refine Ct_of_V rfl (by decide) rfl (Nat.le_of_ble_eq_true rfl) ?_
  show V μX3_letterOf 1 m _ 0 [(0, vr t), (1, vi j), (2, vi r)] [] m
  refine V_rg (k := 1) (x := j) rfl fun r_j => ?_
  refine V_rg (k := 2) (x := r) rfl fun r_r => ?_
  refine V_ld (pc := 0) dX3_letterOf_0 (v := vr t) rfl rfl ?_
  refine V_ld (pc := 1) dX3_letterOf_1 (v := vi j) rfl rfl ?_
  refine V_callV (pc := 2) dX3_letterOf_2 (F' := 0) (As := [vi j]) (st := []) cw_RX3_37 rfl rfl T_t (by decide) (Nat.le_of_ble_eq_true rfl) (by omega) (c_M_has  m t j   T_t) ?_
  rintro _ _ ⟨x2, rfl, hx2, rfl⟩ ok2 le2
  refine V_if_eq (pc := 5) dX3_letterOf_5 (tgt := 32) rfl (fun h5 => ?_) (fun h5 => ?_)
  · skip
    refine V_bipush (pc := 32) dX3_letterOf_32 (by unfold I32; omega) (by decide) ?_
    refine V_reti (pc := 34) dX3_letterOf_34 trivial ?_
    exact ⟨by omega, rfl⟩
  · skip
    refine V_ld (pc := 8) dX3_letterOf_8 (v := vi r) rfl rfl ?_
    refine V_if_lt (pc := 9) dX3_letterOf_9 (tgt := 32) rfl (fun h9 => ?_) (fun h9 => ?_)
    · skip
      refine V_bipush (pc := 32) dX3_letterOf_32 (by unfold I32; omega) (by decide) ?_
      refine V_reti (pc := 34) dX3_letterOf_34 trivial ?_
      exact ⟨by omega, rfl⟩
    · skip
      refine V_ld (pc := 12) dX3_letterOf_12 (v := vi r) rfl rfl ?_
      refine V_bipush (pc := 13) dX3_letterOf_13 (by unfold I32; omega) (by decide) ?_
      refine V_icmp_ge (pc := 15) dX3_letterOf_15 (tgt := 32) rfl (fun h15 => ?_) (fun h15 => ?_)
      · skip
        refine V_bipush (pc := 32) dX3_letterOf_32 (by unfold I32; omega) (by decide) ?_
        refine V_reti (pc := 34) dX3_letterOf_34 trivial ?_
        exact ⟨by omega, rfl⟩
      · skip
        refine V_ld (pc := 18) dX3_letterOf_18 (v := vr t) rfl rfl ?_
        refine V_getRv (pc := 19) dX3_letterOf_19 (o' := c) fw_RX3_18 rfl T_t R_t_2 ?_
        refine V_ld (pc := 22) dX3_letterOf_22 (v := vi j) rfl rfl ?_
        refine V_bipush (pc := 23) dX3_letterOf_23 (by unfold I32; omega) (by decide) ?_
        refine V_imul (pc := 25) dX3_letterOf_25 (by unfold I32 at *; omega) ?_
        refine V_ld (pc := 26) dX3_letterOf_26 (v := vi r) rfl rfl ?_
        refine V_iadd (pc := 27) dX3_letterOf_27 (by unfold I32 at *; omega) ?_
        refine V_ialdv (pc := 28) dX3_letterOf_28 (v := mI m c (((j * 32) + r).toNat)) T_c (by omega) rfl (fun g28 => ?_)
        refine V_goto (pc := 29) dX3_letterOf_29 (tgt := 34) rfl ?_
        refine V_reti (pc := 34) dX3_letterOf_34 trivial ?_
        exact ⟨by omega, rfl⟩

