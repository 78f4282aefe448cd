/-! leaves of the class: texts, the table, rows of longs -/
set_option maxHeartbeats 4000000 in
theorem c_Text_at  (m : Mem) (t : Nat) (i : Int) (b : Nat)  (T_t : mT m t = (9, 2)) (R_t_0 : mR m t 0 = some b) (T_b : mT m b = (20, 120)) : Ct μX9_at 0 [vr t, vi i] m (ri fun x_ m' => (x_ = if 0 ≤ i ∧ i < mI m t 1 ∧ i < 120 then mI m b i.toNat else -1) ∧ m = m') := by
  refine Ct_of_V rfl (by decide) rfl (Nat.le_of_ble_eq_true rfl) ?_
  show V μX9_at 0 m _ 0 [(0, vr t), (1, vi i)] [] m
  refine V_rg (k := 1) (x := i) rfl fun r_i => ?_
  refine V_ld (pc := 0) dX9_at_0 (v := vi i) rfl rfl ?_
  refine V_if_lt (pc := 1) dX9_at_1 (tgt := 18) rfl (fun h1 => ?_) (fun h1 => ?_)
  · skip
    refine V_iconst (pc := 18) dX9_at_18 (by unfold I32; omega) ?_
    refine V_goto (pc := 19) dX9_at_19 (tgt := 28) rfl ?_
    refine V_reti (pc := 28) dX9_at_28 trivial ?_
    exact ⟨by omega, rfl⟩
  · skip
    refine V_ld (pc := 4) dX9_at_4 (v := vi i) rfl rfl ?_
    refine V_ld (pc := 5) dX9_at_5 (v := vr t) rfl rfl ?_
    refine V_getIv (pc := 6) dX9_at_6 (v := mI m t 1) fw_RX9_15 rfl T_t rfl (fun g6 => ?_)
    refine V_icmp_ge (pc := 9) dX9_at_9 (tgt := 18) rfl (fun h9 => ?_) (fun h9 => ?_)
    · skip
      refine V_iconst (pc := 18) dX9_at_18 (by unfold I32; omega) ?_
      refine V_goto (pc := 19) dX9_at_19 (tgt := 28) rfl ?_
      refine V_reti (pc := 28) dX9_at_28 trivial ?_
      exact ⟨by omega, rfl⟩
    · skip
      refine V_ld (pc := 12) dX9_at_12 (v := vi i) rfl rfl ?_
      refine V_bipush (pc := 13) dX9_at_13 (by unfold I32; omega) (by decide) ?_
      refine V_icmp_lt (pc := 15) dX9_at_15 (tgt := 22) rfl (fun h15 => ?_) (fun h15 => ?_)
      · skip
        refine V_ld (pc := 22) dX9_at_22 (v := vr t) rfl rfl ?_
        refine V_getRv (pc := 23) dX9_at_23 (o' := b) fw_RX9_9 rfl T_t R_t_0 ?_
        refine V_ld (pc := 26) dX9_at_26 (v := vi i) rfl rfl ?_
        refine V_ialdv (pc := 27) dX9_at_27 (v := mI m b i.toNat) T_b (by omega) rfl (fun g27 => ?_)
        refine V_reti (pc := 28) dX9_at_28 trivial ?_
        exact ⟨by omega, rfl⟩
      · skip
        refine V_iconst (pc := 18) dX9_at_18 (by unfold I32; omega) ?_
        refine V_goto (pc := 19) dX9_at_19 (tgt := 28) rfl ?_
        refine V_reti (pc := 28) dX9_at_28 trivial ?_
        exact ⟨by omega, rfl⟩

set_option maxHeartbeats 4000000 in
theorem c_Text_add  (m : Mem) (t : Nat) (g : Int) (b : Nat)  (T_t : mT m t = (9, 2)) (R_t_0 : mR m t 0 = some b) (T_b : mT m b = (20, 120)) (hsz : 0 ≤ mI m t 1) (hbt : b ≠ t) : Ct μX9_add 0 [vr t, vi g] m (ri fun x_ m' => ((mI m t 1 < 120) ∧ (x_ = 1) ∧ setI (setI m b (mI m t 1).toNat g) t 1 (mI m t 1 + 1) = m') ∨ ((120 ≤ mI m t 1) ∧ (x_ = 0) ∧ m = m')) := by
  refine Ct_of_V rfl (by decide) rfl (Nat.le_of_ble_eq_true rfl) ?_
  show V μX9_add 0 m _ 0 [(0, vr t), (1, vi g)] [] m
  refine V_rg (k := 1) (x := g) rfl fun r_g => ?_
  refine V_ld (pc := 0) dX9_add_0 (v := vr t) rfl rfl ?_
  refine V_getIv (pc := 1) dX9_add_1 (v := mI m t 1) fw_RX9_15 rfl T_t rfl (fun g1 => ?_)
  refine V_if_lt (pc := 4) dX9_add_4 (tgt := 16) rfl (fun h4 => ?_) (fun h4 => ?_)
  · skip
    refine V_iconst (pc := 16) dX9_add_16 (by unfold I32; omega) ?_
    refine V_reti (pc := 17) dX9_add_17 (show _ = (0 : Int) ∨ _ = (1 : Int) from by first | exact Or.inl rfl | exact Or.inr rfl | omega) ?_
    first | exact (Or.inl ⟨by omega, by omega, rfl⟩) | exact (Or.inr ⟨by omega, by omega, rfl⟩)
  · skip
    refine V_ld (pc := 7) dX9_add_7 (v := vr t) rfl rfl ?_
    refine V_getIv (pc := 8) dX9_add_8 (v := mI m t 1) fw_RX9_15 rfl T_t rfl (fun g8 => ?_)
    refine V_bipush (pc := 11) dX9_add_11 (by unfold I32; omega) (by decide) ?_
    refine V_icmp_lt (pc := 13) dX9_add_13 (tgt := 18) rfl (fun h13 => ?_) (fun h13 => ?_)
    · skip
      refine V_ld (pc := 18) dX9_add_18 (v := vr t) rfl rfl ?_
      refine V_getRv (pc := 19) dX9_add_19 (o' := b) fw_RX9_9 rfl T_t R_t_0 ?_
      refine V_ld (pc := 22) dX9_add_22 (v := vr t) rfl rfl ?_
      refine V_getIv (pc := 23) dX9_add_23 (v := mI m t 1) fw_RX9_15 rfl T_t rfl (fun g23 => ?_)
      refine V_ld (pc := 26) dX9_add_26 (v := vi g) rfl rfl ?_
      refine V_iast (pc := 27) dX9_add_27 T_b (by omega) ?_
      refine V_ld (pc := 28) dX9_add_28 (v := vr t) rfl rfl ?_
      refine V_dup (pc := 29) dX9_add_29 rfl ?_
      refine V_getIv (pc := 30) dX9_add_30 (v := mI m t 1) fw_RX9_15 rfl T_t (by first | rfl | (simp [mI_setI, up2, hbt, hbt.symm, Ne.symm hbt]; done)) (fun g30 => ?_)
      refine V_iconst (pc := 33) dX9_add_33 (by unfold I32; omega) ?_
      refine V_iadd (pc := 34) dX9_add_34 (by unfold I32 at *; omega) ?_
      refine V_putI (pc := 35) dX9_add_35 fw_RX9_15 rfl T_t (Or.inl rfl) (Or.inl rfl) ?_
      refine V_iconst (pc := 38) dX9_add_38 (by unfold I32; omega) ?_
      refine V_reti (pc := 39) dX9_add_39 (show _ = (0 : Int) ∨ _ = (1 : Int) from by first | exact Or.inl rfl | exact Or.inr rfl | omega) ?_
      first | exact (Or.inl ⟨by omega, by omega, rfl⟩) | exact (Or.inr ⟨by omega, by omega, rfl⟩)
    · skip
      refine V_iconst (pc := 16) dX9_add_16 (by unfold I32; omega) ?_
      refine V_reti (pc := 17) dX9_add_17 (show _ = (0 : Int) ∨ _ = (1 : Int) from by first | exact Or.inl rfl | exact Or.inr rfl | omega) ?_
      first | exact (Or.inl ⟨by omega, by omega, rfl⟩) | exact (Or.inr ⟨by omega, by omega, rfl⟩)

set_option maxHeartbeats 4000000 in
theorem c_Text_empty  (m : Mem) (t : Nat)   (T_t : mT m t = (9, 2)) : Ct μX9_empty 0 [vr t] m (ri fun x_ m' => (x_ = mI m t 1) ∧ setI m t 1 0 = m') := by
  refine Ct_of_V rfl (by decide) rfl (Nat.le_of_ble_eq_true rfl) ?_
  show V μX9_empty 0 m _ 0 [(0, vr t)] [] m
  refine V_ld (pc := 0) dX9_empty_0 (v := vr t) rfl rfl ?_
  refine V_getIv (pc := 1) dX9_empty_1 (v := mI m t 1) fw_RX9_15 rfl T_t rfl (fun g1 => ?_)
  refine V_st (pc := 4) dX9_empty_4 (ls' := [(1, vi (mI m t 1)), (0, vr t)]) rfl (Nat.le_of_ble_eq_true rfl) rfl ?_
  refine V_ld (pc := 5) dX9_empty_5 (v := vr t) rfl rfl ?_
  refine V_iconst (pc := 6) dX9_empty_6 (by unfold I32; omega) ?_
  refine V_putI (pc := 7) dX9_empty_7 fw_RX9_15 rfl T_t (Or.inl rfl) (Or.inl rfl) ?_
  refine V_ld (pc := 10) dX9_empty_10 (v := vi (mI m t 1)) rfl rfl ?_
  refine V_reti (pc := 11) dX9_empty_11 trivial ?_
  exact ⟨rfl, rfl⟩

set_option maxHeartbeats 4000000 in
theorem c_hasRow  (m : Mem) (t : Nat) (i : Int)   (T_t : mT m t = (8, 2)) : Ct μX8_hasRow 0 [vr t, vi i] m (ri fun x_ m' => (x_ = if 0 ≤ i ∧ i < mI m t 1 ∧ i < 32 then 1 else 0) ∧ m = m') := by
  refine Ct_of_V rfl (by decide) rfl (Nat.le_of_ble_eq_true rfl) ?_
  show V μX8_hasRow 0 m _ 0 [(0, vr t), (1, vi i)] [] m
  refine V_rg (k := 1) (x := i) rfl fun r_i => ?_
  refine V_ld (pc := 0) dX8_hasRow_0 (v := vi i) rfl rfl ?_
  refine V_if_lt (pc := 1) dX8_hasRow_1 (tgt := 22) rfl (fun h1 => ?_) (fun h1 => ?_)
  · skip
    refine V_iconst (pc := 22) dX8_hasRow_22 (by unfold I32; omega) ?_
    refine V_reti (pc := 23) dX8_hasRow_23 (show _ = (0 : Int) ∨ _ = (1 : Int) from by first | exact Or.inl rfl | exact Or.inr rfl | omega) ?_
    exact ⟨by omega, rfl⟩
  · skip
    refine V_ld (pc := 4) dX8_hasRow_4 (v := vi i) rfl rfl ?_
    refine V_ld (pc := 5) dX8_hasRow_5 (v := vr t) rfl rfl ?_
    refine V_getIv (pc := 6) dX8_hasRow_6 (v := mI m t 1) fw_RX8_15 rfl T_t rfl (fun g6 => ?_)
    refine V_icmp_ge (pc := 9) dX8_hasRow_9 (tgt := 22) rfl (fun h9 => ?_) (fun h9 => ?_)
    · skip
      refine V_iconst (pc := 22) dX8_hasRow_22 (by unfold I32; omega) ?_
      refine V_reti (pc := 23) dX8_hasRow_23 (show _ = (0 : Int) ∨ _ = (1 : Int) from by first | exact Or.inl rfl | exact Or.inr rfl | omega) ?_
      exact ⟨by omega, rfl⟩
    · skip
      refine V_ld (pc := 12) dX8_hasRow_12 (v := vi i) rfl rfl ?_
      refine V_bipush (pc := 13) dX8_hasRow_13 (by unfold I32; omega) (by decide) ?_
      refine V_icmp_ge (pc := 15) dX8_hasRow_15 (tgt := 22) rfl (fun h15 => ?_) (fun h15 => ?_)
      · skip
        refine V_iconst (pc := 22) dX8_hasRow_22 (by unfold I32; omega) ?_
        refine V_reti (pc := 23) dX8_hasRow_23 (show _ = (0 : Int) ∨ _ = (1 : Int) from by first | exact Or.inl rfl | exact Or.inr rfl | omega) ?_
        exact ⟨by omega, rfl⟩
      · skip
        refine V_iconst (pc := 18) dX8_hasRow_18 (by unfold I32; omega) ?_
        refine V_goto (pc := 19) dX8_hasRow_19 (tgt := 23) rfl ?_
        refine V_reti (pc := 23) dX8_hasRow_23 (show _ = (0 : Int) ∨ _ = (1 : Int) from by first | exact Or.inl rfl | exact Or.inr rfl | omega) ?_
        exact ⟨by omega, rfl⟩

set_option maxHeartbeats 4000000 in
theorem c_number  (m : Mem) (t : Nat) (i : Int) (c : Int) (b : Nat)  (T_t : mT m t = (8, 2)) (R_t_0 : mR m t 0 = some b) (T_b : mT m b = (20, 64)) : Ct μX8_number 0 [vr t, vi i, vi c] m (ri fun x_ m' => (x_ = if 0 ≤ i ∧ i < mI m t 1 ∧ i < 32 ∧ 0 ≤ c ∧ c < 2 then mI m b (i * 2 + c).toNat else 1000) ∧ m = m') := by
  refine Ct_of_V rfl (by decide) rfl (Nat.le_of_ble_eq_true rfl) ?_
  show V μX8_number 0 m _ 0 [(0, vr t), (1, vi i), (2, vi c)] [] m
  refine V_rg (k := 1) (x := i) rfl fun r_i => ?_
  refine V_rg (k := 2) (x := c) rfl fun r_c => ?_
  refine V_ld (pc := 0) dX8_number_0 (v := vi i) rfl rfl ?_
  refine V_if_lt (pc := 1) dX8_number_1 (tgt := 31) rfl (fun h1 => ?_) (fun h1 => ?_)
  · skip
    refine V_iconst (pc := 31) dX8_number_31 (by unfold I32; omega) ?_
    refine V_st (pc := 32) dX8_number_32 (ls' := [(3, vi 0), (0, vr t), (1, vi i), (2, vi c)]) rfl (Nat.le_of_ble_eq_true rfl) rfl ?_
    refine V_ld (pc := 33) dX8_number_33 (v := vi 0) rfl rfl ?_
    refine V_if_eq (pc := 34) dX8_number_34 (tgt := 50) rfl (fun h34 => ?_) (fun h34 => ?_)
    · skip
      refine V_sipush (pc := 50) dX8_number_50 (by unfold I32; omega) (by decide) ?_
      refine V_reti (pc := 53) dX8_number_53 trivial ?_
      exact ⟨by omega, rfl⟩
    · skip
      refine V_ld (pc := 37) dX8_number_37 (v := vr t) rfl rfl ?_
      refine V_getRv (pc := 38) dX8_number_38 (o' := b) fw_RX8_9 rfl T_t R_t_0 ?_
      refine V_ld (pc := 41) dX8_number_41 (v := vi i) rfl rfl ?_
      refine V_iconst (pc := 42) dX8_number_42 (by unfold I32; omega) ?_
      refine V_imul (pc := 43) dX8_number_43 (by unfold I32 at *; omega) ?_
      refine V_ld (pc := 44) dX8_number_44 (v := vi c) rfl rfl ?_
      refine V_iadd (pc := 45) dX8_number_45 (by unfold I32 at *; omega) ?_
      refine V_ialdv (pc := 46) dX8_number_46 (v := mI m b (((i * 2) + c).toNat)) T_b (by omega) rfl (fun g46 => ?_)
      refine V_goto (pc := 47) dX8_number_47 (tgt := 53) rfl ?_
      refine V_reti (pc := 53) dX8_number_53 trivial ?_
      exact ⟨by omega, rfl⟩
  · skip
    refine V_ld (pc := 4) dX8_number_4 (v := vi i) rfl rfl ?_
    refine V_ld (pc := 5) dX8_number_5 (v := vr t) rfl rfl ?_
    refine V_getIv (pc := 6) dX8_number_6 (v := mI m t 1) fw_RX8_15 rfl T_t rfl (fun g6 => ?_)
    refine V_icmp_ge (pc := 9) dX8_number_9 (tgt := 31) rfl (fun h9 => ?_) (fun h9 => ?_)
    · skip
      refine V_iconst (pc := 31) dX8_number_31 (by unfold I32; omega) ?_
      refine V_st (pc := 32) dX8_number_32 (ls' := [(3, vi 0), (0, vr t), (1, vi i), (2, vi c)]) rfl (Nat.le_of_ble_eq_true rfl) rfl ?_
      refine V_ld (pc := 33) dX8_number_33 (v := vi 0) rfl rfl ?_
      refine V_if_eq (pc := 34) dX8_number_34 (tgt := 50) rfl (fun h34 => ?_) (fun h34 => ?_)
      · skip
        refine V_sipush (pc := 50) dX8_number_50 (by unfold I32; omega) (by decide) ?_
        refine V_reti (pc := 53) dX8_number_53 trivial ?_
        exact ⟨by omega, rfl⟩
      · skip
        refine V_ld (pc := 37) dX8_number_37 (v := vr t) rfl rfl ?_
        refine V_getRv (pc := 38) dX8_number_38 (o' := b) fw_RX8_9 rfl T_t R_t_0 ?_
        refine V_ld (pc := 41) dX8_number_41 (v := vi i) rfl rfl ?_
        refine V_iconst (pc := 42) dX8_number_42 (by unfold I32; omega) ?_
        refine V_imul (pc := 43) dX8_number_43 (by unfold I32 at *; omega) ?_
        refine V_ld (pc := 44) dX8_number_44 (v := vi c) rfl rfl ?_
        refine V_iadd (pc := 45) dX8_number_45 (by unfold I32 at *; omega) ?_
        refine V_ialdv (pc := 46) dX8_number_46 (v := mI m b (((i * 2) + c).toNat)) T_b (by omega) rfl (fun g46 => ?_)
        refine V_goto (pc := 47) dX8_number_47 (tgt := 53) rfl ?_
        refine V_reti (pc := 53) dX8_number_53 trivial ?_
        exact ⟨by omega, rfl⟩
    · skip
      refine V_ld (pc := 12) dX8_number_12 (v := vi i) rfl rfl ?_
      refine V_bipush (pc := 13) dX8_number_13 (by unfold I32; omega) (by decide) ?_
      refine V_icmp_ge (pc := 15) dX8_number_15 (tgt := 31) rfl (fun h15 => ?_) (fun h15 => ?_)
      · skip
        refine V_iconst (pc := 31) dX8_number_31 (by unfold I32; omega) ?_
        refine V_st (pc := 32) dX8_number_32 (ls' := [(3, vi 0), (0, vr t), (1, vi i), (2, vi c)]) rfl (Nat.le_of_ble_eq_true rfl) rfl ?_
        refine V_ld (pc := 33) dX8_number_33 (v := vi 0) rfl rfl ?_
        refine V_if_eq (pc := 34) dX8_number_34 (tgt := 50) rfl (fun h34 => ?_) (fun h34 => ?_)
        · skip
          refine V_sipush (pc := 50) dX8_number_50 (by unfold I32; omega) (by decide) ?_
          refine V_reti (pc := 53) dX8_number_53 trivial ?_
          exact ⟨by omega, rfl⟩
        · skip
          refine V_ld (pc := 37) dX8_number_37 (v := vr t) rfl rfl ?_
          refine V_getRv (pc := 38) dX8_number_38 (o' := b) fw_RX8_9 rfl T_t R_t_0 ?_
          refine V_ld (pc := 41) dX8_number_41 (v := vi i) rfl rfl ?_
          refine V_iconst (pc := 42) dX8_number_42 (by unfold I32; omega) ?_
          refine V_imul (pc := 43) dX8_number_43 (by unfold I32 at *; omega) ?_
          refine V_ld (pc := 44) dX8_number_44 (v := vi c) rfl rfl ?_
          refine V_iadd (pc := 45) dX8_number_45 (by unfold I32 at *; omega) ?_
          refine V_ialdv (pc := 46) dX8_number_46 (v := mI m b (((i * 2) + c).toNat)) T_b (by omega) rfl (fun g46 => ?_)
          refine V_goto (pc := 47) dX8_number_47 (tgt := 53) rfl ?_
          refine V_reti (pc := 53) dX8_number_53 trivial ?_
          exact ⟨by omega, rfl⟩
      · skip
        refine V_ld (pc := 18) dX8_number_18 (v := vi c) rfl rfl ?_
        refine V_if_lt (pc := 19) dX8_number_19 (tgt := 31) rfl (fun h19 => ?_) (fun h19 => ?_)
        · skip
          refine V_iconst (pc := 31) dX8_number_31 (by unfold I32; omega) ?_
          refine V_st (pc := 32) dX8_number_32 (ls' := [(3, vi 0), (0, vr t), (1, vi i), (2, vi c)]) rfl (Nat.le_of_ble_eq_true rfl) rfl ?_
          refine V_ld (pc := 33) dX8_number_33 (v := vi 0) rfl rfl ?_
          refine V_if_eq (pc := 34) dX8_number_34 (tgt := 50) rfl (fun h34 => ?_) (fun h34 => ?_)
          · skip
            refine V_sipush (pc := 50) dX8_number_50 (by unfold I32; omega) (by decide) ?_
            refine V_reti (pc := 53) dX8_number_53 trivial ?_
            exact ⟨by omega, rfl⟩
          · skip
            refine V_ld (pc := 37) dX8_number_37 (v := vr t) rfl rfl ?_
            refine V_getRv (pc := 38) dX8_number_38 (o' := b) fw_RX8_9 rfl T_t R_t_0 ?_
            refine V_ld (pc := 41) dX8_number_41 (v := vi i) rfl rfl ?_
            refine V_iconst (pc := 42) dX8_number_42 (by unfold I32; omega) ?_
            refine V_imul (pc := 43) dX8_number_43 (by unfold I32 at *; omega) ?_
            refine V_ld (pc := 44) dX8_number_44 (v := vi c) rfl rfl ?_
            refine V_iadd (pc := 45) dX8_number_45 (by unfold I32 at *; omega) ?_
            refine V_ialdv (pc := 46) dX8_number_46 (v := mI m b (((i * 2) + c).toNat)) T_b (by omega) rfl (fun g46 => ?_)
            refine V_goto (pc := 47) dX8_number_47 (tgt := 53) rfl ?_
            refine V_reti (pc := 53) dX8_number_53 trivial ?_
            exact ⟨by omega, rfl⟩
        · skip
          refine V_ld (pc := 22) dX8_number_22 (v := vi c) rfl rfl ?_
          refine V_iconst (pc := 23) dX8_number_23 (by unfold I32; omega) ?_
          refine V_icmp_ge (pc := 24) dX8_number_24 (tgt := 31) rfl (fun h24 => ?_) (fun h24 => ?_)
          · skip
            refine V_iconst (pc := 31) dX8_number_31 (by unfold I32; omega) ?_
            refine V_st (pc := 32) dX8_number_32 (ls' := [(3, vi 0), (0, vr t), (1, vi i), (2, vi c)]) rfl (Nat.le_of_ble_eq_true rfl) rfl ?_
            refine V_ld (pc := 33) dX8_number_33 (v := vi 0) rfl rfl ?_
            refine V_if_eq (pc := 34) dX8_number_34 (tgt := 50) rfl (fun h34 => ?_) (fun h34 => ?_)
            · skip
              refine V_sipush (pc := 50) dX8_number_50 (by unfold I32; omega) (by decide) ?_
              refine V_reti (pc := 53) dX8_number_53 trivial ?_
              exact ⟨by omega, rfl⟩
            · skip
              refine V_ld (pc := 37) dX8_number_37 (v := vr t) rfl rfl ?_
              refine V_getRv (pc := 38) dX8_number_38 (o' := b) fw_RX8_9 rfl T_t R_t_0 ?_
              refine V_ld (pc := 41) dX8_number_41 (v := vi i) rfl rfl ?_
              refine V_iconst (pc := 42) dX8_number_42 (by unfold I32; omega) ?_
              refine V_imul (pc := 43) dX8_number_43 (by unfold I32 at *; omega) ?_
              refine V_ld (pc := 44) dX8_number_44 (v := vi c) rfl rfl ?_
              refine V_iadd (pc := 45) dX8_number_45 (by unfold I32 at *; omega) ?_
              refine V_ialdv (pc := 46) dX8_number_46 (v := mI m b (((i * 2) + c).toNat)) T_b (by omega) rfl (fun g46 => ?_)
              refine V_goto (pc := 47) dX8_number_47 (tgt := 53) rfl ?_
              refine V_reti (pc := 53) dX8_number_53 trivial ?_
              exact ⟨by omega, rfl⟩
          · skip
            refine V_iconst (pc := 27) dX8_number_27 (by unfold I32; omega) ?_
            refine V_goto (pc := 28) dX8_number_28 (tgt := 32) rfl ?_
            refine V_st (pc := 32) dX8_number_32 (ls' := [(3, vi 1), (0, vr t), (1, vi i), (2, vi c)]) rfl (Nat.le_of_ble_eq_true rfl) rfl ?_
            refine V_ld (pc := 33) dX8_number_33 (v := vi 1) rfl rfl ?_
            refine V_if_eq (pc := 34) dX8_number_34 (tgt := 50) rfl (fun h34 => ?_) (fun h34 => ?_)
            · skip
              refine V_sipush (pc := 50) dX8_number_50 (by unfold I32; omega) (by decide) ?_
              refine V_reti (pc := 53) dX8_number_53 trivial ?_
              exact ⟨by omega, rfl⟩
            · skip
              refine V_ld (pc := 37) dX8_number_37 (v := vr t) rfl rfl ?_
              refine V_getRv (pc := 38) dX8_number_38 (o' := b) fw_RX8_9 rfl T_t R_t_0 ?_
              refine V_ld (pc := 41) dX8_number_41 (v := vi i) rfl rfl ?_
              refine V_iconst (pc := 42) dX8_number_42 (by unfold I32; omega) ?_
              refine V_imul (pc := 43) dX8_number_43 (by unfold I32 at *; omega) ?_
              refine V_ld (pc := 44) dX8_number_44 (v := vi c) rfl rfl ?_
              refine V_iadd (pc := 45) dX8_number_45 (by unfold I32 at *; omega) ?_
              refine V_ialdv (pc := 46) dX8_number_46 (v := mI m b (((i * 2) + c).toNat)) T_b (by omega) rfl (fun g46 => ?_)
              refine V_goto (pc := 47) dX8_number_47 (tgt := 53) rfl ?_
              refine V_reti (pc := 53) dX8_number_53 trivial ?_
              exact ⟨by omega, rfl⟩

set_option maxHeartbeats 4000000 in
theorem c_Table_write  (m : Mem) (t : Nat) (i : Int) (x1 : Int) (y1 : Int) (b : Nat)  (T_t : mT m t = (8, 2)) (R_t_0 : mR m t 0 = some b) (T_b : mT m b = (20, 64)) (hrow : 0 ≤ i ∧ i < mI m t 1 ∧ i < 32) : Ct μX8_write 1 [vr t, vi i, vi x1, vi y1] m (rv fun m' => setI (setI m b (i * 2).toNat x1) b (i * 2 + 1).toNat y1 = m') := by
  refine Ct_of_V rfl (by decide) rfl (Nat.le_of_ble_eq_true rfl) ?_
  show V μX8_write 1 m _ 0 [(0, vr t), (1, vi i), (2, vi x1), (3, vi y1)] [] m
  refine V_rg (k := 1) (x := i) rfl fun r_i => ?_
  refine V_rg (k := 2) (x := x1) rfl fun r_x1 => ?_
  refine V_rg (k := 3) (x := y1) rfl fun r_y1 => ?_
  refine V_ld (pc := 0) dX8_write_0 (v := vr t) rfl rfl ?_
  refine V_ld (pc := 1) dX8_write_1 (v := vi i) rfl rfl ?_
  refine V_callV (pc := 2) dX8_write_2 (F' := 0) (As := [vi i]) (st := []) cw_RX8_19 rfl rfl T_t (by decide) (Nat.le_of_ble_eq_true rfl) (by omega) (c_hasRow  m t i   T_t) ?_
  rintro _ _ ⟨x2, rfl, hx2, rfl⟩ ok2 le2
  refine V_if_eq (pc := 5) dX8_write_5 (tgt := 28) rfl (fun h5 => ?_) (fun h5 => ?_)
  · skip
    refine V_retv (pc := 28) dX8_write_28 trivial ?_
    first | exact ⟨rfl, rfl⟩ | exact rfl | (exfalso; omega)
  · skip
    refine V_ld (pc := 8) dX8_write_8 (v := vr t) rfl rfl ?_
    refine V_getRv (pc := 9) dX8_write_9 (o' := b) fw_RX8_9 rfl T_t R_t_0 ?_
    refine V_ld (pc := 12) dX8_write_12 (v := vi i) rfl rfl ?_
    refine V_iconst (pc := 13) dX8_write_13 (by unfold I32; omega) ?_
    refine V_imul (pc := 14) dX8_write_14 (by unfold I32 at *; omega) ?_
    refine V_ld (pc := 15) dX8_write_15 (v := vi x1) rfl rfl ?_
    refine V_iast (pc := 16) dX8_write_16 T_b (by omega) ?_
    refine V_ld (pc := 17) dX8_write_17 (v := vr t) rfl rfl ?_
    refine V_getRv (pc := 18) dX8_write_18 (o' := b) fw_RX8_9 rfl T_t R_t_0 ?_
    refine V_ld (pc := 21) dX8_write_21 (v := vi i) rfl rfl ?_
    refine V_iconst (pc := 22) dX8_write_22 (by unfold I32; omega) ?_
    refine V_imul (pc := 23) dX8_write_23 (by unfold I32 at *; omega) ?_
    refine V_iconst (pc := 24) dX8_write_24 (by unfold I32; omega) ?_
    refine V_iadd (pc := 25) dX8_write_25 (by unfold I32 at *; omega) ?_
    refine V_ld (pc := 26) dX8_write_26 (v := vi y1) rfl rfl ?_
    refine V_iast (pc := 27) dX8_write_27 T_b (by omega) ?_
    refine V_retv (pc := 28) dX8_write_28 trivial ?_
    first | exact ⟨rfl, rfl⟩ | exact rfl | (exfalso; omega)

set_option maxHeartbeats 4000000 in
theorem c_isCell  (m : Mem) (i : Int)    : Ct μX10_isCell 0 [vi i] m (ri fun x_ m' => (x_ = if -999 ≤ i ∧ i ≤ 1000 then 1 else 0) ∧ m = m') := by
  refine Ct_of_V rfl (by decide) rfl (Nat.le_of_ble_eq_true rfl) ?_
  show V μX10_isCell 0 m _ 0 [(0, vi i)] [] m
  refine V_rg (k := 0) (x := i) rfl fun r_i => ?_
  refine V_ld (pc := 0) dX10_isCell_0 (v := vi i) rfl rfl ?_
  refine V_sipush (pc := 1) dX10_isCell_1 (by unfold I32; omega) (by decide) ?_
  refine V_icmp_lt (pc := 4) dX10_isCell_4 (tgt := 18) rfl (fun h4 => ?_) (fun h4 => ?_)
  · skip
    refine V_iconst (pc := 18) dX10_isCell_18 (by unfold I32; omega) ?_
    refine V_reti (pc := 19) dX10_isCell_19 (show _ = (0 : Int) ∨ _ = (1 : Int) from by first | exact Or.inl rfl | exact Or.inr rfl | omega) ?_
    exact ⟨by omega, rfl⟩
  · skip
    refine V_ld (pc := 7) dX10_isCell_7 (v := vi i) rfl rfl ?_
    refine V_sipush (pc := 8) dX10_isCell_8 (by unfold I32; omega) (by decide) ?_
    refine V_icmp_gt (pc := 11) dX10_isCell_11 (tgt := 18) rfl (fun h11 => ?_) (fun h11 => ?_)
    · skip
      refine V_iconst (pc := 18) dX10_isCell_18 (by unfold I32; omega) ?_
      refine V_reti (pc := 19) dX10_isCell_19 (show _ = (0 : Int) ∨ _ = (1 : Int) from by first | exact Or.inl rfl | exact Or.inr rfl | omega) ?_
      exact ⟨by omega, rfl⟩
    · skip
      refine V_iconst (pc := 14) dX10_isCell_14 (by unfold I32; omega) ?_
      refine V_goto (pc := 15) dX10_isCell_15 (tgt := 19) rfl ?_
      refine V_reti (pc := 19) dX10_isCell_19 (show _ = (0 : Int) ∨ _ = (1 : Int) from by first | exact Or.inl rfl | exact Or.inr rfl | omega) ?_
      exact ⟨by omega, rfl⟩

set_option maxHeartbeats 4000000 in
theorem c_isLetter  (m : Mem) (i : Int)    : Ct μX10_isLetter 0 [vi i] m (ri fun x_ m' => (x_ = if 0 ≤ i ∧ i < 26 then 1 else 0) ∧ m = m') := by
  refine Ct_of_V rfl (by decide) rfl (Nat.le_of_ble_eq_true rfl) ?_
  show V μX10_isLetter 0 m _ 0 [(0, vi i)] [] m
  refine V_rg (k := 0) (x := i) rfl fun r_i => ?_
  refine V_ld (pc := 0) dX10_isLetter_0 (v := vi i) rfl rfl ?_
  refine V_if_lt (pc := 1) dX10_isLetter_1 (tgt := 14) rfl (fun h1 => ?_) (fun h1 => ?_)
  · skip
    refine V_iconst (pc := 14) dX10_isLetter_14 (by unfold I32; omega) ?_
    refine V_reti (pc := 15) dX10_isLetter_15 (show _ = (0 : Int) ∨ _ = (1 : Int) from by first | exact Or.inl rfl | exact Or.inr rfl | omega) ?_
    exact ⟨by omega, rfl⟩
  · skip
    refine V_ld (pc := 4) dX10_isLetter_4 (v := vi i) rfl rfl ?_
    refine V_bipush (pc := 5) dX10_isLetter_5 (by unfold I32; omega) (by decide) ?_
    refine V_icmp_ge (pc := 7) dX10_isLetter_7 (tgt := 14) rfl (fun h7 => ?_) (fun h7 => ?_)
    · skip
      refine V_iconst (pc := 14) dX10_isLetter_14 (by unfold I32; omega) ?_
      refine V_reti (pc := 15) dX10_isLetter_15 (show _ = (0 : Int) ∨ _ = (1 : Int) from by first | exact Or.inl rfl | exact Or.inr rfl | omega) ?_
      exact ⟨by omega, rfl⟩
    · skip
      refine V_iconst (pc := 10) dX10_isLetter_10 (by unfold I32; omega) ?_
      refine V_goto (pc := 11) dX10_isLetter_11 (tgt := 15) rfl ?_
      refine V_reti (pc := 15) dX10_isLetter_15 (show _ = (0 : Int) ∨ _ = (1 : Int) from by first | exact Or.inl rfl | exact Or.inr rfl | omega) ?_
      exact ⟨by omega, rfl⟩

set_option maxHeartbeats 4000000 in
theorem j_max_i  (m : Mem) (a : Int) (b : Int)    : Ct μJ9_max_7cf53 0 [vi a, vi b] m (ri fun x_ m' => (x_ = if a < b then b else a) ∧ m = m') := by
  refine Ct_of_VF rfl (by decide +kernel) rfl (Nat.le_of_ble_eq_true rfl) ?_
  show V μJ9_max_7cf53 0 m _ 0 [(0, vi a), (1, vi b)] [] m
  refine V_rg (k := 0) (x := a) rfl fun r_a => ?_
  refine V_rg (k := 1) (x := b) rfl fun r_b => ?_
  refine V_ld (pc := 0) dJ9_max_7cf53_0 (v := vi a) rfl rfl ?_
  refine V_ld (pc := 1) dJ9_max_7cf53_1 (v := vi b) rfl rfl ?_
  refine V_icmp_lt (pc := 2) dJ9_max_7cf53_2 (tgt := 9) rfl (fun h2 => ?_) (fun h2 => ?_)
  · skip
    refine V_ld (pc := 9) dJ9_max_7cf53_9 (v := vi b) rfl rfl ?_
    refine V_reti (pc := 10) dJ9_max_7cf53_10 trivial ?_
    exact ⟨by omega, rfl⟩
  · skip
    refine V_ld (pc := 5) dJ9_max_7cf53_5 (v := vi a) rfl rfl ?_
    refine V_goto (pc := 6) dJ9_max_7cf53_6 (tgt := 10) rfl ?_
    refine V_reti (pc := 10) dJ9_max_7cf53_10 trivial ?_
    exact ⟨by omega, rfl⟩

set_option maxHeartbeats 4000000 in
theorem j_min_i  (m : Mem) (a : Int) (b : Int)    : Ct μJ9_min_7cf53 0 [vi a, vi b] m (ri fun x_ m' => (x_ = if b < a then b else a) ∧ m = m') := by
  refine Ct_of_VF rfl (by decide +kernel) rfl (Nat.le_of_ble_eq_true rfl) ?_
  show V μJ9_min_7cf53 0 m _ 0 [(0, vi a), (1, vi b)] [] m
  refine V_rg (k := 0) (x := a) rfl fun r_a => ?_
  refine V_rg (k := 1) (x := b) rfl fun r_b => ?_
  refine V_ld (pc := 0) dJ9_min_7cf53_0 (v := vi a) rfl rfl ?_
  refine V_ld (pc := 1) dJ9_min_7cf53_1 (v := vi b) rfl rfl ?_
  refine V_icmp_gt (pc := 2) dJ9_min_7cf53_2 (tgt := 9) rfl (fun h2 => ?_) (fun h2 => ?_)
  · skip
    refine V_ld (pc := 9) dJ9_min_7cf53_9 (v := vi b) rfl rfl ?_
    refine V_reti (pc := 10) dJ9_min_7cf53_10 trivial ?_
    exact ⟨by omega, rfl⟩
  · skip
    refine V_ld (pc := 5) dJ9_min_7cf53_5 (v := vi a) rfl rfl ?_
    refine V_goto (pc := 6) dJ9_min_7cf53_6 (tgt := 10) rfl ?_
    refine V_reti (pc := 10) dJ9_min_7cf53_10 trivial ?_
    exact ⟨by omega, rfl⟩

