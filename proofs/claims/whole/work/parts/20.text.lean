/-! THE TEXT, the table: leaves of the class -/
set_option maxHeartbeats 4000000 in
theorem c_Text_at  (m : Mem) (t : Nat) (i : Int) (b : Nat)  (T_t : mT m t = (9, 2)) (R_t_0 : mR m t 0 = some b) (T_b : mT m b = (20, 120)) : Ct μX9_at 0 [vr t, vi i] m (ri fun x_ m' => (x_ = if 0 ≤ i ∧ i < mI m t 1 ∧ i < 120 then mI m b i.toNat else -1) ∧ m' = m) := by
  refine Ct_of_V rfl (by decide) rfl (Nat.le_of_ble_eq_true rfl) ?_
  show V μX9_at 0 m _ 0 [(0, vr t), (1, vi i)] [] m
  refine V_rg (k := 1) (x := i) rfl fun r_i => ?_
  refine V_ld (pc := 0) dX9_at_0 (v := vi i) rfl rfl ?_
  refine V_if_lt (pc := 1) dX9_at_1 (tgt := 18) rfl (fun h1 => ?_) (fun h1 => ?_)
  · skip
    refine V_iconst (pc := 18) dX9_at_18 (by unfold I32; omega) ?_
    refine V_goto (pc := 19) dX9_at_19 (tgt := 28) rfl ?_
    refine V_reti (pc := 28) dX9_at_28 trivial ?_
    exact ⟨by omega, rfl⟩
  · skip
    refine V_ld (pc := 4) dX9_at_4 (v := vi i) rfl rfl ?_
    refine V_ld (pc := 5) dX9_at_5 (v := vr t) rfl rfl ?_
    refine V_getIv (pc := 6) dX9_at_6 (v := mI m t 1) fw_RX9_15 rfl T_t rfl (fun g6 => ?_)
    refine V_icmp_ge (pc := 9) dX9_at_9 (tgt := 18) rfl (fun h9 => ?_) (fun h9 => ?_)
    · skip
      refine V_iconst (pc := 18) dX9_at_18 (by unfold I32; omega) ?_
      refine V_goto (pc := 19) dX9_at_19 (tgt := 28) rfl ?_
      refine V_reti (pc := 28) dX9_at_28 trivial ?_
      exact ⟨by omega, rfl⟩
    · skip
      refine V_ld (pc := 12) dX9_at_12 (v := vi i) rfl rfl ?_
      refine V_bipush (pc := 13) dX9_at_13 (by unfold I32; omega) (by decide) ?_
      refine V_icmp_lt (pc := 15) dX9_at_15 (tgt := 22) rfl (fun h15 => ?_) (fun h15 => ?_)
      · skip
        refine V_ld (pc := 22) dX9_at_22 (v := vr t) rfl rfl ?_
        refine V_getRv (pc := 23) dX9_at_23 (o' := b) fw_RX9_9 rfl T_t R_t_0 ?_
        refine V_ld (pc := 26) dX9_at_26 (v := vi i) rfl rfl ?_
        refine V_ialdv (pc := 27) dX9_at_27 (v := mI m b i.toNat) T_b (by omega) rfl (fun g27 => ?_)
        refine V_reti (pc := 28) dX9_at_28 trivial ?_
        exact ⟨by omega, rfl⟩
      · skip
        refine V_iconst (pc := 18) dX9_at_18 (by unfold I32; omega) ?_
        refine V_goto (pc := 19) dX9_at_19 (tgt := 28) rfl ?_
        refine V_reti (pc := 28) dX9_at_28 trivial ?_
        exact ⟨by omega, rfl⟩
