/-! lists -/
set_option maxHeartbeats 4000000 in
theorem c_list  (m : Mem) (l : Int) (n : Int)   (hL : Lay (mT m) (mR m)) : Ct μX10_list 2 [vr 0, vi l, vi n] m (ri fun x_ m' => ((¬ (0 ≤ l ∧ l ≤ 3)) ∧ (x_ = -1) ∧ m = m') ∨ (((0 ≤ l ∧ l ≤ 3) ∧ 40 < n) ∧ (x_ = -2) ∧ m = m') ∨ (((0 ≤ l ∧ l ≤ 3) ∧ n < 0) ∧ (x_ = -14) ∧ m = m') ∨ (((0 ≤ l ∧ l ≤ 3) ∧ (0 ≤ n ∧ n ≤ 40)) ∧ (x_ = 1) ∧ setI (fillR m (23 + 2 * l.toNat) 0 40 0) (22 + 2 * l.toNat) 1 n = m')) := by
  refine Ct_of_V rfl (by decide) rfl (Nat.le_of_ble_eq_true rfl) ?_
  show V μX10_list 2 m _ 0 [(0, vr 0), (1, vi l), (2, vi n)] [] m
  refine V_rg (k := 1) (x := l) rfl fun r_l => ?_
  refine V_rg (k := 2) (x := n) rfl fun r_n => ?_
  refine V_ld (pc := 0) dX10_list_0 (v := vr 0) rfl rfl ?_
  refine V_ld (pc := 1) dX10_list_1 (v := vi l) rfl rfl ?_
  refine V_callV (pc := 2) dX10_list_2 (F' := 0) (As := [vi l]) (st := []) cw_RX10_220 rfl rfl hL.t0 (by decide) (Nat.le_of_ble_eq_true rfl) (by omega) (c_listAt  m l   (by first | assumption | omega)) ?_
  rintro _ _ ⟨x2, rfl, (⟨hc2, rfl, rfl⟩ | ⟨hc2, rfl, rfl⟩)⟩ ok2 le2
  · skip
    refine V_st (pc := 5) dX10_list_5 (ls' := [(3, vq none), (0, vr 0), (1, vi l), (2, vi n)]) rfl (Nat.le_of_ble_eq_true rfl) rfl ?_
    refine V_ld (pc := 6) dX10_list_6 (v := vq none) rfl rfl ?_
    refine V_ifnonnull (pc := 7) dX10_list_7 (tgt := 12) rfl (fun _ h_ => by cases h_) (fun _ => ?_)
    refine V_iconst (pc := 10) dX10_list_10 (by unfold I32; omega) ?_
    refine V_reti (pc := 11) dX10_list_11 trivial ?_
    first | exact (Or.inl ⟨by omega, by omega, rfl⟩) | exact (Or.inr (Or.inl ⟨by omega, by omega, rfl⟩)) | exact (Or.inr (Or.inr (Or.inl ⟨by omega, by omega, rfl⟩))) | exact (Or.inr (Or.inr (Or.inr ⟨by omega, by omega, rfl⟩)))
  · skip
    refine V_st (pc := 5) dX10_list_5 (ls' := [(3, vr (22 + 2 * l.toNat)), (0, vr 0), (1, vi l), (2, vi n)]) rfl (Nat.le_of_ble_eq_true rfl) rfl ?_
    refine V_ld (pc := 6) dX10_list_6 (v := vr (22 + 2 * l.toNat)) rfl rfl ?_
    refine V_ifnonnull (pc := 7) dX10_list_7 (tgt := 12) rfl (fun _ _ => ?_) (fun h_ => by cases h_)
    refine V_ld (pc := 12) dX10_list_12 (v := vi n) rfl rfl ?_
    refine V_bipush (pc := 13) dX10_list_13 (by unfold I32; omega) (by decide) ?_
    refine V_icmp_le (pc := 15) dX10_list_15 (tgt := 21) rfl (fun h15 => ?_) (fun h15 => ?_)
    · skip
      refine V_ld (pc := 21) dX10_list_21 (v := vi n) rfl rfl ?_
      refine V_if_ge (pc := 22) dX10_list_22 (tgt := 28) rfl (fun h22 => ?_) (fun h22 => ?_)
      · skip
        refine V_ld (pc := 28) dX10_list_28 (v := vr (22 + 2 * l.toNat)) rfl rfl ?_
        refine V_ld (pc := 29) dX10_list_29 (v := vi n) rfl rfl ?_
        refine V_callV (pc := 30) dX10_list_30 (F' := 1) (As := [vi n]) (st := []) cw_RX10_224 rfl rfl (hL.list (l := l) (by omega)).1 (by decide) (Nat.le_of_ble_eq_true rfl) (by omega) (c_Longs_become  m (22 + 2 * l.toNat) n (23 + 2 * l.toNat)  (hL.list (l := l) (by omega)).1 (hL.list (l := l) (by omega)).2.2.2 (hL.list (l := l) (by omega)).2.1) ?_
        rintro _ _ ⟨rfl, (⟨hc30, rfl⟩)⟩ ok30 le30
        · skip
          refine V_iconst (pc := 33) dX10_list_33 (by unfold I32; omega) ?_
          refine V_reti (pc := 34) dX10_list_34 trivial ?_
          first | exact (Or.inl ⟨by omega, by omega, rfl⟩) | exact (Or.inr (Or.inl ⟨by omega, by omega, rfl⟩)) | exact (Or.inr (Or.inr (Or.inl ⟨by omega, by omega, rfl⟩))) | exact (Or.inr (Or.inr (Or.inr ⟨by omega, by omega, rfl⟩)))
      · skip
        refine V_bipush (pc := 25) dX10_list_25 (by unfold I32; omega) (by decide) ?_
        refine V_reti (pc := 27) dX10_list_27 trivial ?_
        first | exact (Or.inl ⟨by omega, by omega, rfl⟩) | exact (Or.inr (Or.inl ⟨by omega, by omega, rfl⟩)) | exact (Or.inr (Or.inr (Or.inl ⟨by omega, by omega, rfl⟩))) | exact (Or.inr (Or.inr (Or.inr ⟨by omega, by omega, rfl⟩)))
    · skip
      refine V_bipush (pc := 18) dX10_list_18 (by unfold I32; omega) (by decide) ?_
      refine V_reti (pc := 20) dX10_list_20 trivial ?_
      first | exact (Or.inl ⟨by omega, by omega, rfl⟩) | exact (Or.inr (Or.inl ⟨by omega, by omega, rfl⟩)) | exact (Or.inr (Or.inr (Or.inl ⟨by omega, by omega, rfl⟩))) | exact (Or.inr (Or.inr (Or.inr ⟨by omega, by omega, rfl⟩)))

set_option maxHeartbeats 4000000 in
theorem c_put  (m : Mem) (l : Int) (i : Int) (v : Int)   (hL : Lay (mT m) (mR m)) : Ct μX10_put 3 [vr 0, vi l, vi i, vl v] m (ri fun x_ m' => ((¬ (0 ≤ l ∧ l ≤ 3)) ∧ (x_ = -1) ∧ m = m') ∨ (((0 ≤ l ∧ l ≤ 3) ∧ mI m (22 + 2 * l.toNat) 1 < 0) ∧ (x_ = -11) ∧ m = m') ∨ (((0 ≤ l ∧ l ≤ 3) ∧ 0 ≤ mI m (22 + 2 * l.toNat) 1 ∧ ¬ (0 ≤ i ∧ i < mI m (22 + 2 * l.toNat) 1 ∧ i < 40)) ∧ (x_ = -13) ∧ m = m') ∨ (((0 ≤ l ∧ l ≤ 3) ∧ 0 ≤ i ∧ i < mI m (22 + 2 * l.toNat) 1 ∧ i < 40) ∧ (x_ = 1) ∧ setI m (23 + 2 * l.toNat) i.toNat v = m')) := by
  refine Ct_of_V rfl (by decide) rfl (Nat.le_of_ble_eq_true rfl) ?_
  show V μX10_put 3 m _ 0 [(0, vr 0), (1, vi l), (2, vi i), (3, vl v)] [] m
  refine V_rg (k := 1) (x := l) rfl fun r_l => ?_
  refine V_rg (k := 2) (x := i) rfl fun r_i => ?_
  refine V_rgl (k := 3) (x := v) rfl fun r_v => ?_
  refine V_ld (pc := 0) dX10_put_0 (v := vr 0) rfl rfl ?_
  refine V_ld (pc := 1) dX10_put_1 (v := vi l) rfl rfl ?_
  refine V_callV (pc := 2) dX10_put_2 (F' := 0) (As := [vi l]) (st := []) cw_RX10_220 rfl rfl hL.t0 (by decide) (Nat.le_of_ble_eq_true rfl) (by omega) (c_listAt  m l   (by first | assumption | omega)) ?_
  rintro _ _ ⟨x2, rfl, (⟨hc2, rfl, rfl⟩ | ⟨hc2, rfl, rfl⟩)⟩ ok2 le2
  · skip
    refine V_st (pc := 5) dX10_put_5 (ls' := [(5, vq none), (0, vr 0), (1, vi l), (2, vi i), (3, vl v)]) rfl (Nat.le_of_ble_eq_true rfl) rfl ?_
    refine V_ld (pc := 7) dX10_put_7 (v := vq none) rfl rfl ?_
    refine V_ifnonnull (pc := 9) dX10_put_9 (tgt := 14) rfl (fun _ h_ => by cases h_) (fun _ => ?_)
    refine V_iconst (pc := 12) dX10_put_12 (by unfold I32; omega) ?_
    refine V_reti (pc := 13) dX10_put_13 trivial ?_
    first | exact (Or.inl ⟨by omega, by omega, rfl⟩) | exact (Or.inr (Or.inl ⟨by omega, by omega, rfl⟩)) | exact (Or.inr (Or.inr (Or.inl ⟨by omega, by omega, rfl⟩))) | exact (Or.inr (Or.inr (Or.inr ⟨by omega, by omega, rfl⟩)))
  · skip
    refine V_st (pc := 5) dX10_put_5 (ls' := [(5, vr (22 + 2 * l.toNat)), (0, vr 0), (1, vi l), (2, vi i), (3, vl v)]) rfl (Nat.le_of_ble_eq_true rfl) rfl ?_
    refine V_ld (pc := 7) dX10_put_7 (v := vr (22 + 2 * l.toNat)) rfl rfl ?_
    refine V_ifnonnull (pc := 9) dX10_put_9 (tgt := 14) rfl (fun _ _ => ?_) (fun h_ => by cases h_)
    refine V_ld (pc := 14) dX10_put_14 (v := vr (22 + 2 * l.toNat)) rfl rfl ?_
    refine V_getIv (pc := 16) dX10_put_16 (v := mI m (22 + 2 * l.toNat) 1) fw_RX10_228 rfl (hL.list (l := l) (by omega)).1 rfl (fun g16 => ?_)
    refine V_if_ge (pc := 19) dX10_put_19 (tgt := 25) rfl (fun h19 => ?_) (fun h19 => ?_)
    · skip
      refine V_ld (pc := 25) dX10_put_25 (v := vr (22 + 2 * l.toNat)) rfl rfl ?_
      refine V_ld (pc := 27) dX10_put_27 (v := vi i) rfl rfl ?_
      refine V_i2l (pc := 28) dX10_put_28 ?_
      refine V_ld (pc := 29) dX10_put_29 (v := vl v) rfl rfl ?_
      refine V_callV (pc := 30) dX10_put_30 (F' := 1) (As := [vl i, vl v]) (st := []) cw_RX10_229 rfl rfl (hL.list (l := l) (by omega)).1 (by decide) (Nat.le_of_ble_eq_true rfl) (by omega) (c_Longs_write  m (22 + 2 * l.toNat) i v (23 + 2 * l.toNat)  (hL.list (l := l) (by omega)).1 (hL.list (l := l) (by omega)).2.2.2 (hL.list (l := l) (by omega)).2.1) ?_
      rintro _ _ ⟨x30, rfl, (⟨hc30, hx30, rfl⟩ | ⟨hc30, hx30, rfl⟩)⟩ ok30 le30
      · skip
        refine V_if_eq (pc := 33) dX10_put_33 (tgt := 40) rfl (fun h33 => ?_) (fun h33 => ?_)
        · skip
          refine V_bipush (pc := 40) dX10_put_40 (by unfold I32; omega) (by decide) ?_
          refine V_reti (pc := 42) dX10_put_42 trivial ?_
          first | exact (Or.inl ⟨by omega, by omega, rfl⟩) | exact (Or.inr (Or.inl ⟨by omega, by omega, rfl⟩)) | exact (Or.inr (Or.inr (Or.inl ⟨by omega, by omega, rfl⟩))) | exact (Or.inr (Or.inr (Or.inr ⟨by omega, by omega, rfl⟩)))
        · skip
          refine V_iconst (pc := 36) dX10_put_36 (by unfold I32; omega) ?_
          refine V_goto (pc := 37) dX10_put_37 (tgt := 42) rfl ?_
          refine V_reti (pc := 42) dX10_put_42 trivial ?_
          first | exact (Or.inl ⟨by omega, by omega, rfl⟩) | exact (Or.inr (Or.inl ⟨by omega, by omega, rfl⟩)) | exact (Or.inr (Or.inr (Or.inl ⟨by omega, by omega, rfl⟩))) | exact (Or.inr (Or.inr (Or.inr ⟨by omega, by omega, rfl⟩)))
      · skip
        refine V_if_eq (pc := 33) dX10_put_33 (tgt := 40) rfl (fun h33 => ?_) (fun h33 => ?_)
        · skip
          refine V_bipush (pc := 40) dX10_put_40 (by unfold I32; omega) (by decide) ?_
          refine V_reti (pc := 42) dX10_put_42 trivial ?_
          first | exact (Or.inl ⟨by omega, by omega, rfl⟩) | exact (Or.inr (Or.inl ⟨by omega, by omega, rfl⟩)) | exact (Or.inr (Or.inr (Or.inl ⟨by omega, by omega, rfl⟩))) | exact (Or.inr (Or.inr (Or.inr ⟨by omega, by omega, rfl⟩)))
        · skip
          refine V_iconst (pc := 36) dX10_put_36 (by unfold I32; omega) ?_
          refine V_goto (pc := 37) dX10_put_37 (tgt := 42) rfl ?_
          refine V_reti (pc := 42) dX10_put_42 trivial ?_
          first | exact (Or.inl ⟨by omega, by omega, rfl⟩) | exact (Or.inr (Or.inl ⟨by omega, by omega, rfl⟩)) | exact (Or.inr (Or.inr (Or.inl ⟨by omega, by omega, rfl⟩))) | exact (Or.inr (Or.inr (Or.inr ⟨by omega, by omega, rfl⟩)))
    · skip
      refine V_bipush (pc := 22) dX10_put_22 (by unfold I32; omega) (by decide) ?_
      refine V_reti (pc := 24) dX10_put_24 trivial ?_
      first | exact (Or.inl ⟨by omega, by omega, rfl⟩) | exact (Or.inr (Or.inl ⟨by omega, by omega, rfl⟩)) | exact (Or.inr (Or.inr (Or.inl ⟨by omega, by omega, rfl⟩))) | exact (Or.inr (Or.inr (Or.inr ⟨by omega, by omega, rfl⟩)))

set_option maxHeartbeats 4000000 in
theorem c_get  (m : Mem) (l : Int) (i : Int)   (hL : Lay (mT m) (mR m)) : Ct μX10_get 3 [vr 0, vi l, vi i] m (rl fun x_ m' => (x_ = if (0 ≤ l ∧ l ≤ 3) ∧ 0 ≤ i ∧ i < mI m (22 + 2 * l.toNat) 1 ∧ i < 40 then mI m (23 + 2 * l.toNat) i.toNat else -9223372036854775808) ∧ m = m') := by
  refine Ct_of_V rfl (by decide) rfl (Nat.le_of_ble_eq_true rfl) ?_
  show V μX10_get 3 m _ 0 [(0, vr 0), (1, vi l), (2, vi i)] [] m
  refine V_rg (k := 1) (x := l) rfl fun r_l => ?_
  refine V_rg (k := 2) (x := i) rfl fun r_i => ?_
  refine V_ld (pc := 0) dX10_get_0 (v := vr 0) rfl rfl ?_
  refine V_ld (pc := 1) dX10_get_1 (v := vi l) rfl rfl ?_
  refine V_callV (pc := 2) dX10_get_2 (F' := 0) (As := [vi l]) (st := []) cw_RX10_220 rfl rfl hL.t0 (by decide) (Nat.le_of_ble_eq_true rfl) (by omega) (c_listAt  m l   (by first | assumption | omega)) ?_
  rintro _ _ ⟨x2, rfl, (⟨hc2, rfl, rfl⟩ | ⟨hc2, rfl, rfl⟩)⟩ ok2 le2
  · skip
    refine V_st (pc := 5) dX10_get_5 (ls' := [(3, vq none), (0, vr 0), (1, vi l), (2, vi i)]) rfl (Nat.le_of_ble_eq_true rfl) rfl ?_
    refine V_ld (pc := 6) dX10_get_6 (v := vq none) rfl rfl ?_
    refine V_ifnonnull (pc := 7) dX10_get_7 (tgt := 16) rfl (fun _ h_ => by cases h_) (fun _ => ?_)
    refine V_ldc2 (pc := 10) dX10_get_10 (x := (-9223372036854775808)) kl_RX10_205 (by unfold I64; omega) rfl ?_
    refine V_goto (pc := 13) dX10_get_13 (tgt := 22) rfl ?_
    refine V_retl (pc := 22) dX10_get_22 trivial ?_
    exact ⟨by omega, rfl⟩
  · skip
    refine V_st (pc := 5) dX10_get_5 (ls' := [(3, vr (22 + 2 * l.toNat)), (0, vr 0), (1, vi l), (2, vi i)]) rfl (Nat.le_of_ble_eq_true rfl) rfl ?_
    refine V_ld (pc := 6) dX10_get_6 (v := vr (22 + 2 * l.toNat)) rfl rfl ?_
    refine V_ifnonnull (pc := 7) dX10_get_7 (tgt := 16) rfl (fun _ _ => ?_) (fun h_ => by cases h_)
    refine V_ld (pc := 16) dX10_get_16 (v := vr (22 + 2 * l.toNat)) rfl rfl ?_
    refine V_ld (pc := 17) dX10_get_17 (v := vi i) rfl rfl ?_
    refine V_i2l (pc := 18) dX10_get_18 ?_
    refine V_callV (pc := 19) dX10_get_19 (F' := 1) (As := [vl i]) (st := []) cw_RX10_232 rfl rfl (hL.list (l := l) (by omega)).1 (by decide) (Nat.le_of_ble_eq_true rfl) (by omega) (c_Longs_at  m (22 + 2 * l.toNat) i (23 + 2 * l.toNat)  (hL.list (l := l) (by omega)).1 (hL.list (l := l) (by omega)).2.2.2 (hL.list (l := l) (by omega)).2.1) ?_
    rintro _ _ ⟨x19, rfl, hx19, rfl⟩ ok19 le19
    refine V_retl (pc := 22) dX10_get_22 trivial ?_
    exact ⟨by omega, rfl⟩

set_option maxHeartbeats 4000000 in
theorem r_isList  (m : Mem) (l : Int)    : Ct μX11_isList 1 [vi l] m (ri fun x_ m' => (x_ = if 0 ≤ l ∧ l ≤ 3 then 1 else 0) ∧ m = m') := by
  refine Ct_of_V rfl (by decide) rfl (Nat.le_of_ble_eq_true rfl) ?_
  show V μX11_isList 1 m _ 0 [(0, vi l)] [] m
  refine V_rg (k := 0) (x := l) rfl fun r_l => ?_
  refine V_ld (pc := 0) dX11_isList_0 (v := vi l) rfl rfl ?_
  refine V_i2l (pc := 1) dX11_isList_1 ?_
  refine V_lconst (pc := 2) dX11_isList_2 (x := 0) (by unfold I64; omega) (by decide) ?_
  refine V_ldc2 (pc := 3) dX11_isList_3 (x := 3) kl_RX11_361 (by unfold I64; omega) rfl ?_
  refine V_callS (pc := 6) dX11_isList_6 (F' := 0) (As := [vl l, vl 0, vl 3]) (st := []) cw_RX11_101 rfl rfl (Nat.le_of_ble_eq_true rfl) (by omega) (r_isIn  m l 0 3   ) ?_
  rintro _ _ ⟨x6, rfl, hx6, rfl⟩ ok6 le6
  refine V_reti (pc := 9) dX11_isList_9 (show _ = (0 : Int) ∨ _ = (1 : Int) from by first | exact Or.inl rfl | exact Or.inr rfl | omega) ?_
  exact ⟨by omega, rfl⟩

set_option maxHeartbeats 4000000 in
theorem L_rlist {F : Nat} {m0 m : Mem} {post : Option AV → Mem → Prop} {l n : Int} (hL : Lay (mT m) (mR m)) (hl : 0 ≤ l ∧ l ≤ 3) (kx : V μX11_list F m0 post 58 [(3, vi ((40 : Nat) : Int)), (0, vr 30), (1, vi l), (2, vi n)] [] (fillR m 57 (40 * l).toNat 40 0)) : ∀ (d i : Nat), d + i = 40 → V μX11_list F m0 post 34 [(3, vi ((i : Nat) : Int)), (0, vr 30), (1, vi l), (2, vi n)] [] (fillR m 57 (40 * l).toNat i 0) := by
  intro d
  induction d with
  | zero =>
    intro i hi
    obtain rfl : i = 40 := by omega
    refine V_ld (pc := 34) dX11_list_34 (v := vi ((40 : Nat) : Int)) rfl rfl ?_
    refine V_bipush (pc := 35) dX11_list_35 (by unfold I32; omega) (by decide) ?_
    refine V_icmp_ge (pc := 37) dX11_list_37 (tgt := 58) rfl (fun h37 => ?_) (fun h37 => ?_)
    · skip
      first | exact kx | (refine V_ls (ls' := [(3, vi ((40 : Nat) : Int)), (0, vr 30), (1, vi l), (2, vi n)]) (by intro q_ h_; simp only [List.mem_cons, List.not_mem_nil, or_false] at h_ ⊢; rcases h_ with rfl | rfl | rfl | rfl <;> simp) kx) | (exfalso; omega)
    · skip
      refine V_ld (pc := 40) dX11_list_40 (v := vr 30) rfl rfl ?_
      refine V_getRv (pc := 41) dX11_list_41 (o' := 57) fw_RX11_90 rfl hL.t30 hL.r30_51 ?_
      refine V_bipush (pc := 44) dX11_list_44 (by unfold I32; omega) (by decide) ?_
      refine V_ld (pc := 46) dX11_list_46 (v := vi l) rfl rfl ?_
      refine V_imul (pc := 47) dX11_list_47 (by unfold I32 at *; omega) ?_
      refine V_ld (pc := 48) dX11_list_48 (v := vi ((40 : Nat) : Int)) rfl rfl ?_
      refine V_iadd (pc := 49) dX11_list_49 (by unfold I32 at *; omega) ?_
      refine V_lconst (pc := 50) dX11_list_50 (x := 0) (by unfold I64; omega) (by decide) ?_
      refine V_last (pc := 51) dX11_list_51 hL.t57 (by omega) ?_
      refine V_iinc (pc := 52) dX11_list_52 (x := ((40 : Nat) : Int)) (ls' := [(3, vi (((40 : Nat) : Int) + 1)), (0, vr 30), (1, vi l), (2, vi n)]) rfl (by unfold I32 at *; omega) (Nat.le_of_ble_eq_true rfl) rfl ?_
      refine V_goto (pc := 55) dX11_list_55 (tgt := 34) rfl ?_
      exfalso; omega
  | succ d ih =>
    intro i hi
    refine V_ld (pc := 34) dX11_list_34 (v := vi ((i : Nat) : Int)) rfl rfl ?_
    refine V_bipush (pc := 35) dX11_list_35 (by unfold I32; omega) (by decide) ?_
    refine V_icmp_ge (pc := 37) dX11_list_37 (tgt := 58) rfl (fun h37 => ?_) (fun h37 => ?_)
    · skip
      exfalso; omega
    · skip
      refine V_ld (pc := 40) dX11_list_40 (v := vr 30) rfl rfl ?_
      refine V_getRv (pc := 41) dX11_list_41 (o' := 57) fw_RX11_90 rfl hL.t30 hL.r30_51 ?_
      refine V_bipush (pc := 44) dX11_list_44 (by unfold I32; omega) (by decide) ?_
      refine V_ld (pc := 46) dX11_list_46 (v := vi l) rfl rfl ?_
      refine V_imul (pc := 47) dX11_list_47 (by unfold I32 at *; omega) ?_
      refine V_ld (pc := 48) dX11_list_48 (v := vi ((i : Nat) : Int)) rfl rfl ?_
      refine V_iadd (pc := 49) dX11_list_49 (by unfold I32 at *; omega) ?_
      refine V_lconst (pc := 50) dX11_list_50 (x := 0) (by unfold I64; omega) (by decide) ?_
      refine V_last (pc := 51) dX11_list_51 hL.t57 (by omega) ?_
      refine V_iinc (pc := 52) dX11_list_52 (x := ((i : Nat) : Int)) (ls' := [(3, vi (((i : Nat) : Int) + 1)), (0, vr 30), (1, vi l), (2, vi n)]) rfl (by unfold I32 at *; omega) (Nat.le_of_ble_eq_true rfl) rfl ?_
      refine V_goto (pc := 55) dX11_list_55 (tgt := 34) rfl ?_
      refine V_mem (fillR_s (by omega)) ?_
      exact ih (i + 1) (by omega)

set_option maxHeartbeats 4000000 in
theorem r_list  (m : Mem) (l : Int) (n : Int)   (hL : Lay (mT m) (mR m)) : Ct μX11_list 2 [vr 30, vi l, vi n] m (ri fun x_ m' => ((¬ (0 ≤ l ∧ l ≤ 3)) ∧ (x_ = -1) ∧ m = m') ∨ (((0 ≤ l ∧ l ≤ 3) ∧ 40 < n) ∧ (x_ = -2) ∧ m = m') ∨ (((0 ≤ l ∧ l ≤ 3) ∧ n < 0) ∧ (x_ = -14) ∧ m = m') ∨ (((0 ≤ l ∧ l ≤ 3) ∧ (0 ≤ n ∧ n ≤ 40)) ∧ (x_ = 1) ∧ fillR (setI m 56 l.toNat n) 57 (40 * l).toNat 40 0 = m')) := by
  refine Ct_of_V rfl (by decide) rfl (Nat.le_of_ble_eq_true rfl) ?_
  show V μX11_list 2 m _ 0 [(0, vr 30), (1, vi l), (2, vi n)] [] m
  refine V_rg (k := 1) (x := l) rfl fun r_l => ?_
  refine V_rg (k := 2) (x := n) rfl fun r_n => ?_
  refine V_ld (pc := 0) dX11_list_0 (v := vi l) rfl rfl ?_
  refine V_callS (pc := 1) dX11_list_1 (F' := 1) (As := [vi l]) (st := []) cw_RX11_394 rfl rfl (Nat.le_of_ble_eq_true rfl) (by omega) (r_isList  m l   ) ?_
  rintro _ _ ⟨x1, rfl, hx1, rfl⟩ ok1 le1
  refine V_if_ne (pc := 4) dX11_list_4 (tgt := 9) rfl (fun h4 => ?_) (fun h4 => ?_)
  · skip
    refine V_ld (pc := 9) dX11_list_9 (v := vi n) rfl rfl ?_
    refine V_bipush (pc := 10) dX11_list_10 (by unfold I32; omega) (by decide) ?_
    refine V_icmp_le (pc := 12) dX11_list_12 (tgt := 18) rfl (fun h12 => ?_) (fun h12 => ?_)
    · skip
      refine V_ld (pc := 18) dX11_list_18 (v := vi n) rfl rfl ?_
      refine V_if_ge (pc := 19) dX11_list_19 (tgt := 25) rfl (fun h19 => ?_) (fun h19 => ?_)
      · skip
        refine V_ld (pc := 25) dX11_list_25 (v := vr 30) rfl rfl ?_
        refine V_getRv (pc := 26) dX11_list_26 (o' := 56) fw_RX11_87 rfl hL.t30 hL.r30_50 ?_
        refine V_ld (pc := 29) dX11_list_29 (v := vi l) rfl rfl ?_
        refine V_ld (pc := 30) dX11_list_30 (v := vi n) rfl rfl ?_
        refine V_iast (pc := 31) dX11_list_31 hL.t56 (by omega) ?_
        refine V_iconst (pc := 32) dX11_list_32 (by unfold I32; omega) ?_
        refine V_st (pc := 33) dX11_list_33 (ls' := [(3, vi 0), (0, vr 30), (1, vi l), (2, vi n)]) rfl (Nat.le_of_ble_eq_true rfl) rfl ?_
        refine V_ls (ls' := [(3, vi ((0 : Nat) : Int)), (0, vr 30), (1, vi l), (2, vi n)]) (by intro q_ h_; simp only [List.mem_cons, List.not_mem_nil, or_false] at h_ ⊢; rcases h_ with rfl | rfl | rfl | rfl <;> simp) ?_
        refine V_mem (fillR_0 (a := 57) (lo := (40 * l).toNat) (v := 0)).symm ?_
        refine L_rlist (m := setI m 56 l.toNat n) (l := l) (n := n) hL (by omega) ?_ 40 0 (by omega)
        refine V_iconst (pc := 58) dX11_list_58 (by unfold I32; omega) ?_
        refine V_reti (pc := 59) dX11_list_59 trivial ?_
        first | exact (Or.inl ⟨by omega, by omega, rfl⟩) | exact (Or.inr (Or.inl ⟨by omega, by omega, rfl⟩)) | exact (Or.inr (Or.inr (Or.inl ⟨by omega, by omega, rfl⟩))) | exact (Or.inr (Or.inr (Or.inr ⟨by omega, by omega, rfl⟩)))
      · skip
        refine V_bipush (pc := 22) dX11_list_22 (by unfold I32; omega) (by decide) ?_
        refine V_reti (pc := 24) dX11_list_24 trivial ?_
        first | exact (Or.inl ⟨by omega, by omega, rfl⟩) | exact (Or.inr (Or.inl ⟨by omega, by omega, rfl⟩)) | exact (Or.inr (Or.inr (Or.inl ⟨by omega, by omega, rfl⟩))) | exact (Or.inr (Or.inr (Or.inr ⟨by omega, by omega, rfl⟩)))
    · skip
      refine V_bipush (pc := 15) dX11_list_15 (by unfold I32; omega) (by decide) ?_
      refine V_reti (pc := 17) dX11_list_17 trivial ?_
      first | exact (Or.inl ⟨by omega, by omega, rfl⟩) | exact (Or.inr (Or.inl ⟨by omega, by omega, rfl⟩)) | exact (Or.inr (Or.inr (Or.inl ⟨by omega, by omega, rfl⟩))) | exact (Or.inr (Or.inr (Or.inr ⟨by omega, by omega, rfl⟩)))
  · skip
    refine V_iconst (pc := 7) dX11_list_7 (by unfold I32; omega) ?_
    refine V_reti (pc := 8) dX11_list_8 trivial ?_
    first | exact (Or.inl ⟨by omega, by omega, rfl⟩) | exact (Or.inr (Or.inl ⟨by omega, by omega, rfl⟩)) | exact (Or.inr (Or.inr (Or.inl ⟨by omega, by omega, rfl⟩))) | exact (Or.inr (Or.inr (Or.inr ⟨by omega, by omega, rfl⟩)))

set_option maxHeartbeats 4000000 in
theorem r_put  (m : Mem) (l : Int) (i : Int) (v : Int)   (hL : Lay (mT m) (mR m)) (hz : ∀ l : Int, 0 ≤ l ∧ l ≤ 3 → -1 ≤ mI m 56 l.toNat ∧ mI m 56 l.toNat ≤ 40) : Ct μX11_put 2 [vr 30, vi l, vi i, vl v] m (ri fun x_ m' => ((¬ (0 ≤ l ∧ l ≤ 3)) ∧ (x_ = -1) ∧ m = m') ∨ (((0 ≤ l ∧ l ≤ 3) ∧ mI m 56 l.toNat < 0) ∧ (x_ = -11) ∧ m = m') ∨ (((0 ≤ l ∧ l ≤ 3) ∧ 0 ≤ mI m 56 l.toNat ∧ ¬ (0 ≤ i ∧ i < mI m 56 l.toNat)) ∧ (x_ = -13) ∧ m = m') ∨ (((0 ≤ l ∧ l ≤ 3) ∧ 0 ≤ i ∧ i < mI m 56 l.toNat) ∧ (x_ = 1) ∧ setI m 57 (40 * l + i).toNat v = m')) := by
  refine Ct_of_V rfl (by decide) rfl (Nat.le_of_ble_eq_true rfl) ?_
  show V μX11_put 2 m _ 0 [(0, vr 30), (1, vi l), (2, vi i), (3, vl v)] [] m
  refine V_rg (k := 1) (x := l) rfl fun r_l => ?_
  refine V_rg (k := 2) (x := i) rfl fun r_i => ?_
  refine V_rgl (k := 3) (x := v) rfl fun r_v => ?_
  have hzl := hz l
  refine V_ld (pc := 0) dX11_put_0 (v := vi l) rfl rfl ?_
  refine V_callS (pc := 1) dX11_put_1 (F' := 1) (As := [vi l]) (st := []) cw_RX11_394 rfl rfl (Nat.le_of_ble_eq_true rfl) (by omega) (r_isList  m l   ) ?_
  rintro _ _ ⟨x1, rfl, hx1, rfl⟩ ok1 le1
  refine V_if_ne (pc := 4) dX11_put_4 (tgt := 9) rfl (fun h4 => ?_) (fun h4 => ?_)
  · skip
    refine V_ld (pc := 9) dX11_put_9 (v := vr 30) rfl rfl ?_
    refine V_getRv (pc := 10) dX11_put_10 (o' := 56) fw_RX11_87 rfl hL.t30 hL.r30_50 ?_
    refine V_ld (pc := 13) dX11_put_13 (v := vi l) rfl rfl ?_
    refine V_ialdv (pc := 14) dX11_put_14 (v := mI m 56 l.toNat) hL.t56 (by omega) rfl (fun g14 => ?_)
    refine V_if_ge (pc := 15) dX11_put_15 (tgt := 21) rfl (fun h15 => ?_) (fun h15 => ?_)
    · skip
      refine V_ld (pc := 21) dX11_put_21 (v := vi i) rfl rfl ?_
      refine V_i2l (pc := 22) dX11_put_22 ?_
      refine V_lconst (pc := 23) dX11_put_23 (x := 0) (by unfold I64; omega) (by decide) ?_
      refine V_ld (pc := 24) dX11_put_24 (v := vr 30) rfl rfl ?_
      refine V_getRv (pc := 25) dX11_put_25 (o' := 56) fw_RX11_87 rfl hL.t30 hL.r30_50 ?_
      refine V_ld (pc := 28) dX11_put_28 (v := vi l) rfl rfl ?_
      refine V_ialdv (pc := 29) dX11_put_29 (v := mI m 56 l.toNat) hL.t56 (by omega) rfl (fun g29 => ?_)
      refine V_iconst (pc := 30) dX11_put_30 (by unfold I32; omega) ?_
      refine V_isub (pc := 31) dX11_put_31 (by unfold I32 at *; omega) ?_
      refine V_i2l (pc := 32) dX11_put_32 ?_
      refine V_callS (pc := 33) dX11_put_33 (F' := 0) (As := [vl i, vl 0, vl ((mI m 56 l.toNat) - 1)]) (st := []) cw_RX11_101 rfl rfl (Nat.le_of_ble_eq_true rfl) (by omega) (r_isIn  m i 0 ((mI m 56 l.toNat) - 1)   ) ?_
      rintro _ _ ⟨x33, rfl, hx33, rfl⟩ ok33 le33
      refine V_if_ne (pc := 36) dX11_put_36 (tgt := 42) rfl (fun h36 => ?_) (fun h36 => ?_)
      · skip
        refine V_ld (pc := 42) dX11_put_42 (v := vr 30) rfl rfl ?_
        refine V_getRv (pc := 43) dX11_put_43 (o' := 57) fw_RX11_90 rfl hL.t30 hL.r30_51 ?_
        refine V_bipush (pc := 46) dX11_put_46 (by unfold I32; omega) (by decide) ?_
        refine V_ld (pc := 48) dX11_put_48 (v := vi l) rfl rfl ?_
        refine V_imul (pc := 49) dX11_put_49 (by unfold I32 at *; omega) ?_
        refine V_ld (pc := 50) dX11_put_50 (v := vi i) rfl rfl ?_
        refine V_iadd (pc := 51) dX11_put_51 (by unfold I32 at *; omega) ?_
        refine V_ld (pc := 52) dX11_put_52 (v := vl v) rfl rfl ?_
        refine V_last (pc := 53) dX11_put_53 hL.t57 (by omega) ?_
        refine V_iconst (pc := 54) dX11_put_54 (by unfold I32; omega) ?_
        refine V_reti (pc := 55) dX11_put_55 trivial ?_
        first | exact (Or.inl ⟨by omega, by omega, rfl⟩) | exact (Or.inr (Or.inl ⟨by omega, by omega, rfl⟩)) | exact (Or.inr (Or.inr (Or.inl ⟨by omega, by omega, rfl⟩))) | exact (Or.inr (Or.inr (Or.inr ⟨by omega, by omega, rfl⟩)))
      · skip
        refine V_bipush (pc := 39) dX11_put_39 (by unfold I32; omega) (by decide) ?_
        refine V_reti (pc := 41) dX11_put_41 trivial ?_
        first | exact (Or.inl ⟨by omega, by omega, rfl⟩) | exact (Or.inr (Or.inl ⟨by omega, by omega, rfl⟩)) | exact (Or.inr (Or.inr (Or.inl ⟨by omega, by omega, rfl⟩))) | exact (Or.inr (Or.inr (Or.inr ⟨by omega, by omega, rfl⟩)))
    · skip
      refine V_bipush (pc := 18) dX11_put_18 (by unfold I32; omega) (by decide) ?_
      refine V_reti (pc := 20) dX11_put_20 trivial ?_
      first | exact (Or.inl ⟨by omega, by omega, rfl⟩) | exact (Or.inr (Or.inl ⟨by omega, by omega, rfl⟩)) | exact (Or.inr (Or.inr (Or.inl ⟨by omega, by omega, rfl⟩))) | exact (Or.inr (Or.inr (Or.inr ⟨by omega, by omega, rfl⟩)))
  · skip
    refine V_iconst (pc := 7) dX11_put_7 (by unfold I32; omega) ?_
    refine V_reti (pc := 8) dX11_put_8 trivial ?_
    first | exact (Or.inl ⟨by omega, by omega, rfl⟩) | exact (Or.inr (Or.inl ⟨by omega, by omega, rfl⟩)) | exact (Or.inr (Or.inr (Or.inl ⟨by omega, by omega, rfl⟩))) | exact (Or.inr (Or.inr (Or.inr ⟨by omega, by omega, rfl⟩)))

set_option maxHeartbeats 4000000 in
theorem r_get  (m : Mem) (l : Int) (i : Int)   (hL : Lay (mT m) (mR m)) (hz : ∀ l : Int, 0 ≤ l ∧ l ≤ 3 → -1 ≤ mI m 56 l.toNat ∧ mI m 56 l.toNat ≤ 40) : Ct μX11_get 2 [vr 30, vi l, vi i] m (rl fun x_ m' => (x_ = if (0 ≤ l ∧ l ≤ 3) ∧ 0 ≤ i ∧ i < mI m 56 l.toNat then mI m 57 (40 * l + i).toNat else -9223372036854775808) ∧ m = m') := by
  refine Ct_of_V rfl (by decide) rfl (Nat.le_of_ble_eq_true rfl) ?_
  show V μX11_get 2 m _ 0 [(0, vr 30), (1, vi l), (2, vi i)] [] m
  refine V_rg (k := 1) (x := l) rfl fun r_l => ?_
  refine V_rg (k := 2) (x := i) rfl fun r_i => ?_
  have hzl := hz l
  refine V_ld (pc := 0) dX11_get_0 (v := vi l) rfl rfl ?_
  refine V_callS (pc := 1) dX11_get_1 (F' := 1) (As := [vi l]) (st := []) cw_RX11_394 rfl rfl (Nat.le_of_ble_eq_true rfl) (by omega) (r_isList  m l   ) ?_
  rintro _ _ ⟨x1, rfl, hx1, rfl⟩ ok1 le1
  refine V_if_eq (pc := 4) dX11_get_4 (tgt := 39) rfl (fun h4 => ?_) (fun h4 => ?_)
  · skip
    refine V_ldc2 (pc := 39) dX11_get_39 (x := (-9223372036854775808)) kl_RX11_382 (by unfold I64; omega) rfl ?_
    refine V_retl (pc := 42) dX11_get_42 trivial ?_
    exact ⟨by omega, rfl⟩
  · skip
    refine V_ld (pc := 7) dX11_get_7 (v := vi i) rfl rfl ?_
    refine V_i2l (pc := 8) dX11_get_8 ?_
    refine V_lconst (pc := 9) dX11_get_9 (x := 0) (by unfold I64; omega) (by decide) ?_
    refine V_ld (pc := 10) dX11_get_10 (v := vr 30) rfl rfl ?_
    refine V_getRv (pc := 11) dX11_get_11 (o' := 56) fw_RX11_87 rfl hL.t30 hL.r30_50 ?_
    refine V_ld (pc := 14) dX11_get_14 (v := vi l) rfl rfl ?_
    refine V_ialdv (pc := 15) dX11_get_15 (v := mI m 56 l.toNat) hL.t56 (by omega) rfl (fun g15 => ?_)
    refine V_iconst (pc := 16) dX11_get_16 (by unfold I32; omega) ?_
    refine V_isub (pc := 17) dX11_get_17 (by unfold I32 at *; omega) ?_
    refine V_i2l (pc := 18) dX11_get_18 ?_
    refine V_callS (pc := 19) dX11_get_19 (F' := 0) (As := [vl i, vl 0, vl ((mI m 56 l.toNat) - 1)]) (st := []) cw_RX11_101 rfl rfl (Nat.le_of_ble_eq_true rfl) (by omega) (r_isIn  m i 0 ((mI m 56 l.toNat) - 1)   ) ?_
    rintro _ _ ⟨x19, rfl, hx19, rfl⟩ ok19 le19
    refine V_if_eq (pc := 22) dX11_get_22 (tgt := 39) rfl (fun h22 => ?_) (fun h22 => ?_)
    · skip
      refine V_ldc2 (pc := 39) dX11_get_39 (x := (-9223372036854775808)) kl_RX11_382 (by unfold I64; omega) rfl ?_
      refine V_retl (pc := 42) dX11_get_42 trivial ?_
      exact ⟨by omega, rfl⟩
    · skip
      refine V_ld (pc := 25) dX11_get_25 (v := vr 30) rfl rfl ?_
      refine V_getRv (pc := 26) dX11_get_26 (o' := 57) fw_RX11_90 rfl hL.t30 hL.r30_51 ?_
      refine V_bipush (pc := 29) dX11_get_29 (by unfold I32; omega) (by decide) ?_
      refine V_ld (pc := 31) dX11_get_31 (v := vi l) rfl rfl ?_
      refine V_imul (pc := 32) dX11_get_32 (by unfold I32 at *; omega) ?_
      refine V_ld (pc := 33) dX11_get_33 (v := vi i) rfl rfl ?_
      refine V_iadd (pc := 34) dX11_get_34 (by unfold I32 at *; omega) ?_
      refine V_laldv (pc := 35) dX11_get_35 (v := mI m 57 (((40 * l) + i).toNat)) hL.t57 (by omega) rfl ?_
      refine V_goto (pc := 36) dX11_get_36 (tgt := 42) rfl ?_
      refine V_retl (pc := 42) dX11_get_42 trivial ?_
      exact ⟨by omega, rfl⟩

set_option maxHeartbeats 4000000 in
theorem c_move  (m : Mem) (l : Int) (i : Int) (o : Int) (j : Int) (n : Int)   (hL : Lay (mT m) (mR m)) (hz : ∀ l : Int, 0 ≤ l ∧ l ≤ 3 → mI m (22 + 2 * l.toNat) 1 ≤ 40) : Ct μX10_move 2 [vr 0, vi l, vi i, vi o, vi j, vi n] m (ri fun x_ m' => ((¬ (0 ≤ l ∧ l ≤ 3 ∧ 0 ≤ o ∧ o ≤ 3)) ∧ (x_ = -1) ∧ m = m') ∨ (((0 ≤ l ∧ l ≤ 3 ∧ 0 ≤ o ∧ o ≤ 3) ∧ (mI m (22 + 2 * l.toNat) 1 < 0 ∨ mI m (22 + 2 * o.toNat) 1 < 0)) ∧ (x_ = -11) ∧ m = m') ∨ (((0 ≤ l ∧ l ≤ 3 ∧ 0 ≤ o ∧ o ≤ 3) ∧ 0 ≤ mI m (22 + 2 * l.toNat) 1 ∧ 0 ≤ mI m (22 + 2 * o.toNat) 1 ∧ ¬ (0 ≤ n ∧ 0 ≤ i ∧ 0 ≤ j ∧ n ≤ mI m (22 + 2 * l.toNat) 1 - i ∧ n ≤ mI m (22 + 2 * o.toNat) 1 - j)) ∧ (x_ = -13) ∧ m = m') ∨ (((0 ≤ l ∧ l ≤ 3 ∧ 0 ≤ o ∧ o ≤ 3) ∧ 0 ≤ mI m (22 + 2 * l.toNat) 1 ∧ 0 ≤ mI m (22 + 2 * o.toNat) 1 ∧ (0 ≤ n ∧ 0 ≤ i ∧ 0 ≤ j ∧ n ≤ mI m (22 + 2 * l.toNat) 1 - i ∧ n ≤ mI m (22 + 2 * o.toNat) 1 - j)) ∧ (x_ = n) ∧ cpyI m (23 + 2 * l.toNat) i.toNat (23 + 2 * o.toNat) j.toNat n.toNat = m')) := by
  refine Ct_of_V rfl (by decide) rfl (Nat.le_of_ble_eq_true rfl) ?_
  show V μX10_move 2 m _ 0 [(0, vr 0), (1, vi l), (2, vi i), (3, vi o), (4, vi j), (5, vi n)] [] m
  refine V_rg (k := 1) (x := l) rfl fun r_l => ?_
  refine V_rg (k := 2) (x := i) rfl fun r_i => ?_
  refine V_rg (k := 3) (x := o) rfl fun r_o => ?_
  refine V_rg (k := 4) (x := j) rfl fun r_j => ?_
  refine V_rg (k := 5) (x := n) rfl fun r_n => ?_
  have hzl := hz l
  have hzo := hz o
  refine V_ld (pc := 0) dX10_move_0 (v := vr 0) rfl rfl ?_
  refine V_ld (pc := 1) dX10_move_1 (v := vi l) rfl rfl ?_
  refine V_callV (pc := 2) dX10_move_2 (F' := 0) (As := [vi l]) (st := []) cw_RX10_220 rfl rfl hL.t0 (by decide) (Nat.le_of_ble_eq_true rfl) (by omega) (c_listAt  m l   (by first | assumption | omega)) ?_
  rintro _ _ ⟨x2, rfl, (⟨hc2, rfl, rfl⟩ | ⟨hc2, rfl, rfl⟩)⟩ ok2 le2
  · skip
    refine V_st (pc := 5) dX10_move_5 (ls' := [(6, vq none), (0, vr 0), (1, vi l), (2, vi i), (3, vi o), (4, vi j), (5, vi n)]) rfl (Nat.le_of_ble_eq_true rfl) rfl ?_
    refine V_ld (pc := 7) dX10_move_7 (v := vr 0) rfl rfl ?_
    refine V_ld (pc := 8) dX10_move_8 (v := vi o) rfl rfl ?_
    refine V_callV (pc := 9) dX10_move_9 (F' := 0) (As := [vi o]) (st := []) cw_RX10_220 rfl rfl hL.t0 (by decide) (Nat.le_of_ble_eq_true rfl) (by omega) (c_listAt  m o   (by first | assumption | omega)) ?_
    rintro _ _ ⟨x9, rfl, (⟨hc9, rfl, rfl⟩ | ⟨hc9, rfl, rfl⟩)⟩ ok9 le9
    · skip
      refine V_st (pc := 12) dX10_move_12 (ls' := [(7, vq none), (6, vq none), (0, vr 0), (1, vi l), (2, vi i), (3, vi o), (4, vi j), (5, vi n)]) rfl (Nat.le_of_ble_eq_true rfl) rfl ?_
      refine V_ld (pc := 14) dX10_move_14 (v := vq none) rfl rfl ?_
      refine V_ifnull (pc := 16) dX10_move_16 (tgt := 24) rfl (fun _ => ?_) (fun _ h_ => by cases h_)
      refine V_iconst (pc := 24) dX10_move_24 (by unfold I32; omega) ?_
      refine V_reti (pc := 25) dX10_move_25 trivial ?_
      first | exact (Or.inl ⟨by omega, by omega, rfl⟩) | exact (Or.inr (Or.inl ⟨by omega, by omega, rfl⟩)) | exact (Or.inr (Or.inr (Or.inl ⟨by omega, by omega, rfl⟩))) | exact (Or.inr (Or.inr (Or.inr ⟨by omega, by omega, rfl⟩)))
    · skip
      refine V_st (pc := 12) dX10_move_12 (ls' := [(7, vr (22 + 2 * o.toNat)), (6, vq none), (0, vr 0), (1, vi l), (2, vi i), (3, vi o), (4, vi j), (5, vi n)]) rfl (Nat.le_of_ble_eq_true rfl) rfl ?_
      refine V_ld (pc := 14) dX10_move_14 (v := vq none) rfl rfl ?_
      refine V_ifnull (pc := 16) dX10_move_16 (tgt := 24) rfl (fun _ => ?_) (fun _ h_ => by cases h_)
      refine V_iconst (pc := 24) dX10_move_24 (by unfold I32; omega) ?_
      refine V_reti (pc := 25) dX10_move_25 trivial ?_
      first | exact (Or.inl ⟨by omega, by omega, rfl⟩) | exact (Or.inr (Or.inl ⟨by omega, by omega, rfl⟩)) | exact (Or.inr (Or.inr (Or.inl ⟨by omega, by omega, rfl⟩))) | exact (Or.inr (Or.inr (Or.inr ⟨by omega, by omega, rfl⟩)))
  · skip
    refine V_st (pc := 5) dX10_move_5 (ls' := [(6, vr (22 + 2 * l.toNat)), (0, vr 0), (1, vi l), (2, vi i), (3, vi o), (4, vi j), (5, vi n)]) rfl (Nat.le_of_ble_eq_true rfl) rfl ?_
    refine V_ld (pc := 7) dX10_move_7 (v := vr 0) rfl rfl ?_
    refine V_ld (pc := 8) dX10_move_8 (v := vi o) rfl rfl ?_
    refine V_callV (pc := 9) dX10_move_9 (F' := 0) (As := [vi o]) (st := []) cw_RX10_220 rfl rfl hL.t0 (by decide) (Nat.le_of_ble_eq_true rfl) (by omega) (c_listAt  m o   (by first | assumption | omega)) ?_
    rintro _ _ ⟨x9, rfl, (⟨hc9, rfl, rfl⟩ | ⟨hc9, rfl, rfl⟩)⟩ ok9 le9
    · skip
      refine V_st (pc := 12) dX10_move_12 (ls' := [(7, vq none), (6, vr (22 + 2 * l.toNat)), (0, vr 0), (1, vi l), (2, vi i), (3, vi o), (4, vi j), (5, vi n)]) rfl (Nat.le_of_ble_eq_true rfl) rfl ?_
      refine V_ld (pc := 14) dX10_move_14 (v := vr (22 + 2 * l.toNat)) rfl rfl ?_
      refine V_ifnull (pc := 16) dX10_move_16 (tgt := 24) rfl (fun h_ => by cases h_) (fun _ _ => ?_)
      refine V_ld (pc := 19) dX10_move_19 (v := vq none) rfl rfl ?_
      refine V_ifnonnull (pc := 21) dX10_move_21 (tgt := 26) rfl (fun _ h_ => by cases h_) (fun _ => ?_)
      refine V_iconst (pc := 24) dX10_move_24 (by unfold I32; omega) ?_
      refine V_reti (pc := 25) dX10_move_25 trivial ?_
      first | exact (Or.inl ⟨by omega, by omega, rfl⟩) | exact (Or.inr (Or.inl ⟨by omega, by omega, rfl⟩)) | exact (Or.inr (Or.inr (Or.inl ⟨by omega, by omega, rfl⟩))) | exact (Or.inr (Or.inr (Or.inr ⟨by omega, by omega, rfl⟩)))
    · skip
      refine V_st (pc := 12) dX10_move_12 (ls' := [(7, vr (22 + 2 * o.toNat)), (6, vr (22 + 2 * l.toNat)), (0, vr 0), (1, vi l), (2, vi i), (3, vi o), (4, vi j), (5, vi n)]) rfl (Nat.le_of_ble_eq_true rfl) rfl ?_
      refine V_ld (pc := 14) dX10_move_14 (v := vr (22 + 2 * l.toNat)) rfl rfl ?_
      refine V_ifnull (pc := 16) dX10_move_16 (tgt := 24) rfl (fun h_ => by cases h_) (fun _ _ => ?_)
      refine V_ld (pc := 19) dX10_move_19 (v := vr (22 + 2 * o.toNat)) rfl rfl ?_
      refine V_ifnonnull (pc := 21) dX10_move_21 (tgt := 26) rfl (fun _ _ => ?_) (fun h_ => by cases h_)
      refine V_ld (pc := 26) dX10_move_26 (v := vr (22 + 2 * l.toNat)) rfl rfl ?_
      refine V_getIv (pc := 28) dX10_move_28 (v := mI m (22 + 2 * l.toNat) 1) fw_RX10_228 rfl (hL.list (l := l) (by omega)).1 rfl (fun g28 => ?_)
      refine V_if_lt (pc := 31) dX10_move_31 (tgt := 42) rfl (fun h31 => ?_) (fun h31 => ?_)
      · skip
        refine V_bipush (pc := 42) dX10_move_42 (by unfold I32; omega) (by decide) ?_
        refine V_reti (pc := 44) dX10_move_44 trivial ?_
        first | exact (Or.inl ⟨by omega, by omega, rfl⟩) | exact (Or.inr (Or.inl ⟨by omega, by omega, rfl⟩)) | exact (Or.inr (Or.inr (Or.inl ⟨by omega, by omega, rfl⟩))) | exact (Or.inr (Or.inr (Or.inr ⟨by omega, by omega, rfl⟩)))
      · skip
        refine V_ld (pc := 34) dX10_move_34 (v := vr (22 + 2 * o.toNat)) rfl rfl ?_
        refine V_getIv (pc := 36) dX10_move_36 (v := mI m (22 + 2 * o.toNat) 1) fw_RX10_228 rfl (hL.list (l := o) (by omega)).1 rfl (fun g36 => ?_)
        refine V_if_ge (pc := 39) dX10_move_39 (tgt := 45) rfl (fun h39 => ?_) (fun h39 => ?_)
        · skip
          refine V_ld (pc := 45) dX10_move_45 (v := vr (22 + 2 * l.toNat)) rfl rfl ?_
          refine V_ld (pc := 47) dX10_move_47 (v := vi i) rfl rfl ?_
          refine V_ld (pc := 48) dX10_move_48 (v := vi n) rfl rfl ?_
          refine V_callV (pc := 50) dX10_move_50 (F' := 0) (As := [vi i, vi n]) (st := []) cw_RX10_235 rfl rfl (hL.list (l := l) (by omega)).1 (by decide) (Nat.le_of_ble_eq_true rfl) (by omega) (c_Longs_hasAll  m (22 + 2 * l.toNat) i n   (hL.list (l := l) (by omega)).1) ?_
          rintro _ _ ⟨x50, rfl, hx50, rfl⟩ ok50 le50
          refine V_if_eq (pc := 53) dX10_move_53 (tgt := 68) rfl (fun h53 => ?_) (fun h53 => ?_)
          · skip
            refine V_bipush (pc := 68) dX10_move_68 (by unfold I32; omega) (by decide) ?_
            refine V_reti (pc := 70) dX10_move_70 trivial ?_
            first | exact (Or.inl ⟨by omega, by omega, rfl⟩) | exact (Or.inr (Or.inl ⟨by omega, by omega, rfl⟩)) | exact (Or.inr (Or.inr (Or.inl ⟨by omega, by omega, rfl⟩))) | exact (Or.inr (Or.inr (Or.inr ⟨by omega, by omega, rfl⟩)))
          · skip
            refine V_ld (pc := 56) dX10_move_56 (v := vr (22 + 2 * o.toNat)) rfl rfl ?_
            refine V_ld (pc := 58) dX10_move_58 (v := vi j) rfl rfl ?_
            refine V_ld (pc := 60) dX10_move_60 (v := vi n) rfl rfl ?_
            refine V_callV (pc := 62) dX10_move_62 (F' := 0) (As := [vi j, vi n]) (st := []) cw_RX10_235 rfl rfl (hL.list (l := o) (by omega)).1 (by decide) (Nat.le_of_ble_eq_true rfl) (by omega) (c_Longs_hasAll  m (22 + 2 * o.toNat) j n   (hL.list (l := o) (by omega)).1) ?_
            rintro _ _ ⟨x62, rfl, hx62, rfl⟩ ok62 le62
            refine V_if_ne (pc := 65) dX10_move_65 (tgt := 71) rfl (fun h65 => ?_) (fun h65 => ?_)
            · skip
              refine V_ld (pc := 71) dX10_move_71 (v := vr (22 + 2 * l.toNat)) rfl rfl ?_
              refine V_getRv (pc := 73) dX10_move_73 (o' := (23 + 2 * l.toNat)) fw_RX10_238 rfl (hL.list (l := l) (by omega)).1 (hL.list (l := l) (by omega)).2.2.2 ?_
              refine V_ld (pc := 76) dX10_move_76 (v := vi i) rfl rfl ?_
              refine V_ld (pc := 77) dX10_move_77 (v := vr (22 + 2 * o.toNat)) rfl rfl ?_
              refine V_getRv (pc := 79) dX10_move_79 (o' := (23 + 2 * o.toNat)) fw_RX10_238 rfl (hL.list (l := o) (by omega)).1 (hL.list (l := o) (by omega)).2.2.2 ?_
              refine V_ld (pc := 82) dX10_move_82 (v := vi j) rfl rfl ?_
              refine V_ld (pc := 84) dX10_move_84 (v := vi n) rfl rfl ?_
              refine V_acopy (pc := 86) dX10_move_86 ac_RX10_242 (hL.list (l := l) (by omega)).2.1 (hL.list (l := o) (by omega)).2.1 (by decide) (by omega) (by omega) (by omega) (by omega) (by omega) (by omega) (Nat.le_of_ble_eq_true rfl) ?_
              refine V_ld (pc := 89) dX10_move_89 (v := vi n) rfl rfl ?_
              refine V_reti (pc := 91) dX10_move_91 trivial ?_
              first | exact (Or.inl ⟨by omega, by omega, rfl⟩) | exact (Or.inr (Or.inl ⟨by omega, by omega, rfl⟩)) | exact (Or.inr (Or.inr (Or.inl ⟨by omega, by omega, rfl⟩))) | exact (Or.inr (Or.inr (Or.inr ⟨by omega, by omega, rfl⟩)))
            · skip
              refine V_bipush (pc := 68) dX10_move_68 (by unfold I32; omega) (by decide) ?_
              refine V_reti (pc := 70) dX10_move_70 trivial ?_
              first | exact (Or.inl ⟨by omega, by omega, rfl⟩) | exact (Or.inr (Or.inl ⟨by omega, by omega, rfl⟩)) | exact (Or.inr (Or.inr (Or.inl ⟨by omega, by omega, rfl⟩))) | exact (Or.inr (Or.inr (Or.inr ⟨by omega, by omega, rfl⟩)))
        · skip
          refine V_bipush (pc := 42) dX10_move_42 (by unfold I32; omega) (by decide) ?_
          refine V_reti (pc := 44) dX10_move_44 trivial ?_
          first | exact (Or.inl ⟨by omega, by omega, rfl⟩) | exact (Or.inr (Or.inl ⟨by omega, by omega, rfl⟩)) | exact (Or.inr (Or.inr (Or.inl ⟨by omega, by omega, rfl⟩))) | exact (Or.inr (Or.inr (Or.inr ⟨by omega, by omega, rfl⟩)))

set_option maxHeartbeats 4000000 in
theorem L_rmove1 {F : Nat} {m0 m : Mem} {post : Option AV → Mem → Prop} {l b o j n : Int} (hL : Lay (mT m) (mR m)) (hl : 0 ≤ l ∧ l ≤ 3 ∧ 0 ≤ o ∧ o ≤ 3) (hb : 0 ≤ b ∧ 0 ≤ j ∧ 0 ≤ n ∧ b + n ≤ 40 ∧ j + n ≤ 40) (kx : V μX11_move F m0 post 118 [(6, vi ((n.toNat : Nat) : Int)), (0, vr 30), (1, vi l), (2, vi b), (3, vi o), (4, vi j), (5, vi n)] [] (cpyI m 57 (40 * l + b).toNat 58 0 n.toNat)) : ∀ (d i : Nat), d + i = n.toNat → V μX11_move F m0 post 84 [(6, vi ((i : Nat) : Int)), (0, vr 30), (1, vi l), (2, vi b), (3, vi o), (4, vi j), (5, vi n)] [] (cpyI m 57 (40 * l + b).toNat 58 0 i) := by
  intro d
  induction d with
  | zero =>
    intro i hi
    obtain rfl : i = n.toNat := by omega
    refine V_ld (pc := 84) dX11_move_84 (v := vi ((n.toNat : Nat) : Int)) rfl rfl ?_
    refine V_ld (pc := 86) dX11_move_86 (v := vi n) rfl rfl ?_
    refine V_icmp_ge (pc := 88) dX11_move_88 (tgt := 118) rfl (fun h88 => ?_) (fun h88 => ?_)
    · skip
      first | exact kx | (refine V_ls (ls' := [(6, vi ((n.toNat : Nat) : Int)), (0, vr 30), (1, vi l), (2, vi b), (3, vi o), (4, vi j), (5, vi n)]) (by intro q_ h_; simp only [List.mem_cons, List.not_mem_nil, or_false] at h_ ⊢; rcases h_ with rfl | rfl | rfl | rfl | rfl | rfl | rfl <;> simp) kx) | (exfalso; omega)
    · skip
      refine V_ld (pc := 91) dX11_move_91 (v := vr 30) rfl rfl ?_
      refine V_getRv (pc := 92) dX11_move_92 (o' := 58) fw_RX11_94 rfl hL.t30 hL.r30_52 ?_
      refine V_ld (pc := 95) dX11_move_95 (v := vi ((n.toNat : Nat) : Int)) rfl rfl ?_
      refine V_ld (pc := 97) dX11_move_97 (v := vr 30) rfl rfl ?_
      refine V_getRv (pc := 98) dX11_move_98 (o' := 57) fw_RX11_90 rfl hL.t30 hL.r30_51 ?_
      refine V_bipush (pc := 101) dX11_move_101 (by unfold I32; omega) (by decide) ?_
      refine V_ld (pc := 103) dX11_move_103 (v := vi l) rfl rfl ?_
      refine V_imul (pc := 104) dX11_move_104 (by unfold I32 at *; omega) ?_
      refine V_ld (pc := 105) dX11_move_105 (v := vi b) rfl rfl ?_
      refine V_iadd (pc := 106) dX11_move_106 (by unfold I32 at *; omega) ?_
      refine V_ld (pc := 107) dX11_move_107 (v := vi ((n.toNat : Nat) : Int)) rfl rfl ?_
      refine V_iadd (pc := 109) dX11_move_109 (by unfold I32 at *; omega) ?_
      refine V_laldv (pc := 110) dX11_move_110 (v := mI (cpyI m 57 (40 * l + b).toNat 58 0 n.toNat) 57 ((((40 * l) + b) + ((n.toNat : Nat) : Int)).toNat)) hL.t57 (by omega) rfl ?_
      refine V_last (pc := 111) dX11_move_111 hL.t58 (by omega) ?_
      refine V_iinc (pc := 112) dX11_move_112 (x := ((n.toNat : Nat) : Int)) (ls' := [(6, vi (((n.toNat : Nat) : Int) + 1)), (0, vr 30), (1, vi l), (2, vi b), (3, vi o), (4, vi j), (5, vi n)]) rfl (by unfold I32 at *; omega) (Nat.le_of_ble_eq_true rfl) rfl ?_
      refine V_goto (pc := 115) dX11_move_115 (tgt := 84) rfl ?_
      exfalso; omega
  | succ d ih =>
    intro i hi
    refine V_ld (pc := 84) dX11_move_84 (v := vi ((i : Nat) : Int)) rfl rfl ?_
    refine V_ld (pc := 86) dX11_move_86 (v := vi n) rfl rfl ?_
    refine V_icmp_ge (pc := 88) dX11_move_88 (tgt := 118) rfl (fun h88 => ?_) (fun h88 => ?_)
    · skip
      exfalso; omega
    · skip
      refine V_ld (pc := 91) dX11_move_91 (v := vr 30) rfl rfl ?_
      refine V_getRv (pc := 92) dX11_move_92 (o' := 58) fw_RX11_94 rfl hL.t30 hL.r30_52 ?_
      refine V_ld (pc := 95) dX11_move_95 (v := vi ((i : Nat) : Int)) rfl rfl ?_
      refine V_ld (pc := 97) dX11_move_97 (v := vr 30) rfl rfl ?_
      refine V_getRv (pc := 98) dX11_move_98 (o' := 57) fw_RX11_90 rfl hL.t30 hL.r30_51 ?_
      refine V_bipush (pc := 101) dX11_move_101 (by unfold I32; omega) (by decide) ?_
      refine V_ld (pc := 103) dX11_move_103 (v := vi l) rfl rfl ?_
      refine V_imul (pc := 104) dX11_move_104 (by unfold I32 at *; omega) ?_
      refine V_ld (pc := 105) dX11_move_105 (v := vi b) rfl rfl ?_
      refine V_iadd (pc := 106) dX11_move_106 (by unfold I32 at *; omega) ?_
      refine V_ld (pc := 107) dX11_move_107 (v := vi ((i : Nat) : Int)) rfl rfl ?_
      refine V_iadd (pc := 109) dX11_move_109 (by unfold I32 at *; omega) ?_
      refine V_laldv (pc := 110) dX11_move_110 (v := mI (cpyI m 57 (40 * l + b).toNat 58 0 i) 57 ((((40 * l) + b) + ((i : Nat) : Int)).toNat)) hL.t57 (by omega) rfl ?_
      refine V_last (pc := 111) dX11_move_111 hL.t58 (by omega) ?_
      refine V_iinc (pc := 112) dX11_move_112 (x := ((i : Nat) : Int)) (ls' := [(6, vi (((i : Nat) : Int) + 1)), (0, vr 30), (1, vi l), (2, vi b), (3, vi o), (4, vi j), (5, vi n)]) rfl (by unfold I32 at *; omega) (Nat.le_of_ble_eq_true rfl) rfl ?_
      refine V_goto (pc := 115) dX11_move_115 (tgt := 84) rfl ?_
      refine V_mem (cpyI_s (by omega) (by rw [mI_cpyI, if_neg (by omega)]; congr 1; omega)) ?_
      exact ih (i + 1) (by omega)

set_option maxHeartbeats 4000000 in
theorem L_rmove2 {F : Nat} {m0 m : Mem} {post : Option AV → Mem → Prop} {l b o j n : Int} (hL : Lay (mT m) (mR m)) (hl : 0 ≤ l ∧ l ≤ 3 ∧ 0 ≤ o ∧ o ≤ 3) (hb : 0 ≤ b ∧ 0 ≤ j ∧ 0 ≤ n ∧ b + n ≤ 40 ∧ j + n ≤ 40) (kx : V μX11_move F m0 post 156 [(6, vi ((n.toNat : Nat) : Int)), (0, vr 30), (1, vi l), (2, vi b), (3, vi o), (4, vi j), (5, vi n)] [] (cpyI m 58 0 57 (40 * o + j).toNat n.toNat)) : ∀ (d i : Nat), d + i = n.toNat → V μX11_move F m0 post 121 [(6, vi ((i : Nat) : Int)), (0, vr 30), (1, vi l), (2, vi b), (3, vi o), (4, vi j), (5, vi n)] [] (cpyI m 58 0 57 (40 * o + j).toNat i) := by
  intro d
  induction d with
  | zero =>
    intro i hi
    obtain rfl : i = n.toNat := by omega
    refine V_ld (pc := 121) dX11_move_121 (v := vi ((n.toNat : Nat) : Int)) rfl rfl ?_
    refine V_ld (pc := 123) dX11_move_123 (v := vi n) rfl rfl ?_
    refine V_icmp_ge (pc := 125) dX11_move_125 (tgt := 156) rfl (fun h125 => ?_) (fun h125 => ?_)
    · skip
      first | exact kx | (refine V_ls (ls' := [(6, vi ((n.toNat : Nat) : Int)), (0, vr 30), (1, vi l), (2, vi b), (3, vi o), (4, vi j), (5, vi n)]) (by intro q_ h_; simp only [List.mem_cons, List.not_mem_nil, or_false] at h_ ⊢; rcases h_ with rfl | rfl | rfl | rfl | rfl | rfl | rfl <;> simp) kx) | (exfalso; omega)
    · skip
      refine V_ld (pc := 128) dX11_move_128 (v := vr 30) rfl rfl ?_
      refine V_getRv (pc := 129) dX11_move_129 (o' := 57) fw_RX11_90 rfl hL.t30 hL.r30_51 ?_
      refine V_bipush (pc := 132) dX11_move_132 (by unfold I32; omega) (by decide) ?_
      refine V_ld (pc := 134) dX11_move_134 (v := vi o) rfl rfl ?_
      refine V_imul (pc := 135) dX11_move_135 (by unfold I32 at *; omega) ?_
      refine V_ld (pc := 136) dX11_move_136 (v := vi j) rfl rfl ?_
      refine V_iadd (pc := 138) dX11_move_138 (by unfold I32 at *; omega) ?_
      refine V_ld (pc := 139) dX11_move_139 (v := vi ((n.toNat : Nat) : Int)) rfl rfl ?_
      refine V_iadd (pc := 141) dX11_move_141 (by unfold I32 at *; omega) ?_
      refine V_ld (pc := 142) dX11_move_142 (v := vr 30) rfl rfl ?_
      refine V_getRv (pc := 143) dX11_move_143 (o' := 58) fw_RX11_94 rfl hL.t30 hL.r30_52 ?_
      refine V_ld (pc := 146) dX11_move_146 (v := vi ((n.toNat : Nat) : Int)) rfl rfl ?_
      refine V_laldv (pc := 148) dX11_move_148 (v := mI (cpyI m 58 0 57 (40 * o + j).toNat n.toNat) 58 (((n.toNat : Nat) : Int).toNat)) hL.t58 (by omega) rfl ?_
      refine V_last (pc := 149) dX11_move_149 hL.t57 (by omega) ?_
      refine V_iinc (pc := 150) dX11_move_150 (x := ((n.toNat : Nat) : Int)) (ls' := [(6, vi (((n.toNat : Nat) : Int) + 1)), (0, vr 30), (1, vi l), (2, vi b), (3, vi o), (4, vi j), (5, vi n)]) rfl (by unfold I32 at *; omega) (Nat.le_of_ble_eq_true rfl) rfl ?_
      refine V_goto (pc := 153) dX11_move_153 (tgt := 121) rfl ?_
      exfalso; omega
  | succ d ih =>
    intro i hi
    refine V_ld (pc := 121) dX11_move_121 (v := vi ((i : Nat) : Int)) rfl rfl ?_
    refine V_ld (pc := 123) dX11_move_123 (v := vi n) rfl rfl ?_
    refine V_icmp_ge (pc := 125) dX11_move_125 (tgt := 156) rfl (fun h125 => ?_) (fun h125 => ?_)
    · skip
      exfalso; omega
    · skip
      refine V_ld (pc := 128) dX11_move_128 (v := vr 30) rfl rfl ?_
      refine V_getRv (pc := 129) dX11_move_129 (o' := 57) fw_RX11_90 rfl hL.t30 hL.r30_51 ?_
      refine V_bipush (pc := 132) dX11_move_132 (by unfold I32; omega) (by decide) ?_
      refine V_ld (pc := 134) dX11_move_134 (v := vi o) rfl rfl ?_
      refine V_imul (pc := 135) dX11_move_135 (by unfold I32 at *; omega) ?_
      refine V_ld (pc := 136) dX11_move_136 (v := vi j) rfl rfl ?_
      refine V_iadd (pc := 138) dX11_move_138 (by unfold I32 at *; omega) ?_
      refine V_ld (pc := 139) dX11_move_139 (v := vi ((i : Nat) : Int)) rfl rfl ?_
      refine V_iadd (pc := 141) dX11_move_141 (by unfold I32 at *; omega) ?_
      refine V_ld (pc := 142) dX11_move_142 (v := vr 30) rfl rfl ?_
      refine V_getRv (pc := 143) dX11_move_143 (o' := 58) fw_RX11_94 rfl hL.t30 hL.r30_52 ?_
      refine V_ld (pc := 146) dX11_move_146 (v := vi ((i : Nat) : Int)) rfl rfl ?_
      refine V_laldv (pc := 148) dX11_move_148 (v := mI (cpyI m 58 0 57 (40 * o + j).toNat i) 58 (((i : Nat) : Int).toNat)) hL.t58 (by omega) rfl ?_
      refine V_last (pc := 149) dX11_move_149 hL.t57 (by omega) ?_
      refine V_iinc (pc := 150) dX11_move_150 (x := ((i : Nat) : Int)) (ls' := [(6, vi (((i : Nat) : Int) + 1)), (0, vr 30), (1, vi l), (2, vi b), (3, vi o), (4, vi j), (5, vi n)]) rfl (by unfold I32 at *; omega) (Nat.le_of_ble_eq_true rfl) rfl ?_
      refine V_goto (pc := 153) dX11_move_153 (tgt := 121) rfl ?_
      refine V_mem (cpyI_s (by omega) (by rw [mI_cpyI, if_neg (by omega)]; congr 1; omega)) ?_
      exact ih (i + 1) (by omega)

set_option maxHeartbeats 4000000 in
theorem r_move  (m : Mem) (l : Int) (b : Int) (o : Int) (j : Int) (n : Int)   (hL : Lay (mT m) (mR m)) (hz : ∀ l : Int, 0 ≤ l ∧ l ≤ 3 → -1 ≤ mI m 56 l.toNat ∧ mI m 56 l.toNat ≤ 40) : Ct μX11_move 2 [vr 30, vi l, vi b, vi o, vi j, vi n] m (ri fun x_ m' => ((¬ (0 ≤ l ∧ l ≤ 3 ∧ 0 ≤ o ∧ o ≤ 3)) ∧ (x_ = -1) ∧ m = m') ∨ (((0 ≤ l ∧ l ≤ 3 ∧ 0 ≤ o ∧ o ≤ 3) ∧ (mI m 56 l.toNat < 0 ∨ mI m 56 o.toNat < 0)) ∧ (x_ = -11) ∧ m = m') ∨ (((0 ≤ l ∧ l ≤ 3 ∧ 0 ≤ o ∧ o ≤ 3) ∧ 0 ≤ mI m 56 l.toNat ∧ 0 ≤ mI m 56 o.toNat ∧ ¬ (0 ≤ n ∧ 0 ≤ b ∧ 0 ≤ j ∧ n ≤ mI m 56 l.toNat - b ∧ n ≤ mI m 56 o.toNat - j)) ∧ (x_ = -13) ∧ m = m') ∨ (((0 ≤ l ∧ l ≤ 3 ∧ 0 ≤ o ∧ o ≤ 3) ∧ 0 ≤ mI m 56 l.toNat ∧ 0 ≤ mI m 56 o.toNat ∧ (0 ≤ n ∧ 0 ≤ b ∧ 0 ≤ j ∧ n ≤ mI m 56 l.toNat - b ∧ n ≤ mI m 56 o.toNat - j)) ∧ (x_ = n) ∧ cpyI (cpyI m 57 (40 * l + b).toNat 58 0 n.toNat) 58 0 57 (40 * o + j).toNat n.toNat = m')) := by
  refine Ct_of_V rfl (by decide) rfl (Nat.le_of_ble_eq_true rfl) ?_
  show V μX11_move 2 m _ 0 [(0, vr 30), (1, vi l), (2, vi b), (3, vi o), (4, vi j), (5, vi n)] [] m
  refine V_rg (k := 1) (x := l) rfl fun r_l => ?_
  refine V_rg (k := 2) (x := b) rfl fun r_b => ?_
  refine V_rg (k := 3) (x := o) rfl fun r_o => ?_
  refine V_rg (k := 4) (x := j) rfl fun r_j => ?_
  refine V_rg (k := 5) (x := n) rfl fun r_n => ?_
  have hzl := hz l
  have hzo := hz o
  refine V_ld (pc := 0) dX11_move_0 (v := vi l) rfl rfl ?_
  refine V_callS (pc := 1) dX11_move_1 (F' := 1) (As := [vi l]) (st := []) cw_RX11_394 rfl rfl (Nat.le_of_ble_eq_true rfl) (by omega) (r_isList  m l   ) ?_
  rintro _ _ ⟨x1, rfl, hx1, rfl⟩ ok1 le1
  refine V_if_eq (pc := 4) dX11_move_4 (tgt := 14) rfl (fun h4 => ?_) (fun h4 => ?_)
  · skip
    refine V_iconst (pc := 14) dX11_move_14 (by unfold I32; omega) ?_
    refine V_reti (pc := 15) dX11_move_15 trivial ?_
    first | exact (Or.inl ⟨by omega, by omega, rfl⟩) | exact (Or.inr (Or.inl ⟨by omega, by omega, rfl⟩)) | exact (Or.inr (Or.inr (Or.inl ⟨by omega, by omega, rfl⟩))) | exact (Or.inr (Or.inr (Or.inr ⟨by omega, by omega, rfl⟩)))
  · skip
    refine V_ld (pc := 7) dX11_move_7 (v := vi o) rfl rfl ?_
    refine V_callS (pc := 8) dX11_move_8 (F' := 1) (As := [vi o]) (st := []) cw_RX11_394 rfl rfl (Nat.le_of_ble_eq_true rfl) (by omega) (r_isList  m o   ) ?_
    rintro _ _ ⟨x8, rfl, hx8, rfl⟩ ok8 le8
    refine V_if_ne (pc := 11) dX11_move_11 (tgt := 16) rfl (fun h11 => ?_) (fun h11 => ?_)
    · skip
      refine V_ld (pc := 16) dX11_move_16 (v := vr 30) rfl rfl ?_
      refine V_getRv (pc := 17) dX11_move_17 (o' := 56) fw_RX11_87 rfl hL.t30 hL.r30_50 ?_
      refine V_ld (pc := 20) dX11_move_20 (v := vi l) rfl rfl ?_
      refine V_ialdv (pc := 21) dX11_move_21 (v := mI m 56 l.toNat) hL.t56 (by omega) rfl (fun g21 => ?_)
      refine V_if_lt (pc := 22) dX11_move_22 (tgt := 34) rfl (fun h22 => ?_) (fun h22 => ?_)
      · skip
        refine V_bipush (pc := 34) dX11_move_34 (by unfold I32; omega) (by decide) ?_
        refine V_reti (pc := 36) dX11_move_36 trivial ?_
        first | exact (Or.inl ⟨by omega, by omega, rfl⟩) | exact (Or.inr (Or.inl ⟨by omega, by omega, rfl⟩)) | exact (Or.inr (Or.inr (Or.inl ⟨by omega, by omega, rfl⟩))) | exact (Or.inr (Or.inr (Or.inr ⟨by omega, by omega, rfl⟩)))
      · skip
        refine V_ld (pc := 25) dX11_move_25 (v := vr 30) rfl rfl ?_
        refine V_getRv (pc := 26) dX11_move_26 (o' := 56) fw_RX11_87 rfl hL.t30 hL.r30_50 ?_
        refine V_ld (pc := 29) dX11_move_29 (v := vi o) rfl rfl ?_
        refine V_ialdv (pc := 30) dX11_move_30 (v := mI m 56 o.toNat) hL.t56 (by omega) rfl (fun g30 => ?_)
        refine V_if_ge (pc := 31) dX11_move_31 (tgt := 37) rfl (fun h31 => ?_) (fun h31 => ?_)
        · skip
          refine V_ld (pc := 37) dX11_move_37 (v := vi n) rfl rfl ?_
          refine V_if_lt (pc := 39) dX11_move_39 (tgt := 78) rfl (fun h39 => ?_) (fun h39 => ?_)
          · skip
            refine V_bipush (pc := 78) dX11_move_78 (by unfold I32; omega) (by decide) ?_
            refine V_reti (pc := 80) dX11_move_80 trivial ?_
            first | exact (Or.inl ⟨by omega, by omega, rfl⟩) | exact (Or.inr (Or.inl ⟨by omega, by omega, rfl⟩)) | exact (Or.inr (Or.inr (Or.inl ⟨by omega, by omega, rfl⟩))) | exact (Or.inr (Or.inr (Or.inr ⟨by omega, by omega, rfl⟩)))
          · skip
            refine V_ld (pc := 42) dX11_move_42 (v := vi b) rfl rfl ?_
            refine V_if_lt (pc := 43) dX11_move_43 (tgt := 78) rfl (fun h43 => ?_) (fun h43 => ?_)
            · skip
              refine V_bipush (pc := 78) dX11_move_78 (by unfold I32; omega) (by decide) ?_
              refine V_reti (pc := 80) dX11_move_80 trivial ?_
              first | exact (Or.inl ⟨by omega, by omega, rfl⟩) | exact (Or.inr (Or.inl ⟨by omega, by omega, rfl⟩)) | exact (Or.inr (Or.inr (Or.inl ⟨by omega, by omega, rfl⟩))) | exact (Or.inr (Or.inr (Or.inr ⟨by omega, by omega, rfl⟩)))
            · skip
              refine V_ld (pc := 46) dX11_move_46 (v := vi j) rfl rfl ?_
              refine V_if_lt (pc := 48) dX11_move_48 (tgt := 78) rfl (fun h48 => ?_) (fun h48 => ?_)
              · skip
                refine V_bipush (pc := 78) dX11_move_78 (by unfold I32; omega) (by decide) ?_
                refine V_reti (pc := 80) dX11_move_80 trivial ?_
                first | exact (Or.inl ⟨by omega, by omega, rfl⟩) | exact (Or.inr (Or.inl ⟨by omega, by omega, rfl⟩)) | exact (Or.inr (Or.inr (Or.inl ⟨by omega, by omega, rfl⟩))) | exact (Or.inr (Or.inr (Or.inr ⟨by omega, by omega, rfl⟩)))
              · skip
                refine V_ld (pc := 51) dX11_move_51 (v := vi n) rfl rfl ?_
                refine V_ld (pc := 53) dX11_move_53 (v := vr 30) rfl rfl ?_
                refine V_getRv (pc := 54) dX11_move_54 (o' := 56) fw_RX11_87 rfl hL.t30 hL.r30_50 ?_
                refine V_ld (pc := 57) dX11_move_57 (v := vi l) rfl rfl ?_
                refine V_ialdv (pc := 58) dX11_move_58 (v := mI m 56 l.toNat) hL.t56 (by omega) rfl (fun g58 => ?_)
                refine V_ld (pc := 59) dX11_move_59 (v := vi b) rfl rfl ?_
                refine V_isub (pc := 60) dX11_move_60 (by unfold I32 at *; omega) ?_
                refine V_icmp_gt (pc := 61) dX11_move_61 (tgt := 78) rfl (fun h61 => ?_) (fun h61 => ?_)
                · skip
                  refine V_bipush (pc := 78) dX11_move_78 (by unfold I32; omega) (by decide) ?_
                  refine V_reti (pc := 80) dX11_move_80 trivial ?_
                  first | exact (Or.inl ⟨by omega, by omega, rfl⟩) | exact (Or.inr (Or.inl ⟨by omega, by omega, rfl⟩)) | exact (Or.inr (Or.inr (Or.inl ⟨by omega, by omega, rfl⟩))) | exact (Or.inr (Or.inr (Or.inr ⟨by omega, by omega, rfl⟩)))
                · skip
                  refine V_ld (pc := 64) dX11_move_64 (v := vi n) rfl rfl ?_
                  refine V_ld (pc := 66) dX11_move_66 (v := vr 30) rfl rfl ?_
                  refine V_getRv (pc := 67) dX11_move_67 (o' := 56) fw_RX11_87 rfl hL.t30 hL.r30_50 ?_
                  refine V_ld (pc := 70) dX11_move_70 (v := vi o) rfl rfl ?_
                  refine V_ialdv (pc := 71) dX11_move_71 (v := mI m 56 o.toNat) hL.t56 (by omega) rfl (fun g71 => ?_)
                  refine V_ld (pc := 72) dX11_move_72 (v := vi j) rfl rfl ?_
                  refine V_isub (pc := 74) dX11_move_74 (by unfold I32 at *; omega) ?_
                  refine V_icmp_le (pc := 75) dX11_move_75 (tgt := 81) rfl (fun h75 => ?_) (fun h75 => ?_)
                  · skip
                    refine V_iconst (pc := 81) dX11_move_81 (by unfold I32; omega) ?_
                    refine V_st (pc := 82) dX11_move_82 (ls' := [(6, vi 0), (0, vr 30), (1, vi l), (2, vi b), (3, vi o), (4, vi j), (5, vi n)]) rfl (Nat.le_of_ble_eq_true rfl) rfl ?_
                    refine V_ls (ls' := [(6, vi ((0 : Nat) : Int)), (0, vr 30), (1, vi l), (2, vi b), (3, vi o), (4, vi j), (5, vi n)]) (by intro q_ h_; simp only [List.mem_cons, List.not_mem_nil, or_false] at h_ ⊢; rcases h_ with rfl | rfl | rfl | rfl | rfl | rfl | rfl <;> simp) ?_
                    refine V_mem (cpyI_0 (a := 57) (sp := (40 * l + b).toNat) (b := 58) (dp := 0)).symm ?_
                    refine L_rmove1 (m := m) (l := l) (b := b) (o := o) (j := j) (n := n) hL (by omega) (by omega) ?_ n.toNat 0 (by omega)
                    refine V_iconst (pc := 118) dX11_move_118 (by unfold I32; omega) ?_
                    refine V_st (pc := 119) dX11_move_119 (ls' := [(6, vi 0), (0, vr 30), (1, vi l), (2, vi b), (3, vi o), (4, vi j), (5, vi n)]) rfl (Nat.le_of_ble_eq_true rfl) rfl ?_
                    refine V_ls (ls' := [(6, vi ((0 : Nat) : Int)), (0, vr 30), (1, vi l), (2, vi b), (3, vi o), (4, vi j), (5, vi n)]) (by intro q_ h_; simp only [List.mem_cons, List.not_mem_nil, or_false] at h_ ⊢; rcases h_ with rfl | rfl | rfl | rfl | rfl | rfl | rfl <;> simp) ?_
                    refine V_mem (cpyI_0 (a := 58) (sp := 0) (b := 57) (dp := (40 * o + j).toNat)).symm ?_
                    refine L_rmove2 (m := cpyI m 57 (40 * l + b).toNat 58 0 n.toNat) (l := l) (b := b) (o := o) (j := j) (n := n) hL (by omega) (by omega) ?_ n.toNat 0 (by omega)
                    refine V_ld (pc := 156) dX11_move_156 (v := vi n) rfl rfl ?_
                    refine V_reti (pc := 158) dX11_move_158 trivial ?_
                    first | exact (Or.inl ⟨by omega, by omega, rfl⟩) | exact (Or.inr (Or.inl ⟨by omega, by omega, rfl⟩)) | exact (Or.inr (Or.inr (Or.inl ⟨by omega, by omega, rfl⟩))) | exact (Or.inr (Or.inr (Or.inr ⟨by omega, by omega, rfl⟩)))
                  · skip
                    refine V_bipush (pc := 78) dX11_move_78 (by unfold I32; omega) (by decide) ?_
                    refine V_reti (pc := 80) dX11_move_80 trivial ?_
                    first | exact (Or.inl ⟨by omega, by omega, rfl⟩) | exact (Or.inr (Or.inl ⟨by omega, by omega, rfl⟩)) | exact (Or.inr (Or.inr (Or.inl ⟨by omega, by omega, rfl⟩))) | exact (Or.inr (Or.inr (Or.inr ⟨by omega, by omega, rfl⟩)))
        · skip
          refine V_bipush (pc := 34) dX11_move_34 (by unfold I32; omega) (by decide) ?_
          refine V_reti (pc := 36) dX11_move_36 trivial ?_
          first | exact (Or.inl ⟨by omega, by omega, rfl⟩) | exact (Or.inr (Or.inl ⟨by omega, by omega, rfl⟩)) | exact (Or.inr (Or.inr (Or.inl ⟨by omega, by omega, rfl⟩))) | exact (Or.inr (Or.inr (Or.inr ⟨by omega, by omega, rfl⟩)))
    · skip
      refine V_iconst (pc := 14) dX11_move_14 (by unfold I32; omega) ?_
      refine V_reti (pc := 15) dX11_move_15 trivial ?_
      first | exact (Or.inl ⟨by omega, by omega, rfl⟩) | exact (Or.inr (Or.inl ⟨by omega, by omega, rfl⟩)) | exact (Or.inr (Or.inr (Or.inl ⟨by omega, by omega, rfl⟩))) | exact (Or.inr (Or.inr (Or.inr ⟨by omega, by omega, rfl⟩)))
