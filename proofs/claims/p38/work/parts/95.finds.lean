/-! first(), tries(), way(), ways(), spans(), fits(): class and reference -/
set_option maxHeartbeats 4000000 in
theorem z_firstS (P : Nat) (Q : Nat) (L : Nat) (F : Tb) (c : Nat) (n : Int) (may : Int) (hcn : Nat → CEnv → Int) (cl : Nat → Int) (J : SJ) (m : Mem) (st : Int)   (hS : SB m P Q L F c n may hcn cl) (hr : 1 ≤ c ∧ F (c - 1) 9 ≤ 6 ∧ F (c - 1) 10 ≤ 23) (hl : ∀ k, k < 32 → mI m 10 k = J.2.1 k) (hst : 0 ≤ st ∧ st ≤ n) : Ct μX10_first 8 [vr 0, vi st] m (ri fun x_ m' => (x_ = firV (seekA F c n may hcn cl (-1) st J) st) ∧ CZ m m' F (seekA F c n may hcn cl (-1) st J).2) := by
  refine Ct_of_V rfl (by decide) rfl (Nat.le_of_ble_eq_true rfl) ?_
  show V μX10_first 8 m _ 0 [(0, vr 0), (1, vi st)] [] m
  refine V_rg (k := 1) (x := st) rfl fun r_st => ?_
  have hL := hS.1.1
  have hSn := hS.2.2.2.1
  have hinv := seekA_inv (hc := hcn) (cl := cl) (e := (-1)) (J := J) hS.2.2.1.2.2.2.2 hr ⟨hst.1, hst.2, hSn.2.2.1⟩ ⟨hSn.2.2.2.2.1, hSn.2.2.2.2.2⟩
  obtain ⟨R, hR⟩ : ∃ R, (seekA F c n may hcn cl (-1) st J) = R := ⟨_, rfl⟩
  rw [hR] at hinv
  refine V_ld (pc := 0) dX10_first_0 (v := vr 0) rfl rfl ?_
  refine V_getRv (pc := 1) dX10_first_1 (o' := 9) fw_RX10_23 rfl (hL.t0) (hL.r0_1) ?_
  refine V_ld (pc := 4) dX10_first_4 (v := vi st) rfl rfl ?_
  refine V_iconst (pc := 5) dX10_first_5 (by unfold I32; omega) ?_
  refine V_callV (pc := 6) dX10_first_6 (F' := 7) (As := [vi st, vi (-1)]) (st := []) cw_RX10_154 rfl rfl (hL.t9) (by decide) (Nat.le_of_ble_eq_true rfl) (by omega) (z_seek P Q L F c n may hcn cl J m st (-1)   hS hr hl hst) ?_
  rintro _ m6 ⟨x6, rfl, hx6, hm6⟩ ok6 le6
  have hx6 : x6 = R.1 := hx6.trans (congrArg Prod.fst hR)
  have hm6 : CZ m m6 F R.2 := by rw [← hR]; exact hm6
  refine V_st (pc := 9) dX10_first_9 (ls' := [(2, vi x6), (0, vr 0), (1, vi st)]) rfl (Nat.le_of_ble_eq_true rfl) rfl ?_
  refine V_ld (pc := 10) dX10_first_10 (v := vi x6) rfl rfl ?_
  refine V_iconst (pc := 11) dX10_first_11 (by unfold I32; omega) ?_
  refine V_icmp_ne (pc := 12) dX10_first_12 (tgt := 27) rfl (fun h12 => ?_) (fun h12 => ?_)
  · skip
    refine V_ld (pc := 27) dX10_first_27 (v := vi x6) rfl rfl ?_
    refine V_if_ne (pc := 28) dX10_first_28 (tgt := 36) rfl (fun h28 => ?_) (fun h28 => ?_)
    · skip
      refine V_ld (pc := 36) dX10_first_36 (v := vi x6) rfl rfl ?_
      refine V_reti (pc := 37) dX10_first_37 trivial ?_
      refine ⟨?_, by rw [hR]; exact hm6⟩
      rw [hR]
      unfold firV
      first
        | (exfalso; omega)
        | (rw [if_pos (by omega)]; omega)
        | (rw [if_neg (by omega), if_pos (by omega)])
        | (rw [if_neg (by omega), if_neg (by omega), if_pos (by omega)])
        | (rw [if_neg (by omega), if_neg (by omega), if_neg (by omega)])
        | (rw [if_neg (by omega), if_neg (by omega)])
        | (rw [if_neg (by omega)])
    · skip
      refine V_bipush (pc := 31) dX10_first_31 (by unfold I32; omega) (by decide) ?_
      refine V_goto (pc := 33) dX10_first_33 (tgt := 37) rfl ?_
      refine V_reti (pc := 37) dX10_first_37 trivial ?_
      refine ⟨?_, by rw [hR]; exact hm6⟩
      rw [hR]
      unfold firV
      first
        | (exfalso; omega)
        | (rw [if_pos (by omega)]; omega)
        | (rw [if_neg (by omega), if_pos (by omega)])
        | (rw [if_neg (by omega), if_neg (by omega), if_pos (by omega)])
        | (rw [if_neg (by omega), if_neg (by omega), if_neg (by omega)])
        | (rw [if_neg (by omega), if_neg (by omega)])
        | (rw [if_neg (by omega)])
  · skip
    refine V_ld (pc := 15) dX10_first_15 (v := vr 0) rfl rfl ?_
    refine V_getRv (pc := 16) dX10_first_16 (o' := 9) fw_RX10_23 rfl ((CZ.lay hS hm6).t0) ((CZ.lay hS hm6).r0_1) ?_
    refine V_getIv (pc := 19) dX10_first_19 (v := (R.2.1 9)) fw_RX10_157 rfl ((CZ.lay hS hm6).t9) (CZ.s hm6 (k := 9) (by decide)) (fun g19 => ?_)
    refine V_ld (pc := 22) dX10_first_22 (v := vi st) rfl rfl ?_
    refine V_isub (pc := 23) dX10_first_23 (by unfold I32 at *; omega) ?_
    refine V_goto (pc := 24) dX10_first_24 (tgt := 37) rfl ?_
    refine V_reti (pc := 37) dX10_first_37 trivial ?_
    refine ⟨?_, by rw [hR]; exact hm6⟩
    rw [hR]
    unfold firV
    first
      | (exfalso; omega)
      | (rw [if_pos (by omega)]; omega)
      | (rw [if_neg (by omega), if_pos (by omega)])
      | (rw [if_neg (by omega), if_neg (by omega), if_pos (by omega)])
      | (rw [if_neg (by omega), if_neg (by omega), if_neg (by omega)])
      | (rw [if_neg (by omega), if_neg (by omega)])
      | (rw [if_neg (by omega)])

set_option maxHeartbeats 4000000 in
theorem z_firstB (n : Int) (m : Mem) (st : Int)   (hL : Lay (mT m) (mR m)) (hn : mI m 2 1 = n ∧ 0 ≤ n ∧ n ≤ 32) (hst : ¬ (0 ≤ st ∧ st ≤ n)) : Ct μX10_first 8 [vr 0, vi st] m (ri fun x_ m' => (x_ = -1) ∧ m = m') := by
  refine Ct_of_V rfl (by decide) rfl (Nat.le_of_ble_eq_true rfl) ?_
  show V μX10_first 8 m _ 0 [(0, vr 0), (1, vi st)] [] m
  refine V_rg (k := 1) (x := st) rfl fun r_st => ?_
  refine V_ld (pc := 0) dX10_first_0 (v := vr 0) rfl rfl ?_
  refine V_getRv (pc := 1) dX10_first_1 (o' := 9) fw_RX10_23 rfl hL.t0 hL.r0_1 ?_
  refine V_ld (pc := 4) dX10_first_4 (v := vi st) rfl rfl ?_
  refine V_iconst (pc := 5) dX10_first_5 (by unfold I32; omega) ?_
  refine V_callV (pc := 6) dX10_first_6 (F' := 7) (As := [vi st, vi (-1)]) (st := []) cw_RX10_154 rfl rfl hL.t9 (by decide) (Nat.le_of_ble_eq_true rfl) (by omega) (z_seekB n m st (-1)   (by first | assumption | omega) hn (by omega)) ?_
  rintro _ _ ⟨x6, rfl, hx6, rfl⟩ ok6 le6
  refine V_st (pc := 9) dX10_first_9 (ls' := [(2, vi x6), (0, vr 0), (1, vi st)]) rfl (Nat.le_of_ble_eq_true rfl) rfl ?_
  refine V_ld (pc := 10) dX10_first_10 (v := vi x6) rfl rfl ?_
  refine V_iconst (pc := 11) dX10_first_11 (by unfold I32; omega) ?_
  refine V_icmp_ne (pc := 12) dX10_first_12 (tgt := 27) rfl (fun h12 => ?_) (fun h12 => ?_)
  · skip
    refine V_ld (pc := 27) dX10_first_27 (v := vi x6) rfl rfl ?_
    refine V_if_ne (pc := 28) dX10_first_28 (tgt := 36) rfl (fun h28 => ?_) (fun h28 => ?_)
    · skip
      refine V_ld (pc := 36) dX10_first_36 (v := vi x6) rfl rfl ?_
      refine V_reti (pc := 37) dX10_first_37 trivial ?_
      first | (exfalso; omega) | exact ⟨by omega, rfl⟩
    · skip
      refine V_bipush (pc := 31) dX10_first_31 (by unfold I32; omega) (by decide) ?_
      refine V_goto (pc := 33) dX10_first_33 (tgt := 37) rfl ?_
      refine V_reti (pc := 37) dX10_first_37 trivial ?_
      first | (exfalso; omega) | exact ⟨by omega, rfl⟩
  · skip
    refine V_ld (pc := 15) dX10_first_15 (v := vr 0) rfl rfl ?_
    refine V_getRv (pc := 16) dX10_first_16 (o' := 9) fw_RX10_23 rfl hL.t0 hL.r0_1 ?_
    refine V_getIv (pc := 19) dX10_first_19 (v := mI m 9 9) fw_RX10_157 rfl hL.t9 rfl (fun g19 => ?_)
    refine V_ld (pc := 22) dX10_first_22 (v := vi st) rfl rfl ?_
    refine V_isub (pc := 23) dX10_first_23 (by unfold I32 at *; omega) ?_
    refine V_goto (pc := 24) dX10_first_24 (tgt := 37) rfl ?_
    refine V_reti (pc := 37) dX10_first_37 trivial ?_
    first | (exfalso; omega) | exact ⟨by omega, rfl⟩

set_option maxHeartbeats 4000000 in
theorem z_firstN (n : Int) (m : Mem) (st : Int)   (hL : Lay (mT m) (mR m)) (hn : mI m 2 1 = n ∧ 0 ≤ n ∧ n ≤ 32) (hq : mR m 1 2 = none) (hst : 0 ≤ st ∧ st ≤ n) : Ct μX10_first 8 [vr 0, vi st] m (ri fun x_ m' => (x_ = -3) ∧ m = m') := by
  refine Ct_of_V rfl (by decide) rfl (Nat.le_of_ble_eq_true rfl) ?_
  show V μX10_first 8 m _ 0 [(0, vr 0), (1, vi st)] [] m
  refine V_rg (k := 1) (x := st) rfl fun r_st => ?_
  refine V_ld (pc := 0) dX10_first_0 (v := vr 0) rfl rfl ?_
  refine V_getRv (pc := 1) dX10_first_1 (o' := 9) fw_RX10_23 rfl hL.t0 hL.r0_1 ?_
  refine V_ld (pc := 4) dX10_first_4 (v := vi st) rfl rfl ?_
  refine V_iconst (pc := 5) dX10_first_5 (by unfold I32; omega) ?_
  refine V_callV (pc := 6) dX10_first_6 (F' := 7) (As := [vi st, vi (-1)]) (st := []) cw_RX10_154 rfl rfl hL.t9 (by decide) (Nat.le_of_ble_eq_true rfl) (by omega) (z_seekN n m st (-1)   (by first | assumption | omega) hn hq hst) ?_
  rintro _ _ ⟨x6, rfl, hx6, rfl⟩ ok6 le6
  refine V_st (pc := 9) dX10_first_9 (ls' := [(2, vi x6), (0, vr 0), (1, vi st)]) rfl (Nat.le_of_ble_eq_true rfl) rfl ?_
  refine V_ld (pc := 10) dX10_first_10 (v := vi x6) rfl rfl ?_
  refine V_iconst (pc := 11) dX10_first_11 (by unfold I32; omega) ?_
  refine V_icmp_ne (pc := 12) dX10_first_12 (tgt := 27) rfl (fun h12 => ?_) (fun h12 => ?_)
  · skip
    refine V_ld (pc := 27) dX10_first_27 (v := vi x6) rfl rfl ?_
    refine V_if_ne (pc := 28) dX10_first_28 (tgt := 36) rfl (fun h28 => ?_) (fun h28 => ?_)
    · skip
      refine V_ld (pc := 36) dX10_first_36 (v := vi x6) rfl rfl ?_
      refine V_reti (pc := 37) dX10_first_37 trivial ?_
      first | (exfalso; omega) | exact ⟨by omega, rfl⟩
    · skip
      refine V_bipush (pc := 31) dX10_first_31 (by unfold I32; omega) (by decide) ?_
      refine V_goto (pc := 33) dX10_first_33 (tgt := 37) rfl ?_
      refine V_reti (pc := 37) dX10_first_37 trivial ?_
      first | (exfalso; omega) | exact ⟨by omega, rfl⟩
  · skip
    refine V_ld (pc := 15) dX10_first_15 (v := vr 0) rfl rfl ?_
    refine V_getRv (pc := 16) dX10_first_16 (o' := 9) fw_RX10_23 rfl hL.t0 hL.r0_1 ?_
    refine V_getIv (pc := 19) dX10_first_19 (v := mI m 9 9) fw_RX10_157 rfl hL.t9 rfl (fun g19 => ?_)
    refine V_ld (pc := 22) dX10_first_22 (v := vi st) rfl rfl ?_
    refine V_isub (pc := 23) dX10_first_23 (by unfold I32 at *; omega) ?_
    refine V_goto (pc := 24) dX10_first_24 (tgt := 37) rfl ?_
    refine V_reti (pc := 37) dX10_first_37 trivial ?_
    first | (exfalso; omega) | exact ⟨by omega, rfl⟩

set_option maxHeartbeats 4000000 in
theorem z_triesS (P : Nat) (Q : Nat) (L : Nat) (F : Tb) (c : Nat) (n : Int) (may : Int) (hcn : Nat → CEnv → Int) (cl : Nat → Int) (J : SJ) (m : Mem) (st : Int)   (hS : SB m P Q L F c n may hcn cl) (hr : 1 ≤ c ∧ F (c - 1) 9 ≤ 6 ∧ F (c - 1) 10 ≤ 23) (hl : ∀ k, k < 32 → mI m 10 k = J.2.1 k) (hst : 0 ≤ st ∧ st ≤ n) : Ct μX10_tries 8 [vr 0, vi st] m (ri fun x_ m' => (x_ = triV (seekA F c n may hcn cl (-1) st J)) ∧ CZ m m' F (seekA F c n may hcn cl (-1) st J).2) := by
  refine Ct_of_V rfl (by decide) rfl (Nat.le_of_ble_eq_true rfl) ?_
  show V μX10_tries 8 m _ 0 [(0, vr 0), (1, vi st)] [] m
  refine V_rg (k := 1) (x := st) rfl fun r_st => ?_
  have hL := hS.1.1
  have hSn := hS.2.2.2.1
  have hinv := seekA_inv (hc := hcn) (cl := cl) (e := (-1)) (J := J) hS.2.2.1.2.2.2.2 hr ⟨hst.1, hst.2, hSn.2.2.1⟩ ⟨hSn.2.2.2.2.1, hSn.2.2.2.2.2⟩
  obtain ⟨R, hR⟩ : ∃ R, (seekA F c n may hcn cl (-1) st J) = R := ⟨_, rfl⟩
  rw [hR] at hinv
  refine V_ld (pc := 0) dX10_tries_0 (v := vr 0) rfl rfl ?_
  refine V_getRv (pc := 1) dX10_tries_1 (o' := 9) fw_RX10_23 rfl (hL.t0) (hL.r0_1) ?_
  refine V_ld (pc := 4) dX10_tries_4 (v := vi st) rfl rfl ?_
  refine V_iconst (pc := 5) dX10_tries_5 (by unfold I32; omega) ?_
  refine V_callV (pc := 6) dX10_tries_6 (F' := 7) (As := [vi st, vi (-1)]) (st := []) cw_RX10_154 rfl rfl (hL.t9) (by decide) (Nat.le_of_ble_eq_true rfl) (by omega) (z_seek P Q L F c n may hcn cl J m st (-1)   hS hr hl hst) ?_
  rintro _ m6 ⟨x6, rfl, hx6, hm6⟩ ok6 le6
  have hx6 : x6 = R.1 := hx6.trans (congrArg Prod.fst hR)
  have hm6 : CZ m m6 F R.2 := by rw [← hR]; exact hm6
  refine V_st (pc := 9) dX10_tries_9 (ls' := [(2, vi x6), (0, vr 0), (1, vi st)]) rfl (Nat.le_of_ble_eq_true rfl) rfl ?_
  refine V_ld (pc := 10) dX10_tries_10 (v := vi x6) rfl rfl ?_
  refine V_if_ge (pc := 11) dX10_tries_11 (tgt := 18) rfl (fun h11 => ?_) (fun h11 => ?_)
  · skip
    refine V_ld (pc := 18) dX10_tries_18 (v := vr 0) rfl rfl ?_
    refine V_getRv (pc := 19) dX10_tries_19 (o' := 9) fw_RX10_23 rfl ((CZ.lay hS hm6).t0) ((CZ.lay hS hm6).r0_1) ?_
    refine V_getIv (pc := 22) dX10_tries_22 (v := (R.2.1 10)) fw_RX10_160 rfl ((CZ.lay hS hm6).t9) (CZ.s hm6 (k := 10) (by decide)) (fun g22 => ?_)
    refine V_reti (pc := 25) dX10_tries_25 trivial ?_
    refine ⟨?_, by rw [hR]; exact hm6⟩
    rw [hR]
    unfold triV
    first
      | (exfalso; omega)
      | (rw [if_pos (by omega)]; omega)
      | (rw [if_neg (by omega), if_pos (by omega)])
      | (rw [if_neg (by omega), if_neg (by omega), if_pos (by omega)])
      | (rw [if_neg (by omega), if_neg (by omega), if_neg (by omega)])
      | (rw [if_neg (by omega), if_neg (by omega)])
      | (rw [if_neg (by omega)])
  · skip
    refine V_ld (pc := 14) dX10_tries_14 (v := vi x6) rfl rfl ?_
    refine V_goto (pc := 15) dX10_tries_15 (tgt := 25) rfl ?_
    refine V_reti (pc := 25) dX10_tries_25 trivial ?_
    refine ⟨?_, by rw [hR]; exact hm6⟩
    rw [hR]
    unfold triV
    first
      | (exfalso; omega)
      | (rw [if_pos (by omega)]; omega)
      | (rw [if_neg (by omega), if_pos (by omega)])
      | (rw [if_neg (by omega), if_neg (by omega), if_pos (by omega)])
      | (rw [if_neg (by omega), if_neg (by omega), if_neg (by omega)])
      | (rw [if_neg (by omega), if_neg (by omega)])
      | (rw [if_neg (by omega)])

set_option maxHeartbeats 4000000 in
theorem z_triesB (n : Int) (m : Mem) (st : Int)   (hL : Lay (mT m) (mR m)) (hn : mI m 2 1 = n ∧ 0 ≤ n ∧ n ≤ 32) (hst : ¬ (0 ≤ st ∧ st ≤ n)) : Ct μX10_tries 8 [vr 0, vi st] m (ri fun x_ m' => (x_ = -1) ∧ m = m') := by
  refine Ct_of_V rfl (by decide) rfl (Nat.le_of_ble_eq_true rfl) ?_
  show V μX10_tries 8 m _ 0 [(0, vr 0), (1, vi st)] [] m
  refine V_rg (k := 1) (x := st) rfl fun r_st => ?_
  refine V_ld (pc := 0) dX10_tries_0 (v := vr 0) rfl rfl ?_
  refine V_getRv (pc := 1) dX10_tries_1 (o' := 9) fw_RX10_23 rfl hL.t0 hL.r0_1 ?_
  refine V_ld (pc := 4) dX10_tries_4 (v := vi st) rfl rfl ?_
  refine V_iconst (pc := 5) dX10_tries_5 (by unfold I32; omega) ?_
  refine V_callV (pc := 6) dX10_tries_6 (F' := 7) (As := [vi st, vi (-1)]) (st := []) cw_RX10_154 rfl rfl hL.t9 (by decide) (Nat.le_of_ble_eq_true rfl) (by omega) (z_seekB n m st (-1)   (by first | assumption | omega) hn (by omega)) ?_
  rintro _ _ ⟨x6, rfl, hx6, rfl⟩ ok6 le6
  refine V_st (pc := 9) dX10_tries_9 (ls' := [(2, vi x6), (0, vr 0), (1, vi st)]) rfl (Nat.le_of_ble_eq_true rfl) rfl ?_
  refine V_ld (pc := 10) dX10_tries_10 (v := vi x6) rfl rfl ?_
  refine V_if_ge (pc := 11) dX10_tries_11 (tgt := 18) rfl (fun h11 => ?_) (fun h11 => ?_)
  · skip
    refine V_ld (pc := 18) dX10_tries_18 (v := vr 0) rfl rfl ?_
    refine V_getRv (pc := 19) dX10_tries_19 (o' := 9) fw_RX10_23 rfl hL.t0 hL.r0_1 ?_
    refine V_getIv (pc := 22) dX10_tries_22 (v := mI m 9 10) fw_RX10_160 rfl hL.t9 rfl (fun g22 => ?_)
    refine V_reti (pc := 25) dX10_tries_25 trivial ?_
    first | (exfalso; omega) | exact ⟨by omega, rfl⟩
  · skip
    refine V_ld (pc := 14) dX10_tries_14 (v := vi x6) rfl rfl ?_
    refine V_goto (pc := 15) dX10_tries_15 (tgt := 25) rfl ?_
    refine V_reti (pc := 25) dX10_tries_25 trivial ?_
    first | (exfalso; omega) | exact ⟨by omega, rfl⟩

set_option maxHeartbeats 4000000 in
theorem z_triesN (n : Int) (m : Mem) (st : Int)   (hL : Lay (mT m) (mR m)) (hn : mI m 2 1 = n ∧ 0 ≤ n ∧ n ≤ 32) (hq : mR m 1 2 = none) (hst : 0 ≤ st ∧ st ≤ n) : Ct μX10_tries 8 [vr 0, vi st] m (ri fun x_ m' => (x_ = -3) ∧ m = m') := by
  refine Ct_of_V rfl (by decide) rfl (Nat.le_of_ble_eq_true rfl) ?_
  show V μX10_tries 8 m _ 0 [(0, vr 0), (1, vi st)] [] m
  refine V_rg (k := 1) (x := st) rfl fun r_st => ?_
  refine V_ld (pc := 0) dX10_tries_0 (v := vr 0) rfl rfl ?_
  refine V_getRv (pc := 1) dX10_tries_1 (o' := 9) fw_RX10_23 rfl hL.t0 hL.r0_1 ?_
  refine V_ld (pc := 4) dX10_tries_4 (v := vi st) rfl rfl ?_
  refine V_iconst (pc := 5) dX10_tries_5 (by unfold I32; omega) ?_
  refine V_callV (pc := 6) dX10_tries_6 (F' := 7) (As := [vi st, vi (-1)]) (st := []) cw_RX10_154 rfl rfl hL.t9 (by decide) (Nat.le_of_ble_eq_true rfl) (by omega) (z_seekN n m st (-1)   (by first | assumption | omega) hn hq hst) ?_
  rintro _ _ ⟨x6, rfl, hx6, rfl⟩ ok6 le6
  refine V_st (pc := 9) dX10_tries_9 (ls' := [(2, vi x6), (0, vr 0), (1, vi st)]) rfl (Nat.le_of_ble_eq_true rfl) rfl ?_
  refine V_ld (pc := 10) dX10_tries_10 (v := vi x6) rfl rfl ?_
  refine V_if_ge (pc := 11) dX10_tries_11 (tgt := 18) rfl (fun h11 => ?_) (fun h11 => ?_)
  · skip
    refine V_ld (pc := 18) dX10_tries_18 (v := vr 0) rfl rfl ?_
    refine V_getRv (pc := 19) dX10_tries_19 (o' := 9) fw_RX10_23 rfl hL.t0 hL.r0_1 ?_
    refine V_getIv (pc := 22) dX10_tries_22 (v := mI m 9 10) fw_RX10_160 rfl hL.t9 rfl (fun g22 => ?_)
    refine V_reti (pc := 25) dX10_tries_25 trivial ?_
    first | (exfalso; omega) | exact ⟨by omega, rfl⟩
  · skip
    refine V_ld (pc := 14) dX10_tries_14 (v := vi x6) rfl rfl ?_
    refine V_goto (pc := 15) dX10_tries_15 (tgt := 25) rfl ?_
    refine V_reti (pc := 25) dX10_tries_25 trivial ?_
    first | (exfalso; omega) | exact ⟨by omega, rfl⟩

set_option maxHeartbeats 4000000 in
theorem z_wayS (P : Nat) (Q : Nat) (L : Nat) (F : Tb) (c : Nat) (n : Int) (may : Int) (hcn : Nat → CEnv → Int) (cl : Nat → Int) (J : SJ) (m : Mem) (st : Int) (i0 : Int)   (hS : SB m P Q L F c n may hcn cl) (hr : 1 ≤ c ∧ F (c - 1) 9 ≤ 6 ∧ F (c - 1) 10 ≤ 23) (hl : ∀ k, k < 32 → mI m 10 k = J.2.1 k) (hst : 0 ≤ st ∧ st ≤ n) : Ct μX10_way 8 [vr 0, vi st, vi i0] m (ri fun x_ m' => (x_ = wayV (seekA F c n may hcn cl (-1) st J) st i0) ∧ CZ m m' F (seekA F c n may hcn cl (-1) st J).2) := by
  refine Ct_of_V rfl (by decide) rfl (Nat.le_of_ble_eq_true rfl) ?_
  show V μX10_way 8 m _ 0 [(0, vr 0), (1, vi st), (2, vi i0)] [] m
  refine V_rg (k := 1) (x := st) rfl fun r_st => ?_
  refine V_rg (k := 2) (x := i0) rfl fun r_i0 => ?_
  have hL := hS.1.1
  have hSn := hS.2.2.2.1
  have hinv := seekA_inv (hc := hcn) (cl := cl) (e := (-1)) (J := J) hS.2.2.1.2.2.2.2 hr ⟨hst.1, hst.2, hSn.2.2.1⟩ ⟨hSn.2.2.2.2.1, hSn.2.2.2.2.2⟩
  obtain ⟨R, hR⟩ : ∃ R, (seekA F c n may hcn cl (-1) st J) = R := ⟨_, rfl⟩
  rw [hR] at hinv
  refine V_ld (pc := 0) dX10_way_0 (v := vr 0) rfl rfl ?_
  refine V_getRv (pc := 1) dX10_way_1 (o' := 9) fw_RX10_23 rfl (hL.t0) (hL.r0_1) ?_
  refine V_ld (pc := 4) dX10_way_4 (v := vi st) rfl rfl ?_
  refine V_iconst (pc := 5) dX10_way_5 (by unfold I32; omega) ?_
  refine V_callV (pc := 6) dX10_way_6 (F' := 7) (As := [vi st, vi (-1)]) (st := []) cw_RX10_154 rfl rfl (hL.t9) (by decide) (Nat.le_of_ble_eq_true rfl) (by omega) (z_seek P Q L F c n may hcn cl J m st (-1)   hS hr hl hst) ?_
  rintro _ m6 ⟨x6, rfl, hx6, hm6⟩ ok6 le6
  have hx6 : x6 = R.1 := hx6.trans (congrArg Prod.fst hR)
  have hm6 : CZ m m6 F R.2 := by rw [← hR]; exact hm6
  refine V_st (pc := 9) dX10_way_9 (ls' := [(3, vi x6), (0, vr 0), (1, vi st), (2, vi i0)]) rfl (Nat.le_of_ble_eq_true rfl) rfl ?_
  refine V_ld (pc := 10) dX10_way_10 (v := vi x6) rfl rfl ?_
  refine V_if_ge (pc := 11) dX10_way_11 (tgt := 16) rfl (fun h11 => ?_) (fun h11 => ?_)
  · skip
    refine V_ld (pc := 16) dX10_way_16 (v := vi x6) rfl rfl ?_
    refine V_if_eq (pc := 17) dX10_way_17 (tgt := 37) rfl (fun h17 => ?_) (fun h17 => ?_)
    · skip
      refine V_bipush (pc := 37) dX10_way_37 (by unfold I32; omega) (by decide) ?_
      refine V_goto (pc := 39) dX10_way_39 (tgt := 52) rfl ?_
      refine V_reti (pc := 52) dX10_way_52 trivial ?_
      refine ⟨?_, by rw [hR]; exact hm6⟩
      rw [hR]
      unfold wayV
      first
        | (exfalso; omega)
        | (rw [if_neg (by omega), if_neg (by omega)])
        | (rw [if_neg (by omega), if_pos (by omega), hx49, if_pos (by omega)]
           exact CZ.l hm6 (by omega))
    · skip
      refine V_ld (pc := 20) dX10_way_20 (v := vi i0) rfl rfl ?_
      refine V_if_lt (pc := 21) dX10_way_21 (tgt := 37) rfl (fun h21 => ?_) (fun h21 => ?_)
      · skip
        refine V_bipush (pc := 37) dX10_way_37 (by unfold I32; omega) (by decide) ?_
        refine V_goto (pc := 39) dX10_way_39 (tgt := 52) rfl ?_
        refine V_reti (pc := 52) dX10_way_52 trivial ?_
        refine ⟨?_, by rw [hR]; exact hm6⟩
        rw [hR]
        unfold wayV
        first
          | (exfalso; omega)
          | (rw [if_neg (by omega), if_neg (by omega)])
          | (rw [if_neg (by omega), if_pos (by omega), hx49, if_pos (by omega)]
             exact CZ.l hm6 (by omega))
      · skip
        refine V_ld (pc := 24) dX10_way_24 (v := vi i0) rfl rfl ?_
        refine V_ld (pc := 25) dX10_way_25 (v := vr 0) rfl rfl ?_
        refine V_getRv (pc := 26) dX10_way_26 (o' := 9) fw_RX10_23 rfl ((CZ.lay hS hm6).t0) ((CZ.lay hS hm6).r0_1) ?_
        refine V_getIv (pc := 29) dX10_way_29 (v := (R.2.1 9)) fw_RX10_157 rfl ((CZ.lay hS hm6).t9) (CZ.s hm6 (k := 9) (by decide)) (fun g29 => ?_)
        refine V_ld (pc := 32) dX10_way_32 (v := vi st) rfl rfl ?_
        refine V_isub (pc := 33) dX10_way_33 (by unfold I32 at *; omega) ?_
        refine V_icmp_lt (pc := 34) dX10_way_34 (tgt := 42) rfl (fun h34 => ?_) (fun h34 => ?_)
        · skip
          refine V_ld (pc := 42) dX10_way_42 (v := vr 0) rfl rfl ?_
          refine V_getRv (pc := 43) dX10_way_43 (o' := 9) fw_RX10_23 rfl ((CZ.lay hS hm6).t0) ((CZ.lay hS hm6).r0_1) ?_
          refine V_ld (pc := 46) dX10_way_46 (v := vi st) rfl rfl ?_
          refine V_ld (pc := 47) dX10_way_47 (v := vi i0) rfl rfl ?_
          refine V_iadd (pc := 48) dX10_way_48 (by unfold I32 at *; omega) ?_
          refine V_callV (pc := 49) dX10_way_49 (F' := 0) (As := [vi (st + i0)]) (st := []) cw_RX10_163 rfl rfl ((CZ.lay hS hm6).t9) (by decide) (Nat.le_of_ble_eq_true rfl) (by omega) (d_letterAt  m6 (st + i0)   (CZ.lay hS hm6)) ?_
          rintro _ _ ⟨x49, rfl, hx49, rfl⟩ ok49 le49
          refine V_reti (pc := 52) dX10_way_52 trivial ?_
          refine ⟨?_, by rw [hR]; exact hm6⟩
          rw [hR]
          unfold wayV
          first
            | (exfalso; omega)
            | (rw [if_neg (by omega), if_neg (by omega)])
            | (rw [if_neg (by omega), if_pos (by omega), hx49, if_pos (by omega)]
               exact CZ.l hm6 (by omega))
        · skip
          refine V_bipush (pc := 37) dX10_way_37 (by unfold I32; omega) (by decide) ?_
          refine V_goto (pc := 39) dX10_way_39 (tgt := 52) rfl ?_
          refine V_reti (pc := 52) dX10_way_52 trivial ?_
          refine ⟨?_, by rw [hR]; exact hm6⟩
          rw [hR]
          unfold wayV
          first
            | (exfalso; omega)
            | (rw [if_neg (by omega), if_neg (by omega)])
            | (rw [if_neg (by omega), if_pos (by omega), hx49, if_pos (by omega)]
               exact CZ.l hm6 (by omega))
  · skip
    refine V_ld (pc := 14) dX10_way_14 (v := vi x6) rfl rfl ?_
    refine V_reti (pc := 15) dX10_way_15 trivial ?_
    refine ⟨?_, by rw [hR]; exact hm6⟩
    rw [hR]
    unfold wayV
    first
      | (exfalso; omega)
      | (rw [if_pos (by omega)]; omega)
      | (rw [if_neg (by omega), if_pos (by omega)])
      | (rw [if_neg (by omega), if_neg (by omega), if_pos (by omega)])
      | (rw [if_neg (by omega), if_neg (by omega), if_neg (by omega)])
      | (rw [if_neg (by omega), if_neg (by omega)])
      | (rw [if_neg (by omega)])

set_option maxHeartbeats 4000000 in
theorem z_wayB (n : Int) (m : Mem) (st : Int) (i0 : Int)   (hL : Lay (mT m) (mR m)) (hn : mI m 2 1 = n ∧ 0 ≤ n ∧ n ≤ 32) (hst : ¬ (0 ≤ st ∧ st ≤ n)) : Ct μX10_way 8 [vr 0, vi st, vi i0] m (ri fun x_ m' => (x_ = -1) ∧ m = m') := by
  refine Ct_of_V rfl (by decide) rfl (Nat.le_of_ble_eq_true rfl) ?_
  show V μX10_way 8 m _ 0 [(0, vr 0), (1, vi st), (2, vi i0)] [] m
  refine V_rg (k := 1) (x := st) rfl fun r_st => ?_
  refine V_rg (k := 2) (x := i0) rfl fun r_i0 => ?_
  refine V_ld (pc := 0) dX10_way_0 (v := vr 0) rfl rfl ?_
  refine V_getRv (pc := 1) dX10_way_1 (o' := 9) fw_RX10_23 rfl hL.t0 hL.r0_1 ?_
  refine V_ld (pc := 4) dX10_way_4 (v := vi st) rfl rfl ?_
  refine V_iconst (pc := 5) dX10_way_5 (by unfold I32; omega) ?_
  refine V_callV (pc := 6) dX10_way_6 (F' := 7) (As := [vi st, vi (-1)]) (st := []) cw_RX10_154 rfl rfl hL.t9 (by decide) (Nat.le_of_ble_eq_true rfl) (by omega) (z_seekB n m st (-1)   (by first | assumption | omega) hn (by omega)) ?_
  rintro _ _ ⟨x6, rfl, hx6, rfl⟩ ok6 le6
  refine V_st (pc := 9) dX10_way_9 (ls' := [(3, vi x6), (0, vr 0), (1, vi st), (2, vi i0)]) rfl (Nat.le_of_ble_eq_true rfl) rfl ?_
  refine V_ld (pc := 10) dX10_way_10 (v := vi x6) rfl rfl ?_
  refine V_if_ge (pc := 11) dX10_way_11 (tgt := 16) rfl (fun h11 => ?_) (fun h11 => ?_)
  · skip
    refine V_ld (pc := 16) dX10_way_16 (v := vi x6) rfl rfl ?_
    refine V_if_eq (pc := 17) dX10_way_17 (tgt := 37) rfl (fun h17 => ?_) (fun h17 => ?_)
    · skip
      refine V_bipush (pc := 37) dX10_way_37 (by unfold I32; omega) (by decide) ?_
      refine V_goto (pc := 39) dX10_way_39 (tgt := 52) rfl ?_
      refine V_reti (pc := 52) dX10_way_52 trivial ?_
      first | (exfalso; omega) | exact ⟨by omega, rfl⟩
    · skip
      refine V_ld (pc := 20) dX10_way_20 (v := vi i0) rfl rfl ?_
      refine V_if_lt (pc := 21) dX10_way_21 (tgt := 37) rfl (fun h21 => ?_) (fun h21 => ?_)
      · skip
        refine V_bipush (pc := 37) dX10_way_37 (by unfold I32; omega) (by decide) ?_
        refine V_goto (pc := 39) dX10_way_39 (tgt := 52) rfl ?_
        refine V_reti (pc := 52) dX10_way_52 trivial ?_
        first | (exfalso; omega) | exact ⟨by omega, rfl⟩
      · skip
        refine V_ld (pc := 24) dX10_way_24 (v := vi i0) rfl rfl ?_
        refine V_ld (pc := 25) dX10_way_25 (v := vr 0) rfl rfl ?_
        refine V_getRv (pc := 26) dX10_way_26 (o' := 9) fw_RX10_23 rfl hL.t0 hL.r0_1 ?_
        refine V_getIv (pc := 29) dX10_way_29 (v := mI m 9 9) fw_RX10_157 rfl hL.t9 rfl (fun g29 => ?_)
        refine V_ld (pc := 32) dX10_way_32 (v := vi st) rfl rfl ?_
        refine V_isub (pc := 33) dX10_way_33 (by unfold I32 at *; omega) ?_
        refine V_icmp_lt (pc := 34) dX10_way_34 (tgt := 42) rfl (fun h34 => ?_) (fun h34 => ?_)
        · skip
          refine V_ld (pc := 42) dX10_way_42 (v := vr 0) rfl rfl ?_
          refine V_getRv (pc := 43) dX10_way_43 (o' := 9) fw_RX10_23 rfl hL.t0 hL.r0_1 ?_
          refine V_ld (pc := 46) dX10_way_46 (v := vi st) rfl rfl ?_
          refine V_ld (pc := 47) dX10_way_47 (v := vi i0) rfl rfl ?_
          refine V_iadd (pc := 48) dX10_way_48 (by unfold I32 at *; omega) ?_
          refine V_callV (pc := 49) dX10_way_49 (F' := 0) (As := [vi (st + i0)]) (st := []) cw_RX10_163 rfl rfl hL.t9 (by decide) (Nat.le_of_ble_eq_true rfl) (by omega) (d_letterAt  m (st + i0)   (by first | assumption | omega)) ?_
          rintro _ _ ⟨x49, rfl, hx49, rfl⟩ ok49 le49
          refine V_reti (pc := 52) dX10_way_52 trivial ?_
          first | (exfalso; omega) | exact ⟨by omega, rfl⟩
        · skip
          refine V_bipush (pc := 37) dX10_way_37 (by unfold I32; omega) (by decide) ?_
          refine V_goto (pc := 39) dX10_way_39 (tgt := 52) rfl ?_
          refine V_reti (pc := 52) dX10_way_52 trivial ?_
          first | (exfalso; omega) | exact ⟨by omega, rfl⟩
  · skip
    refine V_ld (pc := 14) dX10_way_14 (v := vi x6) rfl rfl ?_
    refine V_reti (pc := 15) dX10_way_15 trivial ?_
    first | (exfalso; omega) | exact ⟨by omega, rfl⟩

set_option maxHeartbeats 4000000 in
theorem z_wayN (n : Int) (m : Mem) (st : Int) (i0 : Int)   (hL : Lay (mT m) (mR m)) (hn : mI m 2 1 = n ∧ 0 ≤ n ∧ n ≤ 32) (hq : mR m 1 2 = none) (hst : 0 ≤ st ∧ st ≤ n) : Ct μX10_way 8 [vr 0, vi st, vi i0] m (ri fun x_ m' => (x_ = -3) ∧ m = m') := by
  refine Ct_of_V rfl (by decide) rfl (Nat.le_of_ble_eq_true rfl) ?_
  show V μX10_way 8 m _ 0 [(0, vr 0), (1, vi st), (2, vi i0)] [] m
  refine V_rg (k := 1) (x := st) rfl fun r_st => ?_
  refine V_rg (k := 2) (x := i0) rfl fun r_i0 => ?_
  refine V_ld (pc := 0) dX10_way_0 (v := vr 0) rfl rfl ?_
  refine V_getRv (pc := 1) dX10_way_1 (o' := 9) fw_RX10_23 rfl hL.t0 hL.r0_1 ?_
  refine V_ld (pc := 4) dX10_way_4 (v := vi st) rfl rfl ?_
  refine V_iconst (pc := 5) dX10_way_5 (by unfold I32; omega) ?_
  refine V_callV (pc := 6) dX10_way_6 (F' := 7) (As := [vi st, vi (-1)]) (st := []) cw_RX10_154 rfl rfl hL.t9 (by decide) (Nat.le_of_ble_eq_true rfl) (by omega) (z_seekN n m st (-1)   (by first | assumption | omega) hn hq hst) ?_
  rintro _ _ ⟨x6, rfl, hx6, rfl⟩ ok6 le6
  refine V_st (pc := 9) dX10_way_9 (ls' := [(3, vi x6), (0, vr 0), (1, vi st), (2, vi i0)]) rfl (Nat.le_of_ble_eq_true rfl) rfl ?_
  refine V_ld (pc := 10) dX10_way_10 (v := vi x6) rfl rfl ?_
  refine V_if_ge (pc := 11) dX10_way_11 (tgt := 16) rfl (fun h11 => ?_) (fun h11 => ?_)
  · skip
    refine V_ld (pc := 16) dX10_way_16 (v := vi x6) rfl rfl ?_
    refine V_if_eq (pc := 17) dX10_way_17 (tgt := 37) rfl (fun h17 => ?_) (fun h17 => ?_)
    · skip
      refine V_bipush (pc := 37) dX10_way_37 (by unfold I32; omega) (by decide) ?_
      refine V_goto (pc := 39) dX10_way_39 (tgt := 52) rfl ?_
      refine V_reti (pc := 52) dX10_way_52 trivial ?_
      first | (exfalso; omega) | exact ⟨by omega, rfl⟩
    · skip
      refine V_ld (pc := 20) dX10_way_20 (v := vi i0) rfl rfl ?_
      refine V_if_lt (pc := 21) dX10_way_21 (tgt := 37) rfl (fun h21 => ?_) (fun h21 => ?_)
      · skip
        refine V_bipush (pc := 37) dX10_way_37 (by unfold I32; omega) (by decide) ?_
        refine V_goto (pc := 39) dX10_way_39 (tgt := 52) rfl ?_
        refine V_reti (pc := 52) dX10_way_52 trivial ?_
        first | (exfalso; omega) | exact ⟨by omega, rfl⟩
      · skip
        refine V_ld (pc := 24) dX10_way_24 (v := vi i0) rfl rfl ?_
        refine V_ld (pc := 25) dX10_way_25 (v := vr 0) rfl rfl ?_
        refine V_getRv (pc := 26) dX10_way_26 (o' := 9) fw_RX10_23 rfl hL.t0 hL.r0_1 ?_
        refine V_getIv (pc := 29) dX10_way_29 (v := mI m 9 9) fw_RX10_157 rfl hL.t9 rfl (fun g29 => ?_)
        refine V_ld (pc := 32) dX10_way_32 (v := vi st) rfl rfl ?_
        refine V_isub (pc := 33) dX10_way_33 (by unfold I32 at *; omega) ?_
        refine V_icmp_lt (pc := 34) dX10_way_34 (tgt := 42) rfl (fun h34 => ?_) (fun h34 => ?_)
        · skip
          refine V_ld (pc := 42) dX10_way_42 (v := vr 0) rfl rfl ?_
          refine V_getRv (pc := 43) dX10_way_43 (o' := 9) fw_RX10_23 rfl hL.t0 hL.r0_1 ?_
          refine V_ld (pc := 46) dX10_way_46 (v := vi st) rfl rfl ?_
          refine V_ld (pc := 47) dX10_way_47 (v := vi i0) rfl rfl ?_
          refine V_iadd (pc := 48) dX10_way_48 (by unfold I32 at *; omega) ?_
          refine V_callV (pc := 49) dX10_way_49 (F' := 0) (As := [vi (st + i0)]) (st := []) cw_RX10_163 rfl rfl hL.t9 (by decide) (Nat.le_of_ble_eq_true rfl) (by omega) (d_letterAt  m (st + i0)   (by first | assumption | omega)) ?_
          rintro _ _ ⟨x49, rfl, hx49, rfl⟩ ok49 le49
          refine V_reti (pc := 52) dX10_way_52 trivial ?_
          first | (exfalso; omega) | exact ⟨by omega, rfl⟩
        · skip
          refine V_bipush (pc := 37) dX10_way_37 (by unfold I32; omega) (by decide) ?_
          refine V_goto (pc := 39) dX10_way_39 (tgt := 52) rfl ?_
          refine V_reti (pc := 52) dX10_way_52 trivial ?_
          first | (exfalso; omega) | exact ⟨by omega, rfl⟩
  · skip
    refine V_ld (pc := 14) dX10_way_14 (v := vi x6) rfl rfl ?_
    refine V_reti (pc := 15) dX10_way_15 trivial ?_
    first | (exfalso; omega) | exact ⟨by omega, rfl⟩

set_option maxHeartbeats 4000000 in
theorem z_waysS (P : Nat) (Q : Nat) (L : Nat) (F : Tb) (c : Nat) (n : Int) (may : Int) (hcn : Nat → CEnv → Int) (cl : Nat → Int) (J : SJ) (m : Mem) (st : Int)   (hS : SB m P Q L F c n may hcn cl) (hr : 1 ≤ c ∧ F (c - 1) 9 ≤ 6 ∧ F (c - 1) 10 ≤ 23) (hl : ∀ k, k < 32 → mI m 10 k = J.2.1 k) (hst : 0 ≤ st ∧ st ≤ n) : Ct μX10_ways 8 [vr 0, vi st] m (ri fun x_ m' => (x_ = wasV (seekA F c n may hcn cl (-2) st J)) ∧ CZ m m' F (seekA F c n may hcn cl (-2) st J).2) := by
  refine Ct_of_V rfl (by decide) rfl (Nat.le_of_ble_eq_true rfl) ?_
  show V μX10_ways 8 m _ 0 [(0, vr 0), (1, vi st)] [] m
  refine V_rg (k := 1) (x := st) rfl fun r_st => ?_
  have hL := hS.1.1
  have hSn := hS.2.2.2.1
  have hinv := seekA_inv (hc := hcn) (cl := cl) (e := (-2)) (J := J) hS.2.2.1.2.2.2.2 hr ⟨hst.1, hst.2, hSn.2.2.1⟩ ⟨hSn.2.2.2.2.1, hSn.2.2.2.2.2⟩
  obtain ⟨R, hR⟩ : ∃ R, (seekA F c n may hcn cl (-2) st J) = R := ⟨_, rfl⟩
  rw [hR] at hinv
  refine V_ld (pc := 0) dX10_ways_0 (v := vr 0) rfl rfl ?_
  refine V_getRv (pc := 1) dX10_ways_1 (o' := 9) fw_RX10_23 rfl (hL.t0) (hL.r0_1) ?_
  refine V_ld (pc := 4) dX10_ways_4 (v := vi st) rfl rfl ?_
  refine V_bipush (pc := 5) dX10_ways_5 (by unfold I32; omega) (by decide) ?_
  refine V_callV (pc := 7) dX10_ways_7 (F' := 7) (As := [vi st, vi (-2)]) (st := []) cw_RX10_154 rfl rfl (hL.t9) (by decide) (Nat.le_of_ble_eq_true rfl) (by omega) (z_seek P Q L F c n may hcn cl J m st (-2)   hS hr hl hst) ?_
  rintro _ m7 ⟨x7, rfl, hx7, hm7⟩ ok7 le7
  have hx7 : x7 = R.1 := hx7.trans (congrArg Prod.fst hR)
  have hm7 : CZ m m7 F R.2 := by rw [← hR]; exact hm7
  refine V_st (pc := 10) dX10_ways_10 (ls' := [(2, vi x7), (0, vr 0), (1, vi st)]) rfl (Nat.le_of_ble_eq_true rfl) rfl ?_
  refine V_ld (pc := 11) dX10_ways_11 (v := vi x7) rfl rfl ?_
  refine V_if_ge (pc := 12) dX10_ways_12 (tgt := 19) rfl (fun h12 => ?_) (fun h12 => ?_)
  · skip
    refine V_ld (pc := 19) dX10_ways_19 (v := vr 0) rfl rfl ?_
    refine V_getRv (pc := 20) dX10_ways_20 (o' := 9) fw_RX10_23 rfl ((CZ.lay hS hm7).t0) ((CZ.lay hS hm7).r0_1) ?_
    refine V_getIv (pc := 23) dX10_ways_23 (v := (R.2.1 11)) fw_RX10_166 rfl ((CZ.lay hS hm7).t9) (CZ.s hm7 (k := 11) (by decide)) (fun g23 => ?_)
    refine V_reti (pc := 26) dX10_ways_26 trivial ?_
    refine ⟨?_, by rw [hR]; exact hm7⟩
    rw [hR]
    unfold wasV
    first
      | (exfalso; omega)
      | (rw [if_pos (by omega)]; omega)
      | (rw [if_neg (by omega), if_pos (by omega)])
      | (rw [if_neg (by omega), if_neg (by omega), if_pos (by omega)])
      | (rw [if_neg (by omega), if_neg (by omega), if_neg (by omega)])
      | (rw [if_neg (by omega), if_neg (by omega)])
      | (rw [if_neg (by omega)])
  · skip
    refine V_ld (pc := 15) dX10_ways_15 (v := vi x7) rfl rfl ?_
    refine V_goto (pc := 16) dX10_ways_16 (tgt := 26) rfl ?_
    refine V_reti (pc := 26) dX10_ways_26 trivial ?_
    refine ⟨?_, by rw [hR]; exact hm7⟩
    rw [hR]
    unfold wasV
    first
      | (exfalso; omega)
      | (rw [if_pos (by omega)]; omega)
      | (rw [if_neg (by omega), if_pos (by omega)])
      | (rw [if_neg (by omega), if_neg (by omega), if_pos (by omega)])
      | (rw [if_neg (by omega), if_neg (by omega), if_neg (by omega)])
      | (rw [if_neg (by omega), if_neg (by omega)])
      | (rw [if_neg (by omega)])

set_option maxHeartbeats 4000000 in
theorem z_waysB (n : Int) (m : Mem) (st : Int)   (hL : Lay (mT m) (mR m)) (hn : mI m 2 1 = n ∧ 0 ≤ n ∧ n ≤ 32) (hst : ¬ (0 ≤ st ∧ st ≤ n)) : Ct μX10_ways 8 [vr 0, vi st] m (ri fun x_ m' => (x_ = -1) ∧ m = m') := by
  refine Ct_of_V rfl (by decide) rfl (Nat.le_of_ble_eq_true rfl) ?_
  show V μX10_ways 8 m _ 0 [(0, vr 0), (1, vi st)] [] m
  refine V_rg (k := 1) (x := st) rfl fun r_st => ?_
  refine V_ld (pc := 0) dX10_ways_0 (v := vr 0) rfl rfl ?_
  refine V_getRv (pc := 1) dX10_ways_1 (o' := 9) fw_RX10_23 rfl hL.t0 hL.r0_1 ?_
  refine V_ld (pc := 4) dX10_ways_4 (v := vi st) rfl rfl ?_
  refine V_bipush (pc := 5) dX10_ways_5 (by unfold I32; omega) (by decide) ?_
  refine V_callV (pc := 7) dX10_ways_7 (F' := 7) (As := [vi st, vi (-2)]) (st := []) cw_RX10_154 rfl rfl hL.t9 (by decide) (Nat.le_of_ble_eq_true rfl) (by omega) (z_seekB n m st (-2)   (by first | assumption | omega) hn (by omega)) ?_
  rintro _ _ ⟨x7, rfl, hx7, rfl⟩ ok7 le7
  refine V_st (pc := 10) dX10_ways_10 (ls' := [(2, vi x7), (0, vr 0), (1, vi st)]) rfl (Nat.le_of_ble_eq_true rfl) rfl ?_
  refine V_ld (pc := 11) dX10_ways_11 (v := vi x7) rfl rfl ?_
  refine V_if_ge (pc := 12) dX10_ways_12 (tgt := 19) rfl (fun h12 => ?_) (fun h12 => ?_)
  · skip
    refine V_ld (pc := 19) dX10_ways_19 (v := vr 0) rfl rfl ?_
    refine V_getRv (pc := 20) dX10_ways_20 (o' := 9) fw_RX10_23 rfl hL.t0 hL.r0_1 ?_
    refine V_getIv (pc := 23) dX10_ways_23 (v := mI m 9 11) fw_RX10_166 rfl hL.t9 rfl (fun g23 => ?_)
    refine V_reti (pc := 26) dX10_ways_26 trivial ?_
    first | (exfalso; omega) | exact ⟨by omega, rfl⟩
  · skip
    refine V_ld (pc := 15) dX10_ways_15 (v := vi x7) rfl rfl ?_
    refine V_goto (pc := 16) dX10_ways_16 (tgt := 26) rfl ?_
    refine V_reti (pc := 26) dX10_ways_26 trivial ?_
    first | (exfalso; omega) | exact ⟨by omega, rfl⟩

set_option maxHeartbeats 4000000 in
theorem z_waysN (n : Int) (m : Mem) (st : Int)   (hL : Lay (mT m) (mR m)) (hn : mI m 2 1 = n ∧ 0 ≤ n ∧ n ≤ 32) (hq : mR m 1 2 = none) (hst : 0 ≤ st ∧ st ≤ n) : Ct μX10_ways 8 [vr 0, vi st] m (ri fun x_ m' => (x_ = -3) ∧ m = m') := by
  refine Ct_of_V rfl (by decide) rfl (Nat.le_of_ble_eq_true rfl) ?_
  show V μX10_ways 8 m _ 0 [(0, vr 0), (1, vi st)] [] m
  refine V_rg (k := 1) (x := st) rfl fun r_st => ?_
  refine V_ld (pc := 0) dX10_ways_0 (v := vr 0) rfl rfl ?_
  refine V_getRv (pc := 1) dX10_ways_1 (o' := 9) fw_RX10_23 rfl hL.t0 hL.r0_1 ?_
  refine V_ld (pc := 4) dX10_ways_4 (v := vi st) rfl rfl ?_
  refine V_bipush (pc := 5) dX10_ways_5 (by unfold I32; omega) (by decide) ?_
  refine V_callV (pc := 7) dX10_ways_7 (F' := 7) (As := [vi st, vi (-2)]) (st := []) cw_RX10_154 rfl rfl hL.t9 (by decide) (Nat.le_of_ble_eq_true rfl) (by omega) (z_seekN n m st (-2)   (by first | assumption | omega) hn hq hst) ?_
  rintro _ _ ⟨x7, rfl, hx7, rfl⟩ ok7 le7
  refine V_st (pc := 10) dX10_ways_10 (ls' := [(2, vi x7), (0, vr 0), (1, vi st)]) rfl (Nat.le_of_ble_eq_true rfl) rfl ?_
  refine V_ld (pc := 11) dX10_ways_11 (v := vi x7) rfl rfl ?_
  refine V_if_ge (pc := 12) dX10_ways_12 (tgt := 19) rfl (fun h12 => ?_) (fun h12 => ?_)
  · skip
    refine V_ld (pc := 19) dX10_ways_19 (v := vr 0) rfl rfl ?_
    refine V_getRv (pc := 20) dX10_ways_20 (o' := 9) fw_RX10_23 rfl hL.t0 hL.r0_1 ?_
    refine V_getIv (pc := 23) dX10_ways_23 (v := mI m 9 11) fw_RX10_166 rfl hL.t9 rfl (fun g23 => ?_)
    refine V_reti (pc := 26) dX10_ways_26 trivial ?_
    first | (exfalso; omega) | exact ⟨by omega, rfl⟩
  · skip
    refine V_ld (pc := 15) dX10_ways_15 (v := vi x7) rfl rfl ?_
    refine V_goto (pc := 16) dX10_ways_16 (tgt := 26) rfl ?_
    refine V_reti (pc := 26) dX10_ways_26 trivial ?_
    first | (exfalso; omega) | exact ⟨by omega, rfl⟩

set_option maxHeartbeats 4000000 in
theorem z_spansS (P : Nat) (Q : Nat) (L : Nat) (F : Tb) (c : Nat) (n : Int) (may : Int) (hcn : Nat → CEnv → Int) (cl : Nat → Int) (J : SJ) (m : Mem) (st : Int) (w : Int)   (hS : SB m P Q L F c n may hcn cl) (hr : 1 ≤ c ∧ F (c - 1) 9 ≤ 6 ∧ F (c - 1) 10 ≤ 23) (hl : ∀ k, k < 32 → mI m 10 k = J.2.1 k) (hst : 0 ≤ st ∧ st ≤ n) (hw : w = 0 ∨ w = 1) : Ct μX10_spans 8 [vr 0, vi st, vi w] m (ri fun x_ m' => (x_ = spaV (seekA F c n may hcn cl (-2) st J) w) ∧ CZ m m' F (seekA F c n may hcn cl (-2) st J).2) := by
  refine Ct_of_V rfl (by decide) rfl (Nat.le_of_ble_eq_true rfl) ?_
  show V μX10_spans 8 m _ 0 [(0, vr 0), (1, vi st), (2, vi w)] [] m
  refine V_rg (k := 1) (x := st) rfl fun r_st => ?_
  refine V_rg (k := 2) (x := w) rfl fun r_w => ?_
  have hL := hS.1.1
  have hSn := hS.2.2.2.1
  have hinv := seekA_inv (hc := hcn) (cl := cl) (e := (-2)) (J := J) hS.2.2.1.2.2.2.2 hr ⟨hst.1, hst.2, hSn.2.2.1⟩ ⟨hSn.2.2.2.2.1, hSn.2.2.2.2.2⟩
  obtain ⟨R, hR⟩ : ∃ R, (seekA F c n may hcn cl (-2) st J) = R := ⟨_, rfl⟩
  rw [hR] at hinv
  refine V_ld (pc := 0) dX10_spans_0 (v := vi w) rfl rfl ?_
  refine V_if_eq (pc := 1) dX10_spans_1 (tgt := 11) rfl (fun h1 => ?_) (fun h1 => ?_)
  · skip
    refine V_ld (pc := 11) dX10_spans_11 (v := vr 0) rfl rfl ?_
    refine V_getRv (pc := 12) dX10_spans_12 (o' := 9) fw_RX10_23 rfl (hL.t0) (hL.r0_1) ?_
    refine V_ld (pc := 15) dX10_spans_15 (v := vi st) rfl rfl ?_
    refine V_bipush (pc := 16) dX10_spans_16 (by unfold I32; omega) (by decide) ?_
    refine V_callV (pc := 18) dX10_spans_18 (F' := 7) (As := [vi st, vi (-2)]) (st := []) cw_RX10_154 rfl rfl (hL.t9) (by decide) (Nat.le_of_ble_eq_true rfl) (by omega) (z_seek P Q L F c n may hcn cl J m st (-2)   hS hr hl hst) ?_
    rintro _ m18 ⟨x18, rfl, hx18, hm18⟩ ok18 le18
    have hx18 : x18 = R.1 := hx18.trans (congrArg Prod.fst hR)
    have hm18 : CZ m m18 F R.2 := by rw [← hR]; exact hm18
    refine V_st (pc := 21) dX10_spans_21 (ls' := [(3, vi x18), (0, vr 0), (1, vi st), (2, vi w)]) rfl (Nat.le_of_ble_eq_true rfl) rfl ?_
    refine V_ld (pc := 22) dX10_spans_22 (v := vi x18) rfl rfl ?_
    refine V_if_ge (pc := 23) dX10_spans_23 (tgt := 28) rfl (fun h23 => ?_) (fun h23 => ?_)
    · skip
      refine V_ld (pc := 28) dX10_spans_28 (v := vr 0) rfl rfl ?_
      refine V_getRv (pc := 29) dX10_spans_29 (o' := 9) fw_RX10_23 rfl ((CZ.lay hS hm18).t0) ((CZ.lay hS hm18).r0_1) ?_
      refine V_getIv (pc := 32) dX10_spans_32 (v := (R.2.1 11)) fw_RX10_166 rfl ((CZ.lay hS hm18).t9) (CZ.s hm18 (k := 11) (by decide)) (fun g32 => ?_)
      refine V_if_ne (pc := 35) dX10_spans_35 (tgt := 41) rfl (fun h35 => ?_) (fun h35 => ?_)
      · skip
        refine V_ld (pc := 41) dX10_spans_41 (v := vi w) rfl rfl ?_
        refine V_if_ne (pc := 42) dX10_spans_42 (tgt := 55) rfl (fun h42 => ?_) (fun h42 => ?_)
        · skip
          refine V_ld (pc := 55) dX10_spans_55 (v := vr 0) rfl rfl ?_
          refine V_getRv (pc := 56) dX10_spans_56 (o' := 9) fw_RX10_23 rfl ((CZ.lay hS hm18).t0) ((CZ.lay hS hm18).r0_1) ?_
          refine V_getIv (pc := 59) dX10_spans_59 (v := (R.2.1 13)) fw_RX10_172 rfl ((CZ.lay hS hm18).t9) (CZ.s hm18 (k := 13) (by decide)) (fun g59 => ?_)
          refine V_reti (pc := 62) dX10_spans_62 trivial ?_
          refine ⟨?_, by rw [hR]; exact hm18⟩
          rw [hR]
          unfold spaV
          first
            | (exfalso; omega)
            | (rw [if_pos (by omega)]; omega)
            | (rw [if_neg (by omega), if_pos (by omega)])
            | (rw [if_neg (by omega), if_neg (by omega), if_pos (by omega)])
            | (rw [if_neg (by omega), if_neg (by omega), if_neg (by omega)])
            | (rw [if_neg (by omega), if_neg (by omega)])
            | (rw [if_neg (by omega)])
        · skip
          refine V_ld (pc := 45) dX10_spans_45 (v := vr 0) rfl rfl ?_
          refine V_getRv (pc := 46) dX10_spans_46 (o' := 9) fw_RX10_23 rfl ((CZ.lay hS hm18).t0) ((CZ.lay hS hm18).r0_1) ?_
          refine V_getIv (pc := 49) dX10_spans_49 (v := (R.2.1 12)) fw_RX10_169 rfl ((CZ.lay hS hm18).t9) (CZ.s hm18 (k := 12) (by decide)) (fun g49 => ?_)
          refine V_goto (pc := 52) dX10_spans_52 (tgt := 62) rfl ?_
          refine V_reti (pc := 62) dX10_spans_62 trivial ?_
          refine ⟨?_, by rw [hR]; exact hm18⟩
          rw [hR]
          unfold spaV
          first
            | (exfalso; omega)
            | (rw [if_pos (by omega)]; omega)
            | (rw [if_neg (by omega), if_pos (by omega)])
            | (rw [if_neg (by omega), if_neg (by omega), if_pos (by omega)])
            | (rw [if_neg (by omega), if_neg (by omega), if_neg (by omega)])
            | (rw [if_neg (by omega), if_neg (by omega)])
            | (rw [if_neg (by omega)])
      · skip
        refine V_bipush (pc := 38) dX10_spans_38 (by unfold I32; omega) (by decide) ?_
        refine V_reti (pc := 40) dX10_spans_40 trivial ?_
        refine ⟨?_, by rw [hR]; exact hm18⟩
        rw [hR]
        unfold spaV
        first
          | (exfalso; omega)
          | (rw [if_pos (by omega)]; omega)
          | (rw [if_neg (by omega), if_pos (by omega)])
          | (rw [if_neg (by omega), if_neg (by omega), if_pos (by omega)])
          | (rw [if_neg (by omega), if_neg (by omega), if_neg (by omega)])
          | (rw [if_neg (by omega), if_neg (by omega)])
          | (rw [if_neg (by omega)])
    · skip
      refine V_ld (pc := 26) dX10_spans_26 (v := vi x18) rfl rfl ?_
      refine V_reti (pc := 27) dX10_spans_27 trivial ?_
      refine ⟨?_, by rw [hR]; exact hm18⟩
      rw [hR]
      unfold spaV
      first
        | (exfalso; omega)
        | (rw [if_pos (by omega)]; omega)
        | (rw [if_neg (by omega), if_pos (by omega)])
        | (rw [if_neg (by omega), if_neg (by omega), if_pos (by omega)])
        | (rw [if_neg (by omega), if_neg (by omega), if_neg (by omega)])
        | (rw [if_neg (by omega), if_neg (by omega)])
        | (rw [if_neg (by omega)])
  · skip
    refine V_ld (pc := 4) dX10_spans_4 (v := vi w) rfl rfl ?_
    refine V_iconst (pc := 5) dX10_spans_5 (by unfold I32; omega) ?_
    refine V_icmp_eq (pc := 6) dX10_spans_6 (tgt := 11) rfl (fun h6 => ?_) (fun h6 => ?_)
    · skip
      refine V_ld (pc := 11) dX10_spans_11 (v := vr 0) rfl rfl ?_
      refine V_getRv (pc := 12) dX10_spans_12 (o' := 9) fw_RX10_23 rfl (hL.t0) (hL.r0_1) ?_
      refine V_ld (pc := 15) dX10_spans_15 (v := vi st) rfl rfl ?_
      refine V_bipush (pc := 16) dX10_spans_16 (by unfold I32; omega) (by decide) ?_
      refine V_callV (pc := 18) dX10_spans_18 (F' := 7) (As := [vi st, vi (-2)]) (st := []) cw_RX10_154 rfl rfl (hL.t9) (by decide) (Nat.le_of_ble_eq_true rfl) (by omega) (z_seek P Q L F c n may hcn cl J m st (-2)   hS hr hl hst) ?_
      rintro _ m18 ⟨x18, rfl, hx18, hm18⟩ ok18 le18
      have hx18 : x18 = R.1 := hx18.trans (congrArg Prod.fst hR)
      have hm18 : CZ m m18 F R.2 := by rw [← hR]; exact hm18
      refine V_st (pc := 21) dX10_spans_21 (ls' := [(3, vi x18), (0, vr 0), (1, vi st), (2, vi w)]) rfl (Nat.le_of_ble_eq_true rfl) rfl ?_
      refine V_ld (pc := 22) dX10_spans_22 (v := vi x18) rfl rfl ?_
      refine V_if_ge (pc := 23) dX10_spans_23 (tgt := 28) rfl (fun h23 => ?_) (fun h23 => ?_)
      · skip
        refine V_ld (pc := 28) dX10_spans_28 (v := vr 0) rfl rfl ?_
        refine V_getRv (pc := 29) dX10_spans_29 (o' := 9) fw_RX10_23 rfl ((CZ.lay hS hm18).t0) ((CZ.lay hS hm18).r0_1) ?_
        refine V_getIv (pc := 32) dX10_spans_32 (v := (R.2.1 11)) fw_RX10_166 rfl ((CZ.lay hS hm18).t9) (CZ.s hm18 (k := 11) (by decide)) (fun g32 => ?_)
        refine V_if_ne (pc := 35) dX10_spans_35 (tgt := 41) rfl (fun h35 => ?_) (fun h35 => ?_)
        · skip
          refine V_ld (pc := 41) dX10_spans_41 (v := vi w) rfl rfl ?_
          refine V_if_ne (pc := 42) dX10_spans_42 (tgt := 55) rfl (fun h42 => ?_) (fun h42 => ?_)
          · skip
            refine V_ld (pc := 55) dX10_spans_55 (v := vr 0) rfl rfl ?_
            refine V_getRv (pc := 56) dX10_spans_56 (o' := 9) fw_RX10_23 rfl ((CZ.lay hS hm18).t0) ((CZ.lay hS hm18).r0_1) ?_
            refine V_getIv (pc := 59) dX10_spans_59 (v := (R.2.1 13)) fw_RX10_172 rfl ((CZ.lay hS hm18).t9) (CZ.s hm18 (k := 13) (by decide)) (fun g59 => ?_)
            refine V_reti (pc := 62) dX10_spans_62 trivial ?_
            refine ⟨?_, by rw [hR]; exact hm18⟩
            rw [hR]
            unfold spaV
            first
              | (exfalso; omega)
              | (rw [if_pos (by omega)]; omega)
              | (rw [if_neg (by omega), if_pos (by omega)])
              | (rw [if_neg (by omega), if_neg (by omega), if_pos (by omega)])
              | (rw [if_neg (by omega), if_neg (by omega), if_neg (by omega)])
              | (rw [if_neg (by omega), if_neg (by omega)])
              | (rw [if_neg (by omega)])
          · skip
            refine V_ld (pc := 45) dX10_spans_45 (v := vr 0) rfl rfl ?_
            refine V_getRv (pc := 46) dX10_spans_46 (o' := 9) fw_RX10_23 rfl ((CZ.lay hS hm18).t0) ((CZ.lay hS hm18).r0_1) ?_
            refine V_getIv (pc := 49) dX10_spans_49 (v := (R.2.1 12)) fw_RX10_169 rfl ((CZ.lay hS hm18).t9) (CZ.s hm18 (k := 12) (by decide)) (fun g49 => ?_)
            refine V_goto (pc := 52) dX10_spans_52 (tgt := 62) rfl ?_
            refine V_reti (pc := 62) dX10_spans_62 trivial ?_
            refine ⟨?_, by rw [hR]; exact hm18⟩
            rw [hR]
            unfold spaV
            first
              | (exfalso; omega)
              | (rw [if_pos (by omega)]; omega)
              | (rw [if_neg (by omega), if_pos (by omega)])
              | (rw [if_neg (by omega), if_neg (by omega), if_pos (by omega)])
              | (rw [if_neg (by omega), if_neg (by omega), if_neg (by omega)])
              | (rw [if_neg (by omega), if_neg (by omega)])
              | (rw [if_neg (by omega)])
        · skip
          refine V_bipush (pc := 38) dX10_spans_38 (by unfold I32; omega) (by decide) ?_
          refine V_reti (pc := 40) dX10_spans_40 trivial ?_
          refine ⟨?_, by rw [hR]; exact hm18⟩
          rw [hR]
          unfold spaV
          first
            | (exfalso; omega)
            | (rw [if_pos (by omega)]; omega)
            | (rw [if_neg (by omega), if_pos (by omega)])
            | (rw [if_neg (by omega), if_neg (by omega), if_pos (by omega)])
            | (rw [if_neg (by omega), if_neg (by omega), if_neg (by omega)])
            | (rw [if_neg (by omega), if_neg (by omega)])
            | (rw [if_neg (by omega)])
      · skip
        refine V_ld (pc := 26) dX10_spans_26 (v := vi x18) rfl rfl ?_
        refine V_reti (pc := 27) dX10_spans_27 trivial ?_
        refine ⟨?_, by rw [hR]; exact hm18⟩
        rw [hR]
        unfold spaV
        first
          | (exfalso; omega)
          | (rw [if_pos (by omega)]; omega)
          | (rw [if_neg (by omega), if_pos (by omega)])
          | (rw [if_neg (by omega), if_neg (by omega), if_pos (by omega)])
          | (rw [if_neg (by omega), if_neg (by omega), if_neg (by omega)])
          | (rw [if_neg (by omega), if_neg (by omega)])
          | (rw [if_neg (by omega)])
    · skip
      refine V_iconst (pc := 9) dX10_spans_9 (by unfold I32; omega) ?_
      refine V_reti (pc := 10) dX10_spans_10 trivial ?_
      exfalso; omega

set_option maxHeartbeats 4000000 in
theorem z_spansB (n : Int) (m : Mem) (st : Int) (w : Int)   (hL : Lay (mT m) (mR m)) (hn : mI m 2 1 = n ∧ 0 ≤ n ∧ n ≤ 32) (hst : ¬ (0 ≤ st ∧ st ≤ n) ∨ w ≠ 0 ∧ w ≠ 1) : Ct μX10_spans 8 [vr 0, vi st, vi w] m (ri fun x_ m' => (x_ = -1) ∧ m = m') := by
  refine Ct_of_V rfl (by decide) rfl (Nat.le_of_ble_eq_true rfl) ?_
  show V μX10_spans 8 m _ 0 [(0, vr 0), (1, vi st), (2, vi w)] [] m
  refine V_rg (k := 1) (x := st) rfl fun r_st => ?_
  refine V_rg (k := 2) (x := w) rfl fun r_w => ?_
  refine V_ld (pc := 0) dX10_spans_0 (v := vi w) rfl rfl ?_
  refine V_if_eq (pc := 1) dX10_spans_1 (tgt := 11) rfl (fun h1 => ?_) (fun h1 => ?_)
  · skip
    refine V_ld (pc := 11) dX10_spans_11 (v := vr 0) rfl rfl ?_
    refine V_getRv (pc := 12) dX10_spans_12 (o' := 9) fw_RX10_23 rfl hL.t0 hL.r0_1 ?_
    refine V_ld (pc := 15) dX10_spans_15 (v := vi st) rfl rfl ?_
    refine V_bipush (pc := 16) dX10_spans_16 (by unfold I32; omega) (by decide) ?_
    refine V_callV (pc := 18) dX10_spans_18 (F' := 7) (As := [vi st, vi (-2)]) (st := []) cw_RX10_154 rfl rfl hL.t9 (by decide) (Nat.le_of_ble_eq_true rfl) (by omega) (z_seekB n m st (-2)   (by first | assumption | omega) hn (by omega)) ?_
    rintro _ _ ⟨x18, rfl, hx18, rfl⟩ ok18 le18
    refine V_st (pc := 21) dX10_spans_21 (ls' := [(3, vi x18), (0, vr 0), (1, vi st), (2, vi w)]) rfl (Nat.le_of_ble_eq_true rfl) rfl ?_
    refine V_ld (pc := 22) dX10_spans_22 (v := vi x18) rfl rfl ?_
    refine V_if_ge (pc := 23) dX10_spans_23 (tgt := 28) rfl (fun h23 => ?_) (fun h23 => ?_)
    · skip
      refine V_ld (pc := 28) dX10_spans_28 (v := vr 0) rfl rfl ?_
      refine V_getRv (pc := 29) dX10_spans_29 (o' := 9) fw_RX10_23 rfl hL.t0 hL.r0_1 ?_
      refine V_getIv (pc := 32) dX10_spans_32 (v := mI m 9 11) fw_RX10_166 rfl hL.t9 rfl (fun g32 => ?_)
      refine V_if_ne (pc := 35) dX10_spans_35 (tgt := 41) rfl (fun h35 => ?_) (fun h35 => ?_)
      · skip
        refine V_ld (pc := 41) dX10_spans_41 (v := vi w) rfl rfl ?_
        refine V_if_ne (pc := 42) dX10_spans_42 (tgt := 55) rfl (fun h42 => ?_) (fun h42 => ?_)
        · skip
          refine V_ld (pc := 55) dX10_spans_55 (v := vr 0) rfl rfl ?_
          refine V_getRv (pc := 56) dX10_spans_56 (o' := 9) fw_RX10_23 rfl hL.t0 hL.r0_1 ?_
          refine V_getIv (pc := 59) dX10_spans_59 (v := mI m 9 13) fw_RX10_172 rfl hL.t9 rfl (fun g59 => ?_)
          refine V_reti (pc := 62) dX10_spans_62 trivial ?_
          first | (exfalso; omega) | exact ⟨by omega, rfl⟩
        · skip
          refine V_ld (pc := 45) dX10_spans_45 (v := vr 0) rfl rfl ?_
          refine V_getRv (pc := 46) dX10_spans_46 (o' := 9) fw_RX10_23 rfl hL.t0 hL.r0_1 ?_
          refine V_getIv (pc := 49) dX10_spans_49 (v := mI m 9 12) fw_RX10_169 rfl hL.t9 rfl (fun g49 => ?_)
          refine V_goto (pc := 52) dX10_spans_52 (tgt := 62) rfl ?_
          refine V_reti (pc := 62) dX10_spans_62 trivial ?_
          first | (exfalso; omega) | exact ⟨by omega, rfl⟩
      · skip
        refine V_bipush (pc := 38) dX10_spans_38 (by unfold I32; omega) (by decide) ?_
        refine V_reti (pc := 40) dX10_spans_40 trivial ?_
        first | (exfalso; omega) | exact ⟨by omega, rfl⟩
    · skip
      refine V_ld (pc := 26) dX10_spans_26 (v := vi x18) rfl rfl ?_
      refine V_reti (pc := 27) dX10_spans_27 trivial ?_
      first | (exfalso; omega) | exact ⟨by omega, rfl⟩
  · skip
    refine V_ld (pc := 4) dX10_spans_4 (v := vi w) rfl rfl ?_
    refine V_iconst (pc := 5) dX10_spans_5 (by unfold I32; omega) ?_
    refine V_icmp_eq (pc := 6) dX10_spans_6 (tgt := 11) rfl (fun h6 => ?_) (fun h6 => ?_)
    · skip
      refine V_ld (pc := 11) dX10_spans_11 (v := vr 0) rfl rfl ?_
      refine V_getRv (pc := 12) dX10_spans_12 (o' := 9) fw_RX10_23 rfl hL.t0 hL.r0_1 ?_
      refine V_ld (pc := 15) dX10_spans_15 (v := vi st) rfl rfl ?_
      refine V_bipush (pc := 16) dX10_spans_16 (by unfold I32; omega) (by decide) ?_
      refine V_callV (pc := 18) dX10_spans_18 (F' := 7) (As := [vi st, vi (-2)]) (st := []) cw_RX10_154 rfl rfl hL.t9 (by decide) (Nat.le_of_ble_eq_true rfl) (by omega) (z_seekB n m st (-2)   (by first | assumption | omega) hn (by omega)) ?_
      rintro _ _ ⟨x18, rfl, hx18, rfl⟩ ok18 le18
      refine V_st (pc := 21) dX10_spans_21 (ls' := [(3, vi x18), (0, vr 0), (1, vi st), (2, vi w)]) rfl (Nat.le_of_ble_eq_true rfl) rfl ?_
      refine V_ld (pc := 22) dX10_spans_22 (v := vi x18) rfl rfl ?_
      refine V_if_ge (pc := 23) dX10_spans_23 (tgt := 28) rfl (fun h23 => ?_) (fun h23 => ?_)
      · skip
        refine V_ld (pc := 28) dX10_spans_28 (v := vr 0) rfl rfl ?_
        refine V_getRv (pc := 29) dX10_spans_29 (o' := 9) fw_RX10_23 rfl hL.t0 hL.r0_1 ?_
        refine V_getIv (pc := 32) dX10_spans_32 (v := mI m 9 11) fw_RX10_166 rfl hL.t9 rfl (fun g32 => ?_)
        refine V_if_ne (pc := 35) dX10_spans_35 (tgt := 41) rfl (fun h35 => ?_) (fun h35 => ?_)
        · skip
          refine V_ld (pc := 41) dX10_spans_41 (v := vi w) rfl rfl ?_
          refine V_if_ne (pc := 42) dX10_spans_42 (tgt := 55) rfl (fun h42 => ?_) (fun h42 => ?_)
          · skip
            refine V_ld (pc := 55) dX10_spans_55 (v := vr 0) rfl rfl ?_
            refine V_getRv (pc := 56) dX10_spans_56 (o' := 9) fw_RX10_23 rfl hL.t0 hL.r0_1 ?_
            refine V_getIv (pc := 59) dX10_spans_59 (v := mI m 9 13) fw_RX10_172 rfl hL.t9 rfl (fun g59 => ?_)
            refine V_reti (pc := 62) dX10_spans_62 trivial ?_
            first | (exfalso; omega) | exact ⟨by omega, rfl⟩
          · skip
            refine V_ld (pc := 45) dX10_spans_45 (v := vr 0) rfl rfl ?_
            refine V_getRv (pc := 46) dX10_spans_46 (o' := 9) fw_RX10_23 rfl hL.t0 hL.r0_1 ?_
            refine V_getIv (pc := 49) dX10_spans_49 (v := mI m 9 12) fw_RX10_169 rfl hL.t9 rfl (fun g49 => ?_)
            refine V_goto (pc := 52) dX10_spans_52 (tgt := 62) rfl ?_
            refine V_reti (pc := 62) dX10_spans_62 trivial ?_
            first | (exfalso; omega) | exact ⟨by omega, rfl⟩
        · skip
          refine V_bipush (pc := 38) dX10_spans_38 (by unfold I32; omega) (by decide) ?_
          refine V_reti (pc := 40) dX10_spans_40 trivial ?_
          first | (exfalso; omega) | exact ⟨by omega, rfl⟩
      · skip
        refine V_ld (pc := 26) dX10_spans_26 (v := vi x18) rfl rfl ?_
        refine V_reti (pc := 27) dX10_spans_27 trivial ?_
        first | (exfalso; omega) | exact ⟨by omega, rfl⟩
    · skip
      refine V_iconst (pc := 9) dX10_spans_9 (by unfold I32; omega) ?_
      refine V_reti (pc := 10) dX10_spans_10 trivial ?_
      first | (exfalso; omega) | exact ⟨by omega, rfl⟩

set_option maxHeartbeats 4000000 in
theorem z_spansN (n : Int) (m : Mem) (st : Int) (w : Int)   (hL : Lay (mT m) (mR m)) (hn : mI m 2 1 = n ∧ 0 ≤ n ∧ n ≤ 32) (hq : mR m 1 2 = none) (hst : 0 ≤ st ∧ st ≤ n) (hw : w = 0 ∨ w = 1) : Ct μX10_spans 8 [vr 0, vi st, vi w] m (ri fun x_ m' => (x_ = -3) ∧ m = m') := by
  refine Ct_of_V rfl (by decide) rfl (Nat.le_of_ble_eq_true rfl) ?_
  show V μX10_spans 8 m _ 0 [(0, vr 0), (1, vi st), (2, vi w)] [] m
  refine V_rg (k := 1) (x := st) rfl fun r_st => ?_
  refine V_rg (k := 2) (x := w) rfl fun r_w => ?_
  refine V_ld (pc := 0) dX10_spans_0 (v := vi w) rfl rfl ?_
  refine V_if_eq (pc := 1) dX10_spans_1 (tgt := 11) rfl (fun h1 => ?_) (fun h1 => ?_)
  · skip
    refine V_ld (pc := 11) dX10_spans_11 (v := vr 0) rfl rfl ?_
    refine V_getRv (pc := 12) dX10_spans_12 (o' := 9) fw_RX10_23 rfl hL.t0 hL.r0_1 ?_
    refine V_ld (pc := 15) dX10_spans_15 (v := vi st) rfl rfl ?_
    refine V_bipush (pc := 16) dX10_spans_16 (by unfold I32; omega) (by decide) ?_
    refine V_callV (pc := 18) dX10_spans_18 (F' := 7) (As := [vi st, vi (-2)]) (st := []) cw_RX10_154 rfl rfl hL.t9 (by decide) (Nat.le_of_ble_eq_true rfl) (by omega) (z_seekN n m st (-2)   (by first | assumption | omega) hn hq hst) ?_
    rintro _ _ ⟨x18, rfl, hx18, rfl⟩ ok18 le18
    refine V_st (pc := 21) dX10_spans_21 (ls' := [(3, vi x18), (0, vr 0), (1, vi st), (2, vi w)]) rfl (Nat.le_of_ble_eq_true rfl) rfl ?_
    refine V_ld (pc := 22) dX10_spans_22 (v := vi x18) rfl rfl ?_
    refine V_if_ge (pc := 23) dX10_spans_23 (tgt := 28) rfl (fun h23 => ?_) (fun h23 => ?_)
    · skip
      refine V_ld (pc := 28) dX10_spans_28 (v := vr 0) rfl rfl ?_
      refine V_getRv (pc := 29) dX10_spans_29 (o' := 9) fw_RX10_23 rfl hL.t0 hL.r0_1 ?_
      refine V_getIv (pc := 32) dX10_spans_32 (v := mI m 9 11) fw_RX10_166 rfl hL.t9 rfl (fun g32 => ?_)
      refine V_if_ne (pc := 35) dX10_spans_35 (tgt := 41) rfl (fun h35 => ?_) (fun h35 => ?_)
      · skip
        refine V_ld (pc := 41) dX10_spans_41 (v := vi w) rfl rfl ?_
        refine V_if_ne (pc := 42) dX10_spans_42 (tgt := 55) rfl (fun h42 => ?_) (fun h42 => ?_)
        · skip
          refine V_ld (pc := 55) dX10_spans_55 (v := vr 0) rfl rfl ?_
          refine V_getRv (pc := 56) dX10_spans_56 (o' := 9) fw_RX10_23 rfl hL.t0 hL.r0_1 ?_
          refine V_getIv (pc := 59) dX10_spans_59 (v := mI m 9 13) fw_RX10_172 rfl hL.t9 rfl (fun g59 => ?_)
          refine V_reti (pc := 62) dX10_spans_62 trivial ?_
          first | (exfalso; omega) | exact ⟨by omega, rfl⟩
        · skip
          refine V_ld (pc := 45) dX10_spans_45 (v := vr 0) rfl rfl ?_
          refine V_getRv (pc := 46) dX10_spans_46 (o' := 9) fw_RX10_23 rfl hL.t0 hL.r0_1 ?_
          refine V_getIv (pc := 49) dX10_spans_49 (v := mI m 9 12) fw_RX10_169 rfl hL.t9 rfl (fun g49 => ?_)
          refine V_goto (pc := 52) dX10_spans_52 (tgt := 62) rfl ?_
          refine V_reti (pc := 62) dX10_spans_62 trivial ?_
          first | (exfalso; omega) | exact ⟨by omega, rfl⟩
      · skip
        refine V_bipush (pc := 38) dX10_spans_38 (by unfold I32; omega) (by decide) ?_
        refine V_reti (pc := 40) dX10_spans_40 trivial ?_
        first | (exfalso; omega) | exact ⟨by omega, rfl⟩
    · skip
      refine V_ld (pc := 26) dX10_spans_26 (v := vi x18) rfl rfl ?_
      refine V_reti (pc := 27) dX10_spans_27 trivial ?_
      first | (exfalso; omega) | exact ⟨by omega, rfl⟩
  · skip
    refine V_ld (pc := 4) dX10_spans_4 (v := vi w) rfl rfl ?_
    refine V_iconst (pc := 5) dX10_spans_5 (by unfold I32; omega) ?_
    refine V_icmp_eq (pc := 6) dX10_spans_6 (tgt := 11) rfl (fun h6 => ?_) (fun h6 => ?_)
    · skip
      refine V_ld (pc := 11) dX10_spans_11 (v := vr 0) rfl rfl ?_
      refine V_getRv (pc := 12) dX10_spans_12 (o' := 9) fw_RX10_23 rfl hL.t0 hL.r0_1 ?_
      refine V_ld (pc := 15) dX10_spans_15 (v := vi st) rfl rfl ?_
      refine V_bipush (pc := 16) dX10_spans_16 (by unfold I32; omega) (by decide) ?_
      refine V_callV (pc := 18) dX10_spans_18 (F' := 7) (As := [vi st, vi (-2)]) (st := []) cw_RX10_154 rfl rfl hL.t9 (by decide) (Nat.le_of_ble_eq_true rfl) (by omega) (z_seekN n m st (-2)   (by first | assumption | omega) hn hq hst) ?_
      rintro _ _ ⟨x18, rfl, hx18, rfl⟩ ok18 le18
      refine V_st (pc := 21) dX10_spans_21 (ls' := [(3, vi x18), (0, vr 0), (1, vi st), (2, vi w)]) rfl (Nat.le_of_ble_eq_true rfl) rfl ?_
      refine V_ld (pc := 22) dX10_spans_22 (v := vi x18) rfl rfl ?_
      refine V_if_ge (pc := 23) dX10_spans_23 (tgt := 28) rfl (fun h23 => ?_) (fun h23 => ?_)
      · skip
        refine V_ld (pc := 28) dX10_spans_28 (v := vr 0) rfl rfl ?_
        refine V_getRv (pc := 29) dX10_spans_29 (o' := 9) fw_RX10_23 rfl hL.t0 hL.r0_1 ?_
        refine V_getIv (pc := 32) dX10_spans_32 (v := mI m 9 11) fw_RX10_166 rfl hL.t9 rfl (fun g32 => ?_)
        refine V_if_ne (pc := 35) dX10_spans_35 (tgt := 41) rfl (fun h35 => ?_) (fun h35 => ?_)
        · skip
          refine V_ld (pc := 41) dX10_spans_41 (v := vi w) rfl rfl ?_
          refine V_if_ne (pc := 42) dX10_spans_42 (tgt := 55) rfl (fun h42 => ?_) (fun h42 => ?_)
          · skip
            refine V_ld (pc := 55) dX10_spans_55 (v := vr 0) rfl rfl ?_
            refine V_getRv (pc := 56) dX10_spans_56 (o' := 9) fw_RX10_23 rfl hL.t0 hL.r0_1 ?_
            refine V_getIv (pc := 59) dX10_spans_59 (v := mI m 9 13) fw_RX10_172 rfl hL.t9 rfl (fun g59 => ?_)
            refine V_reti (pc := 62) dX10_spans_62 trivial ?_
            first | (exfalso; omega) | exact ⟨by omega, rfl⟩
          · skip
            refine V_ld (pc := 45) dX10_spans_45 (v := vr 0) rfl rfl ?_
            refine V_getRv (pc := 46) dX10_spans_46 (o' := 9) fw_RX10_23 rfl hL.t0 hL.r0_1 ?_
            refine V_getIv (pc := 49) dX10_spans_49 (v := mI m 9 12) fw_RX10_169 rfl hL.t9 rfl (fun g49 => ?_)
            refine V_goto (pc := 52) dX10_spans_52 (tgt := 62) rfl ?_
            refine V_reti (pc := 62) dX10_spans_62 trivial ?_
            first | (exfalso; omega) | exact ⟨by omega, rfl⟩
        · skip
          refine V_bipush (pc := 38) dX10_spans_38 (by unfold I32; omega) (by decide) ?_
          refine V_reti (pc := 40) dX10_spans_40 trivial ?_
          first | (exfalso; omega) | exact ⟨by omega, rfl⟩
      · skip
        refine V_ld (pc := 26) dX10_spans_26 (v := vi x18) rfl rfl ?_
        refine V_reti (pc := 27) dX10_spans_27 trivial ?_
        first | (exfalso; omega) | exact ⟨by omega, rfl⟩
    · skip
      refine V_iconst (pc := 9) dX10_spans_9 (by unfold I32; omega) ?_
      refine V_reti (pc := 10) dX10_spans_10 trivial ?_
      first | (exfalso; omega) | exact ⟨by omega, rfl⟩

set_option maxHeartbeats 4000000 in
theorem z_fitsS (P : Nat) (Q : Nat) (L : Nat) (F : Tb) (c : Nat) (n : Int) (may : Int) (hcn : Nat → CEnv → Int) (cl : Nat → Int) (J : SJ) (m : Mem) (st : Int) (e : Int)   (hS : SB m P Q L F c n may hcn cl) (hr : 1 ≤ c ∧ F (c - 1) 9 ≤ 6 ∧ F (c - 1) 10 ≤ 23) (hl : ∀ k, k < 32 → mI m 10 k = J.2.1 k) (hst : 0 ≤ st ∧ st ≤ n) (hw : st ≤ e ∧ e ≤ n) : Ct μX10_fits 8 [vr 0, vi st, vi e] m (ri fun x_ m' => (x_ = (seekA F c n may hcn cl e st J).1) ∧ CZ m m' F (seekA F c n may hcn cl e st J).2) := by
  refine Ct_of_V rfl (by decide) rfl (Nat.le_of_ble_eq_true rfl) ?_
  show V μX10_fits 8 m _ 0 [(0, vr 0), (1, vi st), (2, vi e)] [] m
  refine V_rg (k := 1) (x := st) rfl fun r_st => ?_
  refine V_rg (k := 2) (x := e) rfl fun r_e => ?_
  have hL := hS.1.1
  have hSn := hS.2.2.2.1
  have hinv := seekA_inv (hc := hcn) (cl := cl) (e := e) (J := J) hS.2.2.1.2.2.2.2 hr ⟨hst.1, hst.2, hSn.2.2.1⟩ ⟨hSn.2.2.2.2.1, hSn.2.2.2.2.2⟩
  obtain ⟨R, hR⟩ : ∃ R, (seekA F c n may hcn cl e st J) = R := ⟨_, rfl⟩
  rw [hR] at hinv
  refine V_ld (pc := 0) dX10_fits_0 (v := vi e) rfl rfl ?_
  refine V_ld (pc := 1) dX10_fits_1 (v := vi st) rfl rfl ?_
  refine V_icmp_lt (pc := 2) dX10_fits_2 (tgt := 19) rfl (fun h2 => ?_) (fun h2 => ?_)
  · skip
    refine V_iconst (pc := 19) dX10_fits_19 (by unfold I32; omega) ?_
    refine V_goto (pc := 20) dX10_fits_20 (tgt := 32) rfl ?_
    refine V_reti (pc := 32) dX10_fits_32 trivial ?_
    exfalso; omega
  · skip
    refine V_ld (pc := 5) dX10_fits_5 (v := vi e) rfl rfl ?_
    refine V_ld (pc := 6) dX10_fits_6 (v := vr 0) rfl rfl ?_
    refine V_getRv (pc := 7) dX10_fits_7 (o' := 1) fw_RX10_12 rfl (hL.t0) (hL.r0_0) ?_
    refine V_getRv (pc := 10) dX10_fits_10 (o' := 2) fw_RX10_55 rfl (hL.t1) (hL.r1_0) ?_
    refine V_getIv (pc := 13) dX10_fits_13 (v := n) fw_RX10_59 rfl (hL.t2) hSn.1 (fun g13 => ?_)
    refine V_icmp_le (pc := 16) dX10_fits_16 (tgt := 23) rfl (fun h16 => ?_) (fun h16 => ?_)
    · skip
      refine V_ld (pc := 23) dX10_fits_23 (v := vr 0) rfl rfl ?_
      refine V_getRv (pc := 24) dX10_fits_24 (o' := 9) fw_RX10_23 rfl (hL.t0) (hL.r0_1) ?_
      refine V_ld (pc := 27) dX10_fits_27 (v := vi st) rfl rfl ?_
      refine V_ld (pc := 28) dX10_fits_28 (v := vi e) rfl rfl ?_
      refine V_callV (pc := 29) dX10_fits_29 (F' := 7) (As := [vi st, vi e]) (st := []) cw_RX10_154 rfl rfl (hL.t9) (by decide) (Nat.le_of_ble_eq_true rfl) (by omega) (z_seek P Q L F c n may hcn cl J m st e   hS hr hl hst) ?_
      rintro _ m29 ⟨x29, rfl, hx29, hm29⟩ ok29 le29
      have hx29 : x29 = R.1 := hx29.trans (congrArg Prod.fst hR)
      have hm29 : CZ m m29 F R.2 := by rw [← hR]; exact hm29
      refine V_reti (pc := 32) dX10_fits_32 trivial ?_
      refine ⟨?_, by rw [hR]; exact hm29⟩
      rw [hR]
      exact hx29
    · skip
      refine V_iconst (pc := 19) dX10_fits_19 (by unfold I32; omega) ?_
      refine V_goto (pc := 20) dX10_fits_20 (tgt := 32) rfl ?_
      refine V_reti (pc := 32) dX10_fits_32 trivial ?_
      exfalso; omega

set_option maxHeartbeats 4000000 in
theorem z_fitsB (n : Int) (m : Mem) (st : Int) (e : Int)   (hL : Lay (mT m) (mR m)) (hn : mI m 2 1 = n ∧ 0 ≤ n ∧ n ≤ 32) (hst : ¬ (0 ≤ st ∧ st ≤ n) ∨ e < st ∨ n < e) : Ct μX10_fits 8 [vr 0, vi st, vi e] m (ri fun x_ m' => (x_ = -1) ∧ m = m') := by
  refine Ct_of_V rfl (by decide) rfl (Nat.le_of_ble_eq_true rfl) ?_
  show V μX10_fits 8 m _ 0 [(0, vr 0), (1, vi st), (2, vi e)] [] m
  refine V_rg (k := 1) (x := st) rfl fun r_st => ?_
  refine V_rg (k := 2) (x := e) rfl fun r_e => ?_
  refine V_ld (pc := 0) dX10_fits_0 (v := vi e) rfl rfl ?_
  refine V_ld (pc := 1) dX10_fits_1 (v := vi st) rfl rfl ?_
  refine V_icmp_lt (pc := 2) dX10_fits_2 (tgt := 19) rfl (fun h2 => ?_) (fun h2 => ?_)
  · skip
    refine V_iconst (pc := 19) dX10_fits_19 (by unfold I32; omega) ?_
    refine V_goto (pc := 20) dX10_fits_20 (tgt := 32) rfl ?_
    refine V_reti (pc := 32) dX10_fits_32 trivial ?_
    first | (exfalso; omega) | exact ⟨by omega, rfl⟩
  · skip
    refine V_ld (pc := 5) dX10_fits_5 (v := vi e) rfl rfl ?_
    refine V_ld (pc := 6) dX10_fits_6 (v := vr 0) rfl rfl ?_
    refine V_getRv (pc := 7) dX10_fits_7 (o' := 1) fw_RX10_12 rfl hL.t0 hL.r0_0 ?_
    refine V_getRv (pc := 10) dX10_fits_10 (o' := 2) fw_RX10_55 rfl hL.t1 hL.r1_0 ?_
    refine V_getIv (pc := 13) dX10_fits_13 (v := n) fw_RX10_59 rfl hL.t2 hn.1 (fun g13 => ?_)
    refine V_icmp_le (pc := 16) dX10_fits_16 (tgt := 23) rfl (fun h16 => ?_) (fun h16 => ?_)
    · skip
      refine V_ld (pc := 23) dX10_fits_23 (v := vr 0) rfl rfl ?_
      refine V_getRv (pc := 24) dX10_fits_24 (o' := 9) fw_RX10_23 rfl hL.t0 hL.r0_1 ?_
      refine V_ld (pc := 27) dX10_fits_27 (v := vi st) rfl rfl ?_
      refine V_ld (pc := 28) dX10_fits_28 (v := vi e) rfl rfl ?_
      refine V_callV (pc := 29) dX10_fits_29 (F' := 7) (As := [vi st, vi e]) (st := []) cw_RX10_154 rfl rfl hL.t9 (by decide) (Nat.le_of_ble_eq_true rfl) (by omega) (z_seekB n m st e   (by first | assumption | omega) hn (by omega)) ?_
      rintro _ _ ⟨x29, rfl, hx29, rfl⟩ ok29 le29
      refine V_reti (pc := 32) dX10_fits_32 trivial ?_
      first | (exfalso; omega) | exact ⟨by omega, rfl⟩
    · skip
      refine V_iconst (pc := 19) dX10_fits_19 (by unfold I32; omega) ?_
      refine V_goto (pc := 20) dX10_fits_20 (tgt := 32) rfl ?_
      refine V_reti (pc := 32) dX10_fits_32 trivial ?_
      first | (exfalso; omega) | exact ⟨by omega, rfl⟩

set_option maxHeartbeats 4000000 in
theorem z_fitsN (n : Int) (m : Mem) (st : Int) (e : Int)   (hL : Lay (mT m) (mR m)) (hn : mI m 2 1 = n ∧ 0 ≤ n ∧ n ≤ 32) (hq : mR m 1 2 = none) (hst : 0 ≤ st ∧ st ≤ n) (hw : st ≤ e ∧ e ≤ n) : Ct μX10_fits 8 [vr 0, vi st, vi e] m (ri fun x_ m' => (x_ = -3) ∧ m = m') := by
  refine Ct_of_V rfl (by decide) rfl (Nat.le_of_ble_eq_true rfl) ?_
  show V μX10_fits 8 m _ 0 [(0, vr 0), (1, vi st), (2, vi e)] [] m
  refine V_rg (k := 1) (x := st) rfl fun r_st => ?_
  refine V_rg (k := 2) (x := e) rfl fun r_e => ?_
  refine V_ld (pc := 0) dX10_fits_0 (v := vi e) rfl rfl ?_
  refine V_ld (pc := 1) dX10_fits_1 (v := vi st) rfl rfl ?_
  refine V_icmp_lt (pc := 2) dX10_fits_2 (tgt := 19) rfl (fun h2 => ?_) (fun h2 => ?_)
  · skip
    refine V_iconst (pc := 19) dX10_fits_19 (by unfold I32; omega) ?_
    refine V_goto (pc := 20) dX10_fits_20 (tgt := 32) rfl ?_
    refine V_reti (pc := 32) dX10_fits_32 trivial ?_
    first | (exfalso; omega) | exact ⟨by omega, rfl⟩
  · skip
    refine V_ld (pc := 5) dX10_fits_5 (v := vi e) rfl rfl ?_
    refine V_ld (pc := 6) dX10_fits_6 (v := vr 0) rfl rfl ?_
    refine V_getRv (pc := 7) dX10_fits_7 (o' := 1) fw_RX10_12 rfl hL.t0 hL.r0_0 ?_
    refine V_getRv (pc := 10) dX10_fits_10 (o' := 2) fw_RX10_55 rfl hL.t1 hL.r1_0 ?_
    refine V_getIv (pc := 13) dX10_fits_13 (v := n) fw_RX10_59 rfl hL.t2 hn.1 (fun g13 => ?_)
    refine V_icmp_le (pc := 16) dX10_fits_16 (tgt := 23) rfl (fun h16 => ?_) (fun h16 => ?_)
    · skip
      refine V_ld (pc := 23) dX10_fits_23 (v := vr 0) rfl rfl ?_
      refine V_getRv (pc := 24) dX10_fits_24 (o' := 9) fw_RX10_23 rfl hL.t0 hL.r0_1 ?_
      refine V_ld (pc := 27) dX10_fits_27 (v := vi st) rfl rfl ?_
      refine V_ld (pc := 28) dX10_fits_28 (v := vi e) rfl rfl ?_
      refine V_callV (pc := 29) dX10_fits_29 (F' := 7) (As := [vi st, vi e]) (st := []) cw_RX10_154 rfl rfl hL.t9 (by decide) (Nat.le_of_ble_eq_true rfl) (by omega) (z_seekN n m st e   (by first | assumption | omega) hn hq hst) ?_
      rintro _ _ ⟨x29, rfl, hx29, rfl⟩ ok29 le29
      refine V_reti (pc := 32) dX10_fits_32 trivial ?_
      first | (exfalso; omega) | exact ⟨by omega, rfl⟩
    · skip
      refine V_iconst (pc := 19) dX10_fits_19 (by unfold I32; omega) ?_
      refine V_goto (pc := 20) dX10_fits_20 (tgt := 32) rfl ?_
      refine V_reti (pc := 32) dX10_fits_32 trivial ?_
      first | (exfalso; omega) | exact ⟨by omega, rfl⟩
