/-! first() .. fits() of the reference -/
def SrQ (I0 I' : Nat → Nat → Int) (r : Int × SJ) : Prop := ∃ x, SrR I0 I' r x

set_option maxHeartbeats 4000000 in
theorem y_wrong  (m : Mem) (st : Int)   (hL : Lay (mT m) (mR m)) : Ct μX11_wrong 1 [vr 30, vi st] m (ri fun x_ m' => ((0 ≤ st ∧ st ≤ mI m 31 64 → (mI m 31 65 = 0 → x_ = -3) ∧ (mI m 31 65 ≠ 0 → x_ = 0)) ∧ (¬ (0 ≤ st ∧ st ≤ mI m 31 64) → x_ = -1)) ∧ m = m') := by
  refine Ct_of_V rfl (by decide) rfl (Nat.le_of_ble_eq_true rfl) ?_
  show V μX11_wrong 1 m _ 0 [(0, vr 30), (1, vi st)] [] m
  refine V_rg (k := 1) (x := st) rfl fun r_st => ?_
  refine V_ld (pc := 0) dX11_wrong_0 (v := vi st) rfl rfl ?_
  refine V_i2l (pc := 1) dX11_wrong_1 ?_
  refine V_lconst (pc := 2) dX11_wrong_2 (x := 0) (by unfold I64; omega) (by decide) ?_
  refine V_ld (pc := 3) dX11_wrong_3 (v := vr 30) rfl rfl ?_
  refine V_callV (pc := 4) dX11_wrong_4 (F' := 0) (As := []) (st := [vl 0, vl st]) cw_RX11_97 rfl rfl hL.t30 (by decide) (Nat.le_of_ble_eq_true rfl) (by omega) (r_many  m    (by first | assumption | omega)) ?_
  rintro _ _ ⟨x4, rfl, hx4, rfl⟩ ok4 le4
  obtain rfl : x4 = mI m 31 64 := hx4.trans rfl
  refine V_i2l (pc := 7) dX11_wrong_7 ?_
  refine V_callS (pc := 8) dX11_wrong_8 (F' := 0) (As := [vl st, vl 0, vl (mI m 31 64)]) (st := []) cw_RX11_101 rfl rfl (Nat.le_of_ble_eq_true rfl) (by omega) (r_isIn  m st 0 (mI m 31 64)   ) ?_
  rintro _ _ ⟨x8, rfl, hx8, rfl⟩ ok8 le8
  refine V_if_ne (pc := 11) dX11_wrong_11 (tgt := 18) rfl (fun h11 => ?_) (fun h11 => ?_)
  · skip
    refine V_ld (pc := 18) dX11_wrong_18 (v := vr 30) rfl rfl ?_
    refine V_getRv (pc := 19) dX11_wrong_19 (o' := 31) fw_RX11_9 rfl hL.t30 hL.r30_0 ?_
    refine V_bipush (pc := 22) dX11_wrong_22 (by unfold I32; omega) (by decide) ?_
    refine V_ialdv (pc := 24) dX11_wrong_24 (v := mI m 31 65) hL.t31 (by omega) rfl (fun g24 => ?_)
    refine V_if_ne (pc := 25) dX11_wrong_25 (tgt := 33) rfl (fun h25 => ?_) (fun h25 => ?_)
    · skip
      refine V_iconst (pc := 33) dX11_wrong_33 (by unfold I32; omega) ?_
      refine V_reti (pc := 34) dX11_wrong_34 trivial ?_
      exact ⟨by omega, rfl⟩
    · skip
      refine V_bipush (pc := 28) dX11_wrong_28 (by unfold I32; omega) (by decide) ?_
      refine V_goto (pc := 30) dX11_wrong_30 (tgt := 34) rfl ?_
      refine V_reti (pc := 34) dX11_wrong_34 trivial ?_
      exact ⟨by omega, rfl⟩
  · skip
    refine V_iconst (pc := 14) dX11_wrong_14 (by unfold I32; omega) ?_
    refine V_goto (pc := 15) dX11_wrong_15 (tgt := 34) rfl ?_
    refine V_reti (pc := 34) dX11_wrong_34 trivial ?_
    exact ⟨by omega, rfl⟩

set_option maxHeartbeats 4000000 in
theorem y_firstS (tx : Nat → Int) (nt : Nat) (F : Tb) (c : Nat) (n : Int) (may : Int) (hcn : Nat → CEnv → Int) (cl : Nat → Int) (J : SJ) (m : Mem) (st : Int)   (hL : Lay (mT m) (mR m)) (ht : mI m 31 65 = (nt : Int) ∧ 0 < nt ∧ nt ≤ 120) (htx : txR (mI m) 31 66 tx nt ∧ PatW tx nt) (hFc : F = (altL tx nt 5 S0).2.2.2.2 ∧ c = (altL tx nt 5 S0).2.2.2.1) (hB : RB1 (mI m) n may hcn cl) (hl : (∀ k, mI m 45 k = J.2.1 k) ∧ (mI m 30 27 = 0 ∨ mI m 30 27 = 1)) (hst : 0 ≤ st ∧ st ≤ n) : Ct μX11_first 34 [vr 30, vi st] m (ri fun x_ m' => ∃ I_ : Nat → Nat → Int, wI m I_ = m' ∧ (x_ = firV (seekA F c n may hcn cl (-1) st J) st) ∧ SrQ (mI m) I_ (seekA F c n may hcn cl (-1) st J)) := by
  refine Ct_of_V rfl (by decide) rfl (Nat.le_of_ble_eq_true rfl) ?_
  show V μX11_first 34 m _ 0 [(0, vr 30), (1, vi st)] [] m
  refine V_rg (k := 1) (x := st) rfl fun r_st => ?_
  have hn64 := hB.1.1
  have hpw := pat_wf htx.2 F c (c - 1) hFc.1 hFc.2 rfl
  have hinv := seekA_inv (hc := hcn) (cl := cl) (e := (-1)) (st := st) (n := n) (may := may) (J := J) hpw.2.2.1 ⟨hpw.1, hpw.2.2.2.2.2.2.1, hpw.2.2.2.2.2.2.2⟩ ⟨hst.1, hst.2, hB.1.2.2.1⟩ ⟨hB.1.2.2.2.2.1, hB.1.2.2.2.2.2⟩
  obtain ⟨R, hR⟩ : ∃ R, (seekA F c n may hcn cl (-1) st J) = R := ⟨_, rfl⟩
  rw [hR] at hinv
  have hn3 := hB.1.2
  clear hpw
  refine V_ld (pc := 0) dX11_first_0 (v := vr 30) rfl rfl ?_
  refine V_ld (pc := 1) dX11_first_1 (v := vi st) rfl rfl ?_
  refine V_callV (pc := 2) dX11_first_2 (F' := 1) (As := [vi st]) (st := []) cw_RX11_355 rfl rfl hL.t30 (by decide) (Nat.le_of_ble_eq_true rfl) (by omega) (y_wrong  m st   (by first | assumption | omega)) ?_
  rintro _ _ ⟨x2, rfl, hx2, rfl⟩ ok2 le2
  refine V_st (pc := 5) dX11_first_5 (ls' := [(2, vi x2), (0, vr 30), (1, vi st)]) rfl (Nat.le_of_ble_eq_true rfl) rfl ?_
  refine V_ld (pc := 6) dX11_first_6 (v := vi x2) rfl rfl ?_
  refine V_if_eq (pc := 7) dX11_first_7 (tgt := 12) rfl (fun h7 => ?_) (fun h7 => ?_)
  · skip
    refine V_ld (pc := 12) dX11_first_12 (v := vr 30) rfl rfl ?_
    refine V_ld (pc := 13) dX11_first_13 (v := vi st) rfl rfl ?_
    refine V_iconst (pc := 14) dX11_first_14 (by unfold I32; omega) ?_
    refine V_callV (pc := 15) dX11_first_15 (F' := 33) (As := [vi st, vi (-1)]) (st := []) cw_RX11_358 rfl rfl hL.t30 (by decide) (Nat.le_of_ble_eq_true rfl) (by omega) (y_search tx nt F c n may hcn cl J m st (-1)   (by first | assumption | omega) ht htx hFc hB hl hst) ?_
    rintro _ _ ⟨x15, rfl, Ix15, rfl, hx15, hm15⟩ ok15 le15
    rw [hR] at hm15
    have hq : SrQ (mI m) Ix15 R := ⟨_, hm15⟩
    obtain ⟨-, hlt, -, hcase⟩ := hm15
    have hz : R.1 ≠ -7 → Ix15 30 40 = R.2.1 9 ∧ Ix15 30 39 = R.2.1 10 ∧ Ix15 30 41 = R.2.1 11 ∧ (R.2.1 11 = 0 → Ix15 30 42 = -5 ∧ Ix15 30 43 = -5) ∧ (R.2.1 11 ≠ 0 → Ix15 30 42 = R.2.1 12 ∧ Ix15 30 43 = R.2.1 13) := fun h_ => by
      rcases hcase with hc_ | hc_
      · exact absurd hc_.1 h_
      · obtain ⟨b1, b2, b3, b4, b5, b6, b7, b8⟩ := hc_.2.2.1
        exact ⟨b4, b5, b6, fun h2_ => ⟨(b7 h2_).1, (b7 h2_).2.1⟩, b8⟩
    have hc4 : (R.1 = -7 ∧ Ix15 30 44 = 1) ∨ (R.1 ≠ -7 ∧ Ix15 30 44 = 0 ∧ ((R.1 = 1 ∧ x15 = 1) ∨ (R.1 ≠ 1 ∧ x15 = 0))) := by
      rcases hcase with hc_ | hc_
      · exact Or.inl ⟨hc_.1, hc_.2.1⟩
      · refine Or.inr ⟨hc_.1, hc_.2.1, ?_⟩
        have h_ := hc_.2.2.2
        split at h_ <;> omega
    clear hcase
    refine V_st (pc := 18) dX11_first_18 (ls' := [(3, vi x15), (2, vi x2), (0, vr 30), (1, vi st)]) rfl (Nat.le_of_ble_eq_true rfl) rfl ?_
    refine V_ld (pc := 19) dX11_first_19 (v := vr 30) rfl rfl ?_
    refine V_getIv (pc := 20) dX11_first_20 (v := (Ix15 30 44)) fw_RX11_273 rfl hL.t30 rfl (fun g20 => ?_)
    refine V_if_eq (pc := 23) dX11_first_23 (tgt := 31) rfl (fun h23 => ?_) (fun h23 => ?_)
    · skip
      refine V_ld (pc := 31) dX11_first_31 (v := vi x15) rfl rfl ?_
      refine V_if_eq (pc := 32) dX11_first_32 (tgt := 44) rfl (fun h32 => ?_) (fun h32 => ?_)
      · skip
        refine V_bipush (pc := 44) dX11_first_44 (by unfold I32; omega) (by decide) ?_
        refine V_reti (pc := 46) dX11_first_46 trivial ?_
        refine ⟨Ix15, rfl, ?_, by rw [hR]; exact hq⟩
        rw [hR]
        unfold firV
        first
          | (exfalso; omega)
          | (rw [if_pos (by omega)] <;> omega)
          | (rw [if_neg (by omega), if_pos (by omega)] <;> omega)
          | (rw [if_neg (by omega), if_pos (by omega)])
          | (rw [if_neg (by omega), if_neg (by omega), if_pos (by omega)] <;> omega)
          | (rw [if_neg (by omega), if_neg (by omega), if_neg (by omega)] <;> omega)
          | (rw [if_neg (by omega), if_neg (by omega)] <;> omega)
          | (rw [if_neg (by omega), if_neg (by omega)])
          | (rw [if_neg (by omega)] <;> omega)
      · skip
        refine V_ld (pc := 35) dX11_first_35 (v := vr 30) rfl rfl ?_
        refine V_getIv (pc := 36) dX11_first_36 (v := (Ix15 30 40)) fw_RX11_279 rfl hL.t30 rfl (fun g36 => ?_)
        refine V_ld (pc := 39) dX11_first_39 (v := vi st) rfl rfl ?_
        refine V_isub (pc := 40) dX11_first_40 (by unfold I32 at *; omega) ?_
        refine V_goto (pc := 41) dX11_first_41 (tgt := 46) rfl ?_
        refine V_reti (pc := 46) dX11_first_46 trivial ?_
        refine ⟨Ix15, rfl, ?_, by rw [hR]; exact hq⟩
        rw [hR]
        unfold firV
        first
          | (exfalso; omega)
          | (rw [if_pos (by omega)] <;> omega)
          | (rw [if_neg (by omega), if_pos (by omega)] <;> omega)
          | (rw [if_neg (by omega), if_pos (by omega)])
          | (rw [if_neg (by omega), if_neg (by omega), if_pos (by omega)] <;> omega)
          | (rw [if_neg (by omega), if_neg (by omega), if_neg (by omega)] <;> omega)
          | (rw [if_neg (by omega), if_neg (by omega)] <;> omega)
          | (rw [if_neg (by omega), if_neg (by omega)])
          | (rw [if_neg (by omega)] <;> omega)
    · skip
      refine V_bipush (pc := 26) dX11_first_26 (by unfold I32; omega) (by decide) ?_
      refine V_goto (pc := 28) dX11_first_28 (tgt := 46) rfl ?_
      refine V_reti (pc := 46) dX11_first_46 trivial ?_
      refine ⟨Ix15, rfl, ?_, by rw [hR]; exact hq⟩
      rw [hR]
      unfold firV
      first
        | (exfalso; omega)
        | (rw [if_pos (by omega)] <;> omega)
        | (rw [if_neg (by omega), if_pos (by omega)] <;> omega)
        | (rw [if_neg (by omega), if_pos (by omega)])
        | (rw [if_neg (by omega), if_neg (by omega), if_pos (by omega)] <;> omega)
        | (rw [if_neg (by omega), if_neg (by omega), if_neg (by omega)] <;> omega)
        | (rw [if_neg (by omega), if_neg (by omega)] <;> omega)
        | (rw [if_neg (by omega), if_neg (by omega)])
        | (rw [if_neg (by omega)] <;> omega)
  · skip
    refine V_ld (pc := 10) dX11_first_10 (v := vi x2) rfl rfl ?_
    refine V_reti (pc := 11) dX11_first_11 trivial ?_
    exfalso; omega

set_option maxHeartbeats 4000000 in
theorem y_firstB  (m : Mem) (st : Int)   (hL : Lay (mT m) (mR m)) (hst : ¬ ((0 ≤ st ∧ st ≤ mI m 31 64)) ∨ mI m 31 65 = 0) (hn : 0 ≤ mI m 31 64 ∧ mI m 31 64 ≤ 32) : Ct μX11_first 34 [vr 30, vi st] m (ri fun x_ m' => (x_ = if (0 ≤ st ∧ st ≤ mI m 31 64) then -3 else -1) ∧ m = m') := by
  refine Ct_of_V rfl (by decide) rfl (Nat.le_of_ble_eq_true rfl) ?_
  show V μX11_first 34 m _ 0 [(0, vr 30), (1, vi st)] [] m
  refine V_rg (k := 1) (x := st) rfl fun r_st => ?_
  refine V_ld (pc := 0) dX11_first_0 (v := vr 30) rfl rfl ?_
  refine V_ld (pc := 1) dX11_first_1 (v := vi st) rfl rfl ?_
  refine V_callV (pc := 2) dX11_first_2 (F' := 1) (As := [vi st]) (st := []) cw_RX11_355 rfl rfl hL.t30 (by decide) (Nat.le_of_ble_eq_true rfl) (by omega) (y_wrong  m st   (by first | assumption | omega)) ?_
  rintro _ _ ⟨x2, rfl, hx2, rfl⟩ ok2 le2
  refine V_st (pc := 5) dX11_first_5 (ls' := [(2, vi x2), (0, vr 30), (1, vi st)]) rfl (Nat.le_of_ble_eq_true rfl) rfl ?_
  refine V_ld (pc := 6) dX11_first_6 (v := vi x2) rfl rfl ?_
  refine V_if_eq (pc := 7) dX11_first_7 (tgt := 12) rfl (fun h7 => ?_) (fun h7 => ?_)
  · skip
    exfalso; omega
  · skip
    refine V_ld (pc := 10) dX11_first_10 (v := vi x2) rfl rfl ?_
    refine V_reti (pc := 11) dX11_first_11 trivial ?_
    refine ⟨?_, rfl⟩
    by_cases hr_ : 0 ≤ st ∧ st ≤ mI m 31 64
    · by_cases h2_ : mI m 31 65 = 0
      · try have h3_ := (hx2.1 hr_).1 h2_
        first
          | (exfalso; omega)
          | (rw [if_pos (by omega)] <;> omega)
          | (rw [if_neg (by omega)] <;> omega)
      · try have h3_ := (hx2.1 hr_).2 h2_
        first
          | (exfalso; omega)
          | (rw [if_pos (by omega)] <;> omega)
          | (rw [if_neg (by omega)] <;> omega)
    · try have h3_ := hx2.2 hr_
      first
        | (exfalso; omega)
        | (rw [if_pos (by omega)] <;> omega)
        | (rw [if_neg (by omega)] <;> omega)

set_option maxHeartbeats 4000000 in
theorem y_triesS (tx : Nat → Int) (nt : Nat) (F : Tb) (c : Nat) (n : Int) (may : Int) (hcn : Nat → CEnv → Int) (cl : Nat → Int) (J : SJ) (m : Mem) (st : Int)   (hL : Lay (mT m) (mR m)) (ht : mI m 31 65 = (nt : Int) ∧ 0 < nt ∧ nt ≤ 120) (htx : txR (mI m) 31 66 tx nt ∧ PatW tx nt) (hFc : F = (altL tx nt 5 S0).2.2.2.2 ∧ c = (altL tx nt 5 S0).2.2.2.1) (hB : RB1 (mI m) n may hcn cl) (hl : (∀ k, mI m 45 k = J.2.1 k) ∧ (mI m 30 27 = 0 ∨ mI m 30 27 = 1)) (hst : 0 ≤ st ∧ st ≤ n) : Ct μX11_tries 34 [vr 30, vi st] m (ri fun x_ m' => ∃ I_ : Nat → Nat → Int, wI m I_ = m' ∧ (x_ = triV (seekA F c n may hcn cl (-1) st J)) ∧ SrQ (mI m) I_ (seekA F c n may hcn cl (-1) st J)) := by
  refine Ct_of_V rfl (by decide) rfl (Nat.le_of_ble_eq_true rfl) ?_
  show V μX11_tries 34 m _ 0 [(0, vr 30), (1, vi st)] [] m
  refine V_rg (k := 1) (x := st) rfl fun r_st => ?_
  have hn64 := hB.1.1
  have hpw := pat_wf htx.2 F c (c - 1) hFc.1 hFc.2 rfl
  have hinv := seekA_inv (hc := hcn) (cl := cl) (e := (-1)) (st := st) (n := n) (may := may) (J := J) hpw.2.2.1 ⟨hpw.1, hpw.2.2.2.2.2.2.1, hpw.2.2.2.2.2.2.2⟩ ⟨hst.1, hst.2, hB.1.2.2.1⟩ ⟨hB.1.2.2.2.2.1, hB.1.2.2.2.2.2⟩
  obtain ⟨R, hR⟩ : ∃ R, (seekA F c n may hcn cl (-1) st J) = R := ⟨_, rfl⟩
  rw [hR] at hinv
  have hn3 := hB.1.2
  clear hpw
  refine V_ld (pc := 0) dX11_tries_0 (v := vr 30) rfl rfl ?_
  refine V_ld (pc := 1) dX11_tries_1 (v := vi st) rfl rfl ?_
  refine V_callV (pc := 2) dX11_tries_2 (F' := 1) (As := [vi st]) (st := []) cw_RX11_355 rfl rfl hL.t30 (by decide) (Nat.le_of_ble_eq_true rfl) (by omega) (y_wrong  m st   (by first | assumption | omega)) ?_
  rintro _ _ ⟨x2, rfl, hx2, rfl⟩ ok2 le2
  refine V_st (pc := 5) dX11_tries_5 (ls' := [(2, vi x2), (0, vr 30), (1, vi st)]) rfl (Nat.le_of_ble_eq_true rfl) rfl ?_
  refine V_ld (pc := 6) dX11_tries_6 (v := vi x2) rfl rfl ?_
  refine V_if_eq (pc := 7) dX11_tries_7 (tgt := 12) rfl (fun h7 => ?_) (fun h7 => ?_)
  · skip
    refine V_ld (pc := 12) dX11_tries_12 (v := vr 30) rfl rfl ?_
    refine V_ld (pc := 13) dX11_tries_13 (v := vi st) rfl rfl ?_
    refine V_iconst (pc := 14) dX11_tries_14 (by unfold I32; omega) ?_
    refine V_callV (pc := 15) dX11_tries_15 (F' := 33) (As := [vi st, vi (-1)]) (st := []) cw_RX11_358 rfl rfl hL.t30 (by decide) (Nat.le_of_ble_eq_true rfl) (by omega) (y_search tx nt F c n may hcn cl J m st (-1)   (by first | assumption | omega) ht htx hFc hB hl hst) ?_
    rintro _ _ ⟨x15, rfl, Ix15, rfl, hx15, hm15⟩ ok15 le15
    rw [hR] at hm15
    have hq : SrQ (mI m) Ix15 R := ⟨_, hm15⟩
    obtain ⟨-, hlt, -, hcase⟩ := hm15
    have hz : R.1 ≠ -7 → Ix15 30 40 = R.2.1 9 ∧ Ix15 30 39 = R.2.1 10 ∧ Ix15 30 41 = R.2.1 11 ∧ (R.2.1 11 = 0 → Ix15 30 42 = -5 ∧ Ix15 30 43 = -5) ∧ (R.2.1 11 ≠ 0 → Ix15 30 42 = R.2.1 12 ∧ Ix15 30 43 = R.2.1 13) := fun h_ => by
      rcases hcase with hc_ | hc_
      · exact absurd hc_.1 h_
      · obtain ⟨b1, b2, b3, b4, b5, b6, b7, b8⟩ := hc_.2.2.1
        exact ⟨b4, b5, b6, fun h2_ => ⟨(b7 h2_).1, (b7 h2_).2.1⟩, b8⟩
    have hc4 : (R.1 = -7 ∧ Ix15 30 44 = 1) ∨ (R.1 ≠ -7 ∧ Ix15 30 44 = 0 ∧ ((R.1 = 1 ∧ x15 = 1) ∨ (R.1 ≠ 1 ∧ x15 = 0))) := by
      rcases hcase with hc_ | hc_
      · exact Or.inl ⟨hc_.1, hc_.2.1⟩
      · refine Or.inr ⟨hc_.1, hc_.2.1, ?_⟩
        have h_ := hc_.2.2.2
        split at h_ <;> omega
    clear hcase
    refine V_pop (pc := 18) dX11_tries_18 rfl ?_
    refine V_ld (pc := 19) dX11_tries_19 (v := vr 30) rfl rfl ?_
    refine V_getIv (pc := 20) dX11_tries_20 (v := (Ix15 30 44)) fw_RX11_273 rfl hL.t30 rfl (fun g20 => ?_)
    refine V_if_eq (pc := 23) dX11_tries_23 (tgt := 31) rfl (fun h23 => ?_) (fun h23 => ?_)
    · skip
      refine V_ld (pc := 31) dX11_tries_31 (v := vr 30) rfl rfl ?_
      refine V_getIv (pc := 32) dX11_tries_32 (v := (Ix15 30 39)) fw_RX11_270 rfl hL.t30 rfl (fun g32 => ?_)
      refine V_reti (pc := 35) dX11_tries_35 trivial ?_
      refine ⟨Ix15, rfl, ?_, by rw [hR]; exact hq⟩
      rw [hR]
      unfold triV
      first
        | (exfalso; omega)
        | (rw [if_pos (by omega)] <;> omega)
        | (rw [if_neg (by omega), if_pos (by omega)] <;> omega)
        | (rw [if_neg (by omega), if_pos (by omega)])
        | (rw [if_neg (by omega), if_neg (by omega), if_pos (by omega)] <;> omega)
        | (rw [if_neg (by omega), if_neg (by omega), if_neg (by omega)] <;> omega)
        | (rw [if_neg (by omega), if_neg (by omega)] <;> omega)
        | (rw [if_neg (by omega), if_neg (by omega)])
        | (rw [if_neg (by omega)] <;> omega)
    · skip
      refine V_bipush (pc := 26) dX11_tries_26 (by unfold I32; omega) (by decide) ?_
      refine V_goto (pc := 28) dX11_tries_28 (tgt := 35) rfl ?_
      refine V_reti (pc := 35) dX11_tries_35 trivial ?_
      refine ⟨Ix15, rfl, ?_, by rw [hR]; exact hq⟩
      rw [hR]
      unfold triV
      first
        | (exfalso; omega)
        | (rw [if_pos (by omega)] <;> omega)
        | (rw [if_neg (by omega), if_pos (by omega)] <;> omega)
        | (rw [if_neg (by omega), if_pos (by omega)])
        | (rw [if_neg (by omega), if_neg (by omega), if_pos (by omega)] <;> omega)
        | (rw [if_neg (by omega), if_neg (by omega), if_neg (by omega)] <;> omega)
        | (rw [if_neg (by omega), if_neg (by omega)] <;> omega)
        | (rw [if_neg (by omega), if_neg (by omega)])
        | (rw [if_neg (by omega)] <;> omega)
  · skip
    refine V_ld (pc := 10) dX11_tries_10 (v := vi x2) rfl rfl ?_
    refine V_reti (pc := 11) dX11_tries_11 trivial ?_
    exfalso; omega

set_option maxHeartbeats 4000000 in
theorem y_triesB  (m : Mem) (st : Int)   (hL : Lay (mT m) (mR m)) (hst : ¬ ((0 ≤ st ∧ st ≤ mI m 31 64)) ∨ mI m 31 65 = 0) (hn : 0 ≤ mI m 31 64 ∧ mI m 31 64 ≤ 32) : Ct μX11_tries 34 [vr 30, vi st] m (ri fun x_ m' => (x_ = if (0 ≤ st ∧ st ≤ mI m 31 64) then -3 else -1) ∧ m = m') := by
  refine Ct_of_V rfl (by decide) rfl (Nat.le_of_ble_eq_true rfl) ?_
  show V μX11_tries 34 m _ 0 [(0, vr 30), (1, vi st)] [] m
  refine V_rg (k := 1) (x := st) rfl fun r_st => ?_
  refine V_ld (pc := 0) dX11_tries_0 (v := vr 30) rfl rfl ?_
  refine V_ld (pc := 1) dX11_tries_1 (v := vi st) rfl rfl ?_
  refine V_callV (pc := 2) dX11_tries_2 (F' := 1) (As := [vi st]) (st := []) cw_RX11_355 rfl rfl hL.t30 (by decide) (Nat.le_of_ble_eq_true rfl) (by omega) (y_wrong  m st   (by first | assumption | omega)) ?_
  rintro _ _ ⟨x2, rfl, hx2, rfl⟩ ok2 le2
  refine V_st (pc := 5) dX11_tries_5 (ls' := [(2, vi x2), (0, vr 30), (1, vi st)]) rfl (Nat.le_of_ble_eq_true rfl) rfl ?_
  refine V_ld (pc := 6) dX11_tries_6 (v := vi x2) rfl rfl ?_
  refine V_if_eq (pc := 7) dX11_tries_7 (tgt := 12) rfl (fun h7 => ?_) (fun h7 => ?_)
  · skip
    exfalso; omega
  · skip
    refine V_ld (pc := 10) dX11_tries_10 (v := vi x2) rfl rfl ?_
    refine V_reti (pc := 11) dX11_tries_11 trivial ?_
    refine ⟨?_, rfl⟩
    by_cases hr_ : 0 ≤ st ∧ st ≤ mI m 31 64
    · by_cases h2_ : mI m 31 65 = 0
      · try have h3_ := (hx2.1 hr_).1 h2_
        first
          | (exfalso; omega)
          | (rw [if_pos (by omega)] <;> omega)
          | (rw [if_neg (by omega)] <;> omega)
      · try have h3_ := (hx2.1 hr_).2 h2_
        first
          | (exfalso; omega)
          | (rw [if_pos (by omega)] <;> omega)
          | (rw [if_neg (by omega)] <;> omega)
    · try have h3_ := hx2.2 hr_
      first
        | (exfalso; omega)
        | (rw [if_pos (by omega)] <;> omega)
        | (rw [if_neg (by omega)] <;> omega)

set_option maxHeartbeats 4000000 in
theorem y_wayS (tx : Nat → Int) (nt : Nat) (F : Tb) (c : Nat) (n : Int) (may : Int) (hcn : Nat → CEnv → Int) (cl : Nat → Int) (J : SJ) (m : Mem) (st : Int) (i0 : Int)   (hL : Lay (mT m) (mR m)) (ht : mI m 31 65 = (nt : Int) ∧ 0 < nt ∧ nt ≤ 120) (htx : txR (mI m) 31 66 tx nt ∧ PatW tx nt) (hFc : F = (altL tx nt 5 S0).2.2.2.2 ∧ c = (altL tx nt 5 S0).2.2.2.1) (hB : RB1 (mI m) n may hcn cl) (hl : (∀ k, mI m 45 k = J.2.1 k) ∧ (mI m 30 27 = 0 ∨ mI m 30 27 = 1)) (hst : 0 ≤ st ∧ st ≤ n) : Ct μX11_way 34 [vr 30, vi st, vi i0] m (ri fun x_ m' => ∃ I_ : Nat → Nat → Int, wI m I_ = m' ∧ (x_ = wayV (seekA F c n may hcn cl (-1) st J) st i0) ∧ SrQ (mI m) I_ (seekA F c n may hcn cl (-1) st J)) := by
  refine Ct_of_V rfl (by decide) rfl (Nat.le_of_ble_eq_true rfl) ?_
  show V μX11_way 34 m _ 0 [(0, vr 30), (1, vi st), (2, vi i0)] [] m
  refine V_rg (k := 1) (x := st) rfl fun r_st => ?_
  refine V_rg (k := 2) (x := i0) rfl fun r_i0 => ?_
  have hn64 := hB.1.1
  have hpw := pat_wf htx.2 F c (c - 1) hFc.1 hFc.2 rfl
  have hinv := seekA_inv (hc := hcn) (cl := cl) (e := (-1)) (st := st) (n := n) (may := may) (J := J) hpw.2.2.1 ⟨hpw.1, hpw.2.2.2.2.2.2.1, hpw.2.2.2.2.2.2.2⟩ ⟨hst.1, hst.2, hB.1.2.2.1⟩ ⟨hB.1.2.2.2.2.1, hB.1.2.2.2.2.2⟩
  obtain ⟨R, hR⟩ : ∃ R, (seekA F c n may hcn cl (-1) st J) = R := ⟨_, rfl⟩
  rw [hR] at hinv
  have hn3 := hB.1.2
  clear hpw
  refine V_ld (pc := 0) dX11_way_0 (v := vr 30) rfl rfl ?_
  refine V_ld (pc := 1) dX11_way_1 (v := vi st) rfl rfl ?_
  refine V_callV (pc := 2) dX11_way_2 (F' := 1) (As := [vi st]) (st := []) cw_RX11_355 rfl rfl hL.t30 (by decide) (Nat.le_of_ble_eq_true rfl) (by omega) (y_wrong  m st   (by first | assumption | omega)) ?_
  rintro _ _ ⟨x2, rfl, hx2, rfl⟩ ok2 le2
  refine V_st (pc := 5) dX11_way_5 (ls' := [(3, vi x2), (0, vr 30), (1, vi st), (2, vi i0)]) rfl (Nat.le_of_ble_eq_true rfl) rfl ?_
  refine V_ld (pc := 6) dX11_way_6 (v := vi x2) rfl rfl ?_
  refine V_if_eq (pc := 7) dX11_way_7 (tgt := 12) rfl (fun h7 => ?_) (fun h7 => ?_)
  · skip
    refine V_ld (pc := 12) dX11_way_12 (v := vr 30) rfl rfl ?_
    refine V_ld (pc := 13) dX11_way_13 (v := vi st) rfl rfl ?_
    refine V_iconst (pc := 14) dX11_way_14 (by unfold I32; omega) ?_
    refine V_callV (pc := 15) dX11_way_15 (F' := 33) (As := [vi st, vi (-1)]) (st := []) cw_RX11_358 rfl rfl hL.t30 (by decide) (Nat.le_of_ble_eq_true rfl) (by omega) (y_search tx nt F c n may hcn cl J m st (-1)   (by first | assumption | omega) ht htx hFc hB hl hst) ?_
    rintro _ _ ⟨x15, rfl, Ix15, rfl, hx15, hm15⟩ ok15 le15
    rw [hR] at hm15
    have hq : SrQ (mI m) Ix15 R := ⟨_, hm15⟩
    obtain ⟨-, hlt, -, hcase⟩ := hm15
    have hz : R.1 ≠ -7 → Ix15 30 40 = R.2.1 9 ∧ Ix15 30 39 = R.2.1 10 ∧ Ix15 30 41 = R.2.1 11 ∧ (R.2.1 11 = 0 → Ix15 30 42 = -5 ∧ Ix15 30 43 = -5) ∧ (R.2.1 11 ≠ 0 → Ix15 30 42 = R.2.1 12 ∧ Ix15 30 43 = R.2.1 13) := fun h_ => by
      rcases hcase with hc_ | hc_
      · exact absurd hc_.1 h_
      · obtain ⟨b1, b2, b3, b4, b5, b6, b7, b8⟩ := hc_.2.2.1
        exact ⟨b4, b5, b6, fun h2_ => ⟨(b7 h2_).1, (b7 h2_).2.1⟩, b8⟩
    have hc4 : (R.1 = -7 ∧ Ix15 30 44 = 1) ∨ (R.1 ≠ -7 ∧ Ix15 30 44 = 0 ∧ ((R.1 = 1 ∧ x15 = 1) ∨ (R.1 ≠ 1 ∧ x15 = 0))) := by
      rcases hcase with hc_ | hc_
      · exact Or.inl ⟨hc_.1, hc_.2.1⟩
      · refine Or.inr ⟨hc_.1, hc_.2.1, ?_⟩
        have h_ := hc_.2.2.2
        split at h_ <;> omega
    clear hcase
    refine V_st (pc := 18) dX11_way_18 (ls' := [(4, vi x15), (3, vi x2), (0, vr 30), (1, vi st), (2, vi i0)]) rfl (Nat.le_of_ble_eq_true rfl) rfl ?_
    refine V_ld (pc := 20) dX11_way_20 (v := vr 30) rfl rfl ?_
    refine V_getIv (pc := 21) dX11_way_21 (v := (Ix15 30 44)) fw_RX11_273 rfl hL.t30 rfl (fun g21 => ?_)
    refine V_if_eq (pc := 24) dX11_way_24 (tgt := 32) rfl (fun h24 => ?_) (fun h24 => ?_)
    · skip
      refine V_ld (pc := 32) dX11_way_32 (v := vi x15) rfl rfl ?_
      refine V_if_eq (pc := 34) dX11_way_34 (tgt := 66) rfl (fun h34 => ?_) (fun h34 => ?_)
      · skip
        refine V_bipush (pc := 66) dX11_way_66 (by unfold I32; omega) (by decide) ?_
        refine V_reti (pc := 68) dX11_way_68 trivial ?_
        refine ⟨Ix15, rfl, ?_, by rw [hR]; exact hq⟩
        rw [hR]
        unfold wayV
        first
          | (exfalso; omega)
          | (rw [if_pos (by omega)] <;> omega)
          | (rw [if_neg (by omega), if_pos (by omega)] <;> omega)
          | (rw [if_neg (by omega), if_pos (by omega)])
          | (rw [if_neg (by omega), if_neg (by omega), if_pos (by omega)] <;> omega)
          | (rw [if_neg (by omega), if_neg (by omega), if_neg (by omega)] <;> omega)
          | (rw [if_neg (by omega), if_neg (by omega)] <;> omega)
          | (rw [if_neg (by omega), if_neg (by omega)])
          | (rw [if_neg (by omega)] <;> omega)
      · skip
        refine V_ld (pc := 37) dX11_way_37 (v := vi i0) rfl rfl ?_
        refine V_i2l (pc := 38) dX11_way_38 ?_
        refine V_lconst (pc := 39) dX11_way_39 (x := 0) (by unfold I64; omega) (by decide) ?_
        refine V_ld (pc := 40) dX11_way_40 (v := vr 30) rfl rfl ?_
        refine V_getIv (pc := 41) dX11_way_41 (v := (Ix15 30 40)) fw_RX11_279 rfl hL.t30 rfl (fun g41 => ?_)
        refine V_ld (pc := 44) dX11_way_44 (v := vi st) rfl rfl ?_
        refine V_isub (pc := 45) dX11_way_45 (by unfold I32 at *; omega) ?_
        refine V_iconst (pc := 46) dX11_way_46 (by unfold I32; omega) ?_
        refine V_isub (pc := 47) dX11_way_47 (by unfold I32 at *; omega) ?_
        refine V_i2l (pc := 48) dX11_way_48 ?_
        refine V_callS (pc := 49) dX11_way_49 (F' := 0) (As := [vl i0, vl 0, vl (((Ix15 30 40) - st) - 1)]) (st := []) cw_RX11_101 rfl rfl (Nat.le_of_ble_eq_true rfl) (by omega) (r_isIn  (wI m Ix15) i0 0 (((Ix15 30 40) - st) - 1)   ) ?_
        rintro _ _ ⟨x49, rfl, hx49, rfl⟩ ok49 le49
        refine V_if_eq (pc := 52) dX11_way_52 (tgt := 66) rfl (fun h52 => ?_) (fun h52 => ?_)
        · skip
          refine V_bipush (pc := 66) dX11_way_66 (by unfold I32; omega) (by decide) ?_
          refine V_reti (pc := 68) dX11_way_68 trivial ?_
          refine ⟨Ix15, rfl, ?_, by rw [hR]; exact hq⟩
          rw [hR]
          unfold wayV
          first
            | (exfalso; omega)
            | (rw [if_pos (by omega)] <;> omega)
            | (rw [if_neg (by omega), if_pos (by omega)] <;> omega)
            | (rw [if_neg (by omega), if_pos (by omega)])
            | (rw [if_neg (by omega), if_neg (by omega), if_pos (by omega)] <;> omega)
            | (rw [if_neg (by omega), if_neg (by omega), if_neg (by omega)] <;> omega)
            | (rw [if_neg (by omega), if_neg (by omega)] <;> omega)
            | (rw [if_neg (by omega), if_neg (by omega)])
            | (rw [if_neg (by omega)] <;> omega)
        · skip
          refine V_ld (pc := 55) dX11_way_55 (v := vr 30) rfl rfl ?_
          refine V_getRv (pc := 56) dX11_way_56 (o' := 45) fw_RX11_54 rfl hL.t30 hL.r30_23 ?_
          refine V_ld (pc := 59) dX11_way_59 (v := vi st) rfl rfl ?_
          refine V_ld (pc := 60) dX11_way_60 (v := vi i0) rfl rfl ?_
          refine V_iadd (pc := 61) dX11_way_61 (by unfold I32 at *; omega) ?_
          refine V_ialdv (pc := 62) dX11_way_62 (v := (R.2.2.1 (st + i0).toNat)) hL.t45 (by omega) (hlt _) (fun g62 => ?_)
          refine V_goto (pc := 63) dX11_way_63 (tgt := 68) rfl ?_
          refine V_reti (pc := 68) dX11_way_68 trivial ?_
          refine ⟨Ix15, rfl, ?_, by rw [hR]; exact hq⟩
          rw [hR]
          unfold wayV
          first
            | (exfalso; omega)
            | (rw [if_pos (by omega)] <;> omega)
            | (rw [if_neg (by omega), if_pos (by omega)] <;> omega)
            | (rw [if_neg (by omega), if_pos (by omega)])
            | (rw [if_neg (by omega), if_neg (by omega), if_pos (by omega)] <;> omega)
            | (rw [if_neg (by omega), if_neg (by omega), if_neg (by omega)] <;> omega)
            | (rw [if_neg (by omega), if_neg (by omega)] <;> omega)
            | (rw [if_neg (by omega), if_neg (by omega)])
            | (rw [if_neg (by omega)] <;> omega)
    · skip
      refine V_bipush (pc := 27) dX11_way_27 (by unfold I32; omega) (by decide) ?_
      refine V_goto (pc := 29) dX11_way_29 (tgt := 68) rfl ?_
      refine V_reti (pc := 68) dX11_way_68 trivial ?_
      refine ⟨Ix15, rfl, ?_, by rw [hR]; exact hq⟩
      rw [hR]
      unfold wayV
      first
        | (exfalso; omega)
        | (rw [if_pos (by omega)] <;> omega)
        | (rw [if_neg (by omega), if_pos (by omega)] <;> omega)
        | (rw [if_neg (by omega), if_pos (by omega)])
        | (rw [if_neg (by omega), if_neg (by omega), if_pos (by omega)] <;> omega)
        | (rw [if_neg (by omega), if_neg (by omega), if_neg (by omega)] <;> omega)
        | (rw [if_neg (by omega), if_neg (by omega)] <;> omega)
        | (rw [if_neg (by omega), if_neg (by omega)])
        | (rw [if_neg (by omega)] <;> omega)
  · skip
    refine V_ld (pc := 10) dX11_way_10 (v := vi x2) rfl rfl ?_
    refine V_reti (pc := 11) dX11_way_11 trivial ?_
    exfalso; omega

set_option maxHeartbeats 4000000 in
theorem y_wayB  (m : Mem) (st : Int) (i0 : Int)   (hL : Lay (mT m) (mR m)) (hst : ¬ ((0 ≤ st ∧ st ≤ mI m 31 64)) ∨ mI m 31 65 = 0) (hn : 0 ≤ mI m 31 64 ∧ mI m 31 64 ≤ 32) : Ct μX11_way 34 [vr 30, vi st, vi i0] m (ri fun x_ m' => (x_ = if (0 ≤ st ∧ st ≤ mI m 31 64) then -3 else -1) ∧ m = m') := by
  refine Ct_of_V rfl (by decide) rfl (Nat.le_of_ble_eq_true rfl) ?_
  show V μX11_way 34 m _ 0 [(0, vr 30), (1, vi st), (2, vi i0)] [] m
  refine V_rg (k := 1) (x := st) rfl fun r_st => ?_
  refine V_rg (k := 2) (x := i0) rfl fun r_i0 => ?_
  refine V_ld (pc := 0) dX11_way_0 (v := vr 30) rfl rfl ?_
  refine V_ld (pc := 1) dX11_way_1 (v := vi st) rfl rfl ?_
  refine V_callV (pc := 2) dX11_way_2 (F' := 1) (As := [vi st]) (st := []) cw_RX11_355 rfl rfl hL.t30 (by decide) (Nat.le_of_ble_eq_true rfl) (by omega) (y_wrong  m st   (by first | assumption | omega)) ?_
  rintro _ _ ⟨x2, rfl, hx2, rfl⟩ ok2 le2
  refine V_st (pc := 5) dX11_way_5 (ls' := [(3, vi x2), (0, vr 30), (1, vi st), (2, vi i0)]) rfl (Nat.le_of_ble_eq_true rfl) rfl ?_
  refine V_ld (pc := 6) dX11_way_6 (v := vi x2) rfl rfl ?_
  refine V_if_eq (pc := 7) dX11_way_7 (tgt := 12) rfl (fun h7 => ?_) (fun h7 => ?_)
  · skip
    exfalso; omega
  · skip
    refine V_ld (pc := 10) dX11_way_10 (v := vi x2) rfl rfl ?_
    refine V_reti (pc := 11) dX11_way_11 trivial ?_
    refine ⟨?_, rfl⟩
    by_cases hr_ : 0 ≤ st ∧ st ≤ mI m 31 64
    · by_cases h2_ : mI m 31 65 = 0
      · try have h3_ := (hx2.1 hr_).1 h2_
        first
          | (exfalso; omega)
          | (rw [if_pos (by omega)] <;> omega)
          | (rw [if_neg (by omega)] <;> omega)
      · try have h3_ := (hx2.1 hr_).2 h2_
        first
          | (exfalso; omega)
          | (rw [if_pos (by omega)] <;> omega)
          | (rw [if_neg (by omega)] <;> omega)
    · try have h3_ := hx2.2 hr_
      first
        | (exfalso; omega)
        | (rw [if_pos (by omega)] <;> omega)
        | (rw [if_neg (by omega)] <;> omega)

set_option maxHeartbeats 4000000 in
theorem y_waysS (tx : Nat → Int) (nt : Nat) (F : Tb) (c : Nat) (n : Int) (may : Int) (hcn : Nat → CEnv → Int) (cl : Nat → Int) (J : SJ) (m : Mem) (st : Int)   (hL : Lay (mT m) (mR m)) (ht : mI m 31 65 = (nt : Int) ∧ 0 < nt ∧ nt ≤ 120) (htx : txR (mI m) 31 66 tx nt ∧ PatW tx nt) (hFc : F = (altL tx nt 5 S0).2.2.2.2 ∧ c = (altL tx nt 5 S0).2.2.2.1) (hB : RB1 (mI m) n may hcn cl) (hl : (∀ k, mI m 45 k = J.2.1 k) ∧ (mI m 30 27 = 0 ∨ mI m 30 27 = 1)) (hst : 0 ≤ st ∧ st ≤ n) : Ct μX11_ways 34 [vr 30, vi st] m (ri fun x_ m' => ∃ I_ : Nat → Nat → Int, wI m I_ = m' ∧ (x_ = wasV (seekA F c n may hcn cl (-2) st J)) ∧ SrQ (mI m) I_ (seekA F c n may hcn cl (-2) st J)) := by
  refine Ct_of_V rfl (by decide) rfl (Nat.le_of_ble_eq_true rfl) ?_
  show V μX11_ways 34 m _ 0 [(0, vr 30), (1, vi st)] [] m
  refine V_rg (k := 1) (x := st) rfl fun r_st => ?_
  have hn64 := hB.1.1
  have hpw := pat_wf htx.2 F c (c - 1) hFc.1 hFc.2 rfl
  have hinv := seekA_inv (hc := hcn) (cl := cl) (e := (-2)) (st := st) (n := n) (may := may) (J := J) hpw.2.2.1 ⟨hpw.1, hpw.2.2.2.2.2.2.1, hpw.2.2.2.2.2.2.2⟩ ⟨hst.1, hst.2, hB.1.2.2.1⟩ ⟨hB.1.2.2.2.2.1, hB.1.2.2.2.2.2⟩
  obtain ⟨R, hR⟩ : ∃ R, (seekA F c n may hcn cl (-2) st J) = R := ⟨_, rfl⟩
  rw [hR] at hinv
  have hn3 := hB.1.2
  clear hpw
  refine V_ld (pc := 0) dX11_ways_0 (v := vr 30) rfl rfl ?_
  refine V_ld (pc := 1) dX11_ways_1 (v := vi st) rfl rfl ?_
  refine V_callV (pc := 2) dX11_ways_2 (F' := 1) (As := [vi st]) (st := []) cw_RX11_355 rfl rfl hL.t30 (by decide) (Nat.le_of_ble_eq_true rfl) (by omega) (y_wrong  m st   (by first | assumption | omega)) ?_
  rintro _ _ ⟨x2, rfl, hx2, rfl⟩ ok2 le2
  refine V_st (pc := 5) dX11_ways_5 (ls' := [(2, vi x2), (0, vr 30), (1, vi st)]) rfl (Nat.le_of_ble_eq_true rfl) rfl ?_
  refine V_ld (pc := 6) dX11_ways_6 (v := vi x2) rfl rfl ?_
  refine V_if_eq (pc := 7) dX11_ways_7 (tgt := 12) rfl (fun h7 => ?_) (fun h7 => ?_)
  · skip
    refine V_ld (pc := 12) dX11_ways_12 (v := vr 30) rfl rfl ?_
    refine V_ld (pc := 13) dX11_ways_13 (v := vi st) rfl rfl ?_
    refine V_bipush (pc := 14) dX11_ways_14 (by unfold I32; omega) (by decide) ?_
    refine V_callV (pc := 16) dX11_ways_16 (F' := 33) (As := [vi st, vi (-2)]) (st := []) cw_RX11_358 rfl rfl hL.t30 (by decide) (Nat.le_of_ble_eq_true rfl) (by omega) (y_search tx nt F c n may hcn cl J m st (-2)   (by first | assumption | omega) ht htx hFc hB hl hst) ?_
    rintro _ _ ⟨x16, rfl, Ix16, rfl, hx16, hm16⟩ ok16 le16
    rw [hR] at hm16
    have hq : SrQ (mI m) Ix16 R := ⟨_, hm16⟩
    obtain ⟨-, hlt, -, hcase⟩ := hm16
    have hz : R.1 ≠ -7 → Ix16 30 40 = R.2.1 9 ∧ Ix16 30 39 = R.2.1 10 ∧ Ix16 30 41 = R.2.1 11 ∧ (R.2.1 11 = 0 → Ix16 30 42 = -5 ∧ Ix16 30 43 = -5) ∧ (R.2.1 11 ≠ 0 → Ix16 30 42 = R.2.1 12 ∧ Ix16 30 43 = R.2.1 13) := fun h_ => by
      rcases hcase with hc_ | hc_
      · exact absurd hc_.1 h_
      · obtain ⟨b1, b2, b3, b4, b5, b6, b7, b8⟩ := hc_.2.2.1
        exact ⟨b4, b5, b6, fun h2_ => ⟨(b7 h2_).1, (b7 h2_).2.1⟩, b8⟩
    have hc4 : (R.1 = -7 ∧ Ix16 30 44 = 1) ∨ (R.1 ≠ -7 ∧ Ix16 30 44 = 0 ∧ ((R.1 = 1 ∧ x16 = 1) ∨ (R.1 ≠ 1 ∧ x16 = 0))) := by
      rcases hcase with hc_ | hc_
      · exact Or.inl ⟨hc_.1, hc_.2.1⟩
      · refine Or.inr ⟨hc_.1, hc_.2.1, ?_⟩
        have h_ := hc_.2.2.2
        split at h_ <;> omega
    clear hcase
    refine V_pop (pc := 19) dX11_ways_19 rfl ?_
    refine V_ld (pc := 20) dX11_ways_20 (v := vr 30) rfl rfl ?_
    refine V_getIv (pc := 21) dX11_ways_21 (v := (Ix16 30 44)) fw_RX11_273 rfl hL.t30 rfl (fun g21 => ?_)
    refine V_if_eq (pc := 24) dX11_ways_24 (tgt := 32) rfl (fun h24 => ?_) (fun h24 => ?_)
    · skip
      refine V_ld (pc := 32) dX11_ways_32 (v := vr 30) rfl rfl ?_
      refine V_getIv (pc := 33) dX11_ways_33 (v := (Ix16 30 41)) fw_RX11_329 rfl hL.t30 rfl (fun g33 => ?_)
      refine V_reti (pc := 36) dX11_ways_36 trivial ?_
      refine ⟨Ix16, rfl, ?_, by rw [hR]; exact hq⟩
      rw [hR]
      unfold wasV
      first
        | (exfalso; omega)
        | (rw [if_pos (by omega)] <;> omega)
        | (rw [if_neg (by omega), if_pos (by omega)] <;> omega)
        | (rw [if_neg (by omega), if_pos (by omega)])
        | (rw [if_neg (by omega), if_neg (by omega), if_pos (by omega)] <;> omega)
        | (rw [if_neg (by omega), if_neg (by omega), if_neg (by omega)] <;> omega)
        | (rw [if_neg (by omega), if_neg (by omega)] <;> omega)
        | (rw [if_neg (by omega), if_neg (by omega)])
        | (rw [if_neg (by omega)] <;> omega)
    · skip
      refine V_bipush (pc := 27) dX11_ways_27 (by unfold I32; omega) (by decide) ?_
      refine V_goto (pc := 29) dX11_ways_29 (tgt := 36) rfl ?_
      refine V_reti (pc := 36) dX11_ways_36 trivial ?_
      refine ⟨Ix16, rfl, ?_, by rw [hR]; exact hq⟩
      rw [hR]
      unfold wasV
      first
        | (exfalso; omega)
        | (rw [if_pos (by omega)] <;> omega)
        | (rw [if_neg (by omega), if_pos (by omega)] <;> omega)
        | (rw [if_neg (by omega), if_pos (by omega)])
        | (rw [if_neg (by omega), if_neg (by omega), if_pos (by omega)] <;> omega)
        | (rw [if_neg (by omega), if_neg (by omega), if_neg (by omega)] <;> omega)
        | (rw [if_neg (by omega), if_neg (by omega)] <;> omega)
        | (rw [if_neg (by omega), if_neg (by omega)])
        | (rw [if_neg (by omega)] <;> omega)
  · skip
    refine V_ld (pc := 10) dX11_ways_10 (v := vi x2) rfl rfl ?_
    refine V_reti (pc := 11) dX11_ways_11 trivial ?_
    exfalso; omega

set_option maxHeartbeats 4000000 in
theorem y_waysB  (m : Mem) (st : Int)   (hL : Lay (mT m) (mR m)) (hst : ¬ ((0 ≤ st ∧ st ≤ mI m 31 64)) ∨ mI m 31 65 = 0) (hn : 0 ≤ mI m 31 64 ∧ mI m 31 64 ≤ 32) : Ct μX11_ways 34 [vr 30, vi st] m (ri fun x_ m' => (x_ = if (0 ≤ st ∧ st ≤ mI m 31 64) then -3 else -1) ∧ m = m') := by
  refine Ct_of_V rfl (by decide) rfl (Nat.le_of_ble_eq_true rfl) ?_
  show V μX11_ways 34 m _ 0 [(0, vr 30), (1, vi st)] [] m
  refine V_rg (k := 1) (x := st) rfl fun r_st => ?_
  refine V_ld (pc := 0) dX11_ways_0 (v := vr 30) rfl rfl ?_
  refine V_ld (pc := 1) dX11_ways_1 (v := vi st) rfl rfl ?_
  refine V_callV (pc := 2) dX11_ways_2 (F' := 1) (As := [vi st]) (st := []) cw_RX11_355 rfl rfl hL.t30 (by decide) (Nat.le_of_ble_eq_true rfl) (by omega) (y_wrong  m st   (by first | assumption | omega)) ?_
  rintro _ _ ⟨x2, rfl, hx2, rfl⟩ ok2 le2
  refine V_st (pc := 5) dX11_ways_5 (ls' := [(2, vi x2), (0, vr 30), (1, vi st)]) rfl (Nat.le_of_ble_eq_true rfl) rfl ?_
  refine V_ld (pc := 6) dX11_ways_6 (v := vi x2) rfl rfl ?_
  refine V_if_eq (pc := 7) dX11_ways_7 (tgt := 12) rfl (fun h7 => ?_) (fun h7 => ?_)
  · skip
    exfalso; omega
  · skip
    refine V_ld (pc := 10) dX11_ways_10 (v := vi x2) rfl rfl ?_
    refine V_reti (pc := 11) dX11_ways_11 trivial ?_
    refine ⟨?_, rfl⟩
    by_cases hr_ : 0 ≤ st ∧ st ≤ mI m 31 64
    · by_cases h2_ : mI m 31 65 = 0
      · try have h3_ := (hx2.1 hr_).1 h2_
        first
          | (exfalso; omega)
          | (rw [if_pos (by omega)] <;> omega)
          | (rw [if_neg (by omega)] <;> omega)
      · try have h3_ := (hx2.1 hr_).2 h2_
        first
          | (exfalso; omega)
          | (rw [if_pos (by omega)] <;> omega)
          | (rw [if_neg (by omega)] <;> omega)
    · try have h3_ := hx2.2 hr_
      first
        | (exfalso; omega)
        | (rw [if_pos (by omega)] <;> omega)
        | (rw [if_neg (by omega)] <;> omega)

set_option maxHeartbeats 4000000 in
theorem y_spansS (tx : Nat → Int) (nt : Nat) (F : Tb) (c : Nat) (n : Int) (may : Int) (hcn : Nat → CEnv → Int) (cl : Nat → Int) (J : SJ) (m : Mem) (st : Int) (w : Int)   (hL : Lay (mT m) (mR m)) (ht : mI m 31 65 = (nt : Int) ∧ 0 < nt ∧ nt ≤ 120) (htx : txR (mI m) 31 66 tx nt ∧ PatW tx nt) (hFc : F = (altL tx nt 5 S0).2.2.2.2 ∧ c = (altL tx nt 5 S0).2.2.2.1) (hB : RB1 (mI m) n may hcn cl) (hl : (∀ k, mI m 45 k = J.2.1 k) ∧ (mI m 30 27 = 0 ∨ mI m 30 27 = 1)) (hst : 0 ≤ st ∧ st ≤ n) (hw : w = 0 ∨ w = 1) : Ct μX11_spans 34 [vr 30, vi st, vi w] m (ri fun x_ m' => ∃ I_ : Nat → Nat → Int, wI m I_ = m' ∧ (x_ = spaV (seekA F c n may hcn cl (-2) st J) w) ∧ SrQ (mI m) I_ (seekA F c n may hcn cl (-2) st J)) := by
  refine Ct_of_V rfl (by decide) rfl (Nat.le_of_ble_eq_true rfl) ?_
  show V μX11_spans 34 m _ 0 [(0, vr 30), (1, vi st), (2, vi w)] [] m
  refine V_rg (k := 1) (x := st) rfl fun r_st => ?_
  refine V_rg (k := 2) (x := w) rfl fun r_w => ?_
  have hn64 := hB.1.1
  have hpw := pat_wf htx.2 F c (c - 1) hFc.1 hFc.2 rfl
  have hinv := seekA_inv (hc := hcn) (cl := cl) (e := (-2)) (st := st) (n := n) (may := may) (J := J) hpw.2.2.1 ⟨hpw.1, hpw.2.2.2.2.2.2.1, hpw.2.2.2.2.2.2.2⟩ ⟨hst.1, hst.2, hB.1.2.2.1⟩ ⟨hB.1.2.2.2.2.1, hB.1.2.2.2.2.2⟩
  obtain ⟨R, hR⟩ : ∃ R, (seekA F c n may hcn cl (-2) st J) = R := ⟨_, rfl⟩
  rw [hR] at hinv
  have hn3 := hB.1.2
  clear hpw
  refine V_ld (pc := 0) dX11_spans_0 (v := vi w) rfl rfl ?_
  refine V_i2l (pc := 1) dX11_spans_1 ?_
  refine V_lconst (pc := 2) dX11_spans_2 (x := 0) (by unfold I64; omega) (by decide) ?_
  refine V_lconst (pc := 3) dX11_spans_3 (x := 1) (by unfold I64; omega) (by decide) ?_
  refine V_callS (pc := 4) dX11_spans_4 (F' := 0) (As := [vl w, vl 0, vl 1]) (st := []) cw_RX11_101 rfl rfl (Nat.le_of_ble_eq_true rfl) (by omega) (r_isIn  m w 0 1   ) ?_
  rintro _ _ ⟨x4, rfl, hx4, rfl⟩ ok4 le4
  refine V_if_ne (pc := 7) dX11_spans_7 (tgt := 14) rfl (fun h7 => ?_) (fun h7 => ?_)
  · skip
    refine V_ld (pc := 14) dX11_spans_14 (v := vr 30) rfl rfl ?_
    refine V_ld (pc := 15) dX11_spans_15 (v := vi st) rfl rfl ?_
    refine V_callV (pc := 16) dX11_spans_16 (F' := 1) (As := [vi st]) (st := []) cw_RX11_355 rfl rfl hL.t30 (by decide) (Nat.le_of_ble_eq_true rfl) (by omega) (y_wrong  m st   (by first | assumption | omega)) ?_
    rintro _ _ ⟨x16, rfl, hx16, rfl⟩ ok16 le16
    refine V_st (pc := 19) dX11_spans_19 (ls' := [(3, vi x16), (0, vr 30), (1, vi st), (2, vi w)]) rfl (Nat.le_of_ble_eq_true rfl) rfl ?_
    refine V_ld (pc := 20) dX11_spans_20 (v := vi x16) rfl rfl ?_
    refine V_if_eq (pc := 21) dX11_spans_21 (tgt := 26) rfl (fun h21 => ?_) (fun h21 => ?_)
    · skip
      refine V_ld (pc := 26) dX11_spans_26 (v := vr 30) rfl rfl ?_
      refine V_ld (pc := 27) dX11_spans_27 (v := vi st) rfl rfl ?_
      refine V_bipush (pc := 28) dX11_spans_28 (by unfold I32; omega) (by decide) ?_
      refine V_callV (pc := 30) dX11_spans_30 (F' := 33) (As := [vi st, vi (-2)]) (st := []) cw_RX11_358 rfl rfl hL.t30 (by decide) (Nat.le_of_ble_eq_true rfl) (by omega) (y_search tx nt F c n may hcn cl J m st (-2)   (by first | assumption | omega) ht htx hFc hB hl hst) ?_
      rintro _ _ ⟨x30, rfl, Ix30, rfl, hx30, hm30⟩ ok30 le30
      rw [hR] at hm30
      have hq : SrQ (mI m) Ix30 R := ⟨_, hm30⟩
      obtain ⟨-, hlt, -, hcase⟩ := hm30
      have hz : R.1 ≠ -7 → Ix30 30 40 = R.2.1 9 ∧ Ix30 30 39 = R.2.1 10 ∧ Ix30 30 41 = R.2.1 11 ∧ (R.2.1 11 = 0 → Ix30 30 42 = -5 ∧ Ix30 30 43 = -5) ∧ (R.2.1 11 ≠ 0 → Ix30 30 42 = R.2.1 12 ∧ Ix30 30 43 = R.2.1 13) := fun h_ => by
        rcases hcase with hc_ | hc_
        · exact absurd hc_.1 h_
        · obtain ⟨b1, b2, b3, b4, b5, b6, b7, b8⟩ := hc_.2.2.1
          exact ⟨b4, b5, b6, fun h2_ => ⟨(b7 h2_).1, (b7 h2_).2.1⟩, b8⟩
      have hc4 : (R.1 = -7 ∧ Ix30 30 44 = 1) ∨ (R.1 ≠ -7 ∧ Ix30 30 44 = 0 ∧ ((R.1 = 1 ∧ x30 = 1) ∨ (R.1 ≠ 1 ∧ x30 = 0))) := by
        rcases hcase with hc_ | hc_
        · exact Or.inl ⟨hc_.1, hc_.2.1⟩
        · refine Or.inr ⟨hc_.1, hc_.2.1, ?_⟩
          have h_ := hc_.2.2.2
          split at h_ <;> omega
      clear hcase
      refine V_pop (pc := 33) dX11_spans_33 rfl ?_
      refine V_ld (pc := 34) dX11_spans_34 (v := vr 30) rfl rfl ?_
      refine V_getIv (pc := 35) dX11_spans_35 (v := (Ix30 30 44)) fw_RX11_273 rfl hL.t30 rfl (fun g35 => ?_)
      refine V_if_eq (pc := 38) dX11_spans_38 (tgt := 46) rfl (fun h38 => ?_) (fun h38 => ?_)
      · skip
        refine V_ld (pc := 46) dX11_spans_46 (v := vi w) rfl rfl ?_
        refine V_if_ne (pc := 47) dX11_spans_47 (tgt := 57) rfl (fun h47 => ?_) (fun h47 => ?_)
        · skip
          refine V_ld (pc := 57) dX11_spans_57 (v := vr 30) rfl rfl ?_
          refine V_getIv (pc := 58) dX11_spans_58 (v := (Ix30 30 43)) fw_RX11_335 rfl hL.t30 rfl (fun g58 => ?_)
          refine V_reti (pc := 61) dX11_spans_61 trivial ?_
          refine ⟨Ix30, rfl, ?_, by rw [hR]; exact hq⟩
          rw [hR]
          unfold spaV
          first
            | (exfalso; omega)
            | (rw [if_pos (by omega)] <;> omega)
            | (rw [if_neg (by omega), if_pos (by omega)] <;> omega)
            | (rw [if_neg (by omega), if_pos (by omega)])
            | (rw [if_neg (by omega), if_neg (by omega), if_pos (by omega)] <;> omega)
            | (rw [if_neg (by omega), if_neg (by omega), if_neg (by omega)] <;> omega)
            | (rw [if_neg (by omega), if_neg (by omega)] <;> omega)
            | (rw [if_neg (by omega), if_neg (by omega)])
            | (rw [if_neg (by omega)] <;> omega)
        · skip
          refine V_ld (pc := 50) dX11_spans_50 (v := vr 30) rfl rfl ?_
          refine V_getIv (pc := 51) dX11_spans_51 (v := (Ix30 30 42)) fw_RX11_332 rfl hL.t30 rfl (fun g51 => ?_)
          refine V_goto (pc := 54) dX11_spans_54 (tgt := 61) rfl ?_
          refine V_reti (pc := 61) dX11_spans_61 trivial ?_
          refine ⟨Ix30, rfl, ?_, by rw [hR]; exact hq⟩
          rw [hR]
          unfold spaV
          first
            | (exfalso; omega)
            | (rw [if_pos (by omega)] <;> omega)
            | (rw [if_neg (by omega), if_pos (by omega)] <;> omega)
            | (rw [if_neg (by omega), if_pos (by omega)])
            | (rw [if_neg (by omega), if_neg (by omega), if_pos (by omega)] <;> omega)
            | (rw [if_neg (by omega), if_neg (by omega), if_neg (by omega)] <;> omega)
            | (rw [if_neg (by omega), if_neg (by omega)] <;> omega)
            | (rw [if_neg (by omega), if_neg (by omega)])
            | (rw [if_neg (by omega)] <;> omega)
      · skip
        refine V_bipush (pc := 41) dX11_spans_41 (by unfold I32; omega) (by decide) ?_
        refine V_goto (pc := 43) dX11_spans_43 (tgt := 61) rfl ?_
        refine V_reti (pc := 61) dX11_spans_61 trivial ?_
        refine ⟨Ix30, rfl, ?_, by rw [hR]; exact hq⟩
        rw [hR]
        unfold spaV
        first
          | (exfalso; omega)
          | (rw [if_pos (by omega)] <;> omega)
          | (rw [if_neg (by omega), if_pos (by omega)] <;> omega)
          | (rw [if_neg (by omega), if_pos (by omega)])
          | (rw [if_neg (by omega), if_neg (by omega), if_pos (by omega)] <;> omega)
          | (rw [if_neg (by omega), if_neg (by omega), if_neg (by omega)] <;> omega)
          | (rw [if_neg (by omega), if_neg (by omega)] <;> omega)
          | (rw [if_neg (by omega), if_neg (by omega)])
          | (rw [if_neg (by omega)] <;> omega)
    · skip
      refine V_ld (pc := 24) dX11_spans_24 (v := vi x16) rfl rfl ?_
      refine V_reti (pc := 25) dX11_spans_25 trivial ?_
      exfalso; omega
  · skip
    refine V_iconst (pc := 10) dX11_spans_10 (by unfold I32; omega) ?_
    refine V_goto (pc := 11) dX11_spans_11 (tgt := 19) rfl ?_
    refine V_st (pc := 19) dX11_spans_19 (ls' := [(3, vi (-1)), (0, vr 30), (1, vi st), (2, vi w)]) rfl (Nat.le_of_ble_eq_true rfl) rfl ?_
    refine V_ld (pc := 20) dX11_spans_20 (v := vi (-1)) rfl rfl ?_
    refine V_if_eq (pc := 21) dX11_spans_21 (tgt := 26) rfl (fun h_ => absurd h_ (by decide)) (fun _ => ?_)
    refine V_ld (pc := 24) dX11_spans_24 (v := vi (-1)) rfl rfl ?_
    refine V_reti (pc := 25) dX11_spans_25 trivial ?_
    exfalso; omega

set_option maxHeartbeats 4000000 in
theorem y_spansB  (m : Mem) (st : Int) (w : Int)   (hL : Lay (mT m) (mR m)) (hst : ¬ ((0 ≤ st ∧ st ≤ mI m 31 64) ∧ (w = 0 ∨ w = 1)) ∨ mI m 31 65 = 0) (hn : 0 ≤ mI m 31 64 ∧ mI m 31 64 ≤ 32) : Ct μX11_spans 34 [vr 30, vi st, vi w] m (ri fun x_ m' => (x_ = if (0 ≤ st ∧ st ≤ mI m 31 64) ∧ (w = 0 ∨ w = 1) then -3 else -1) ∧ m = m') := by
  refine Ct_of_V rfl (by decide) rfl (Nat.le_of_ble_eq_true rfl) ?_
  show V μX11_spans 34 m _ 0 [(0, vr 30), (1, vi st), (2, vi w)] [] m
  refine V_rg (k := 1) (x := st) rfl fun r_st => ?_
  refine V_rg (k := 2) (x := w) rfl fun r_w => ?_
  refine V_ld (pc := 0) dX11_spans_0 (v := vi w) rfl rfl ?_
  refine V_i2l (pc := 1) dX11_spans_1 ?_
  refine V_lconst (pc := 2) dX11_spans_2 (x := 0) (by unfold I64; omega) (by decide) ?_
  refine V_lconst (pc := 3) dX11_spans_3 (x := 1) (by unfold I64; omega) (by decide) ?_
  refine V_callS (pc := 4) dX11_spans_4 (F' := 0) (As := [vl w, vl 0, vl 1]) (st := []) cw_RX11_101 rfl rfl (Nat.le_of_ble_eq_true rfl) (by omega) (r_isIn  m w 0 1   ) ?_
  rintro _ _ ⟨x4, rfl, hx4, rfl⟩ ok4 le4
  refine V_if_ne (pc := 7) dX11_spans_7 (tgt := 14) rfl (fun h7 => ?_) (fun h7 => ?_)
  · skip
    refine V_ld (pc := 14) dX11_spans_14 (v := vr 30) rfl rfl ?_
    refine V_ld (pc := 15) dX11_spans_15 (v := vi st) rfl rfl ?_
    refine V_callV (pc := 16) dX11_spans_16 (F' := 1) (As := [vi st]) (st := []) cw_RX11_355 rfl rfl hL.t30 (by decide) (Nat.le_of_ble_eq_true rfl) (by omega) (y_wrong  m st   (by first | assumption | omega)) ?_
    rintro _ _ ⟨x16, rfl, hx16, rfl⟩ ok16 le16
    refine V_st (pc := 19) dX11_spans_19 (ls' := [(3, vi x16), (0, vr 30), (1, vi st), (2, vi w)]) rfl (Nat.le_of_ble_eq_true rfl) rfl ?_
    refine V_ld (pc := 20) dX11_spans_20 (v := vi x16) rfl rfl ?_
    refine V_if_eq (pc := 21) dX11_spans_21 (tgt := 26) rfl (fun h21 => ?_) (fun h21 => ?_)
    · skip
      exfalso; omega
    · skip
      refine V_ld (pc := 24) dX11_spans_24 (v := vi x16) rfl rfl ?_
      refine V_reti (pc := 25) dX11_spans_25 trivial ?_
      refine ⟨?_, rfl⟩
      by_cases hr_ : 0 ≤ st ∧ st ≤ mI m 31 64
      · by_cases h2_ : mI m 31 65 = 0
        · try have h3_ := (hx16.1 hr_).1 h2_
          first
            | (exfalso; omega)
            | (rw [if_pos (by omega)] <;> omega)
            | (rw [if_neg (by omega)] <;> omega)
        · try have h3_ := (hx16.1 hr_).2 h2_
          first
            | (exfalso; omega)
            | (rw [if_pos (by omega)] <;> omega)
            | (rw [if_neg (by omega)] <;> omega)
      · try have h3_ := hx16.2 hr_
        first
          | (exfalso; omega)
          | (rw [if_pos (by omega)] <;> omega)
          | (rw [if_neg (by omega)] <;> omega)
  · skip
    refine V_iconst (pc := 10) dX11_spans_10 (by unfold I32; omega) ?_
    refine V_goto (pc := 11) dX11_spans_11 (tgt := 19) rfl ?_
    refine V_st (pc := 19) dX11_spans_19 (ls' := [(3, vi (-1)), (0, vr 30), (1, vi st), (2, vi w)]) rfl (Nat.le_of_ble_eq_true rfl) rfl ?_
    refine V_ld (pc := 20) dX11_spans_20 (v := vi (-1)) rfl rfl ?_
    refine V_if_eq (pc := 21) dX11_spans_21 (tgt := 26) rfl (fun h_ => absurd h_ (by decide)) (fun _ => ?_)
    refine V_ld (pc := 24) dX11_spans_24 (v := vi (-1)) rfl rfl ?_
    refine V_reti (pc := 25) dX11_spans_25 trivial ?_
    refine ⟨?_, rfl⟩
    by_cases hr_ : 0 ≤ st ∧ st ≤ mI m 31 64
    · by_cases h2_ : mI m 31 65 = 0
      · try have h3_ := (hx16.1 hr_).1 h2_
        first
          | (exfalso; omega)
          | (rw [if_pos (by omega)] <;> omega)
          | (rw [if_neg (by omega)] <;> omega)
      · try have h3_ := (hx16.1 hr_).2 h2_
        first
          | (exfalso; omega)
          | (rw [if_pos (by omega)] <;> omega)
          | (rw [if_neg (by omega)] <;> omega)
    · try have h3_ := hx16.2 hr_
      first
        | (exfalso; omega)
        | (rw [if_pos (by omega)] <;> omega)
        | (rw [if_neg (by omega)] <;> omega)

set_option maxHeartbeats 4000000 in
theorem y_fitsS (tx : Nat → Int) (nt : Nat) (F : Tb) (c : Nat) (n : Int) (may : Int) (hcn : Nat → CEnv → Int) (cl : Nat → Int) (J : SJ) (m : Mem) (st : Int) (e : Int)   (hL : Lay (mT m) (mR m)) (ht : mI m 31 65 = (nt : Int) ∧ 0 < nt ∧ nt ≤ 120) (htx : txR (mI m) 31 66 tx nt ∧ PatW tx nt) (hFc : F = (altL tx nt 5 S0).2.2.2.2 ∧ c = (altL tx nt 5 S0).2.2.2.1) (hB : RB1 (mI m) n may hcn cl) (hl : (∀ k, mI m 45 k = J.2.1 k) ∧ (mI m 30 27 = 0 ∨ mI m 30 27 = 1)) (hst : 0 ≤ st ∧ st ≤ n) (hw : st ≤ e ∧ e ≤ n) : Ct μX11_fits 34 [vr 30, vi st, vi e] m (ri fun x_ m' => ∃ I_ : Nat → Nat → Int, wI m I_ = m' ∧ (x_ = (if (seekA F c n may hcn cl e st J).1 = -7 then -7 else if (seekA F c n may hcn cl e st J).1 = 1 then 1 else 0)) ∧ SrQ (mI m) I_ (seekA F c n may hcn cl e st J)) := by
  refine Ct_of_V rfl (by decide) rfl (Nat.le_of_ble_eq_true rfl) ?_
  show V μX11_fits 34 m _ 0 [(0, vr 30), (1, vi st), (2, vi e)] [] m
  refine V_rg (k := 1) (x := st) rfl fun r_st => ?_
  refine V_rg (k := 2) (x := e) rfl fun r_e => ?_
  have hn64 := hB.1.1
  have hpw := pat_wf htx.2 F c (c - 1) hFc.1 hFc.2 rfl
  have hinv := seekA_inv (hc := hcn) (cl := cl) (e := e) (st := st) (n := n) (may := may) (J := J) hpw.2.2.1 ⟨hpw.1, hpw.2.2.2.2.2.2.1, hpw.2.2.2.2.2.2.2⟩ ⟨hst.1, hst.2, hB.1.2.2.1⟩ ⟨hB.1.2.2.2.2.1, hB.1.2.2.2.2.2⟩
  obtain ⟨R, hR⟩ : ∃ R, (seekA F c n may hcn cl e st J) = R := ⟨_, rfl⟩
  rw [hR] at hinv
  have hn3 := hB.1.2
  clear hpw
  refine V_ld (pc := 0) dX11_fits_0 (v := vi e) rfl rfl ?_
  refine V_i2l (pc := 1) dX11_fits_1 ?_
  refine V_iconst (pc := 2) dX11_fits_2 (by unfold I32; omega) ?_
  refine V_ld (pc := 3) dX11_fits_3 (v := vi st) rfl rfl ?_
  refine V_callS (pc := 4) dX11_fits_4 (F' := 0) (As := [vi 0, vi st]) (st := [vl e]) cw_RX11_352 rfl rfl (Nat.le_of_ble_eq_true rfl) (by omega) (j_max_i  m 0 st   ) ?_
  rintro _ _ ⟨x4, rfl, hx4, rfl⟩ ok4 le4
  refine V_i2l (pc := 7) dX11_fits_7 ?_
  refine V_ld (pc := 8) dX11_fits_8 (v := vr 30) rfl rfl ?_
  refine V_callV (pc := 9) dX11_fits_9 (F' := 0) (As := []) (st := [vl x4, vl e]) cw_RX11_97 rfl rfl hL.t30 (by decide) (Nat.le_of_ble_eq_true rfl) (by omega) (r_many  m    (by first | assumption | omega)) ?_
  rintro _ _ ⟨x9, rfl, hx9, rfl⟩ ok9 le9
  obtain rfl : x9 = mI m 31 64 := hx9.trans rfl
  refine V_i2l (pc := 12) dX11_fits_12 ?_
  refine V_callS (pc := 13) dX11_fits_13 (F' := 0) (As := [vl e, vl x4, vl (mI m 31 64)]) (st := []) cw_RX11_101 rfl rfl (Nat.le_of_ble_eq_true rfl) (by omega) (r_isIn  m e x4 (mI m 31 64)   ) ?_
  rintro _ _ ⟨x13, rfl, hx13, rfl⟩ ok13 le13
  refine V_if_ne (pc := 16) dX11_fits_16 (tgt := 23) rfl (fun h16 => ?_) (fun h16 => ?_)
  · skip
    refine V_ld (pc := 23) dX11_fits_23 (v := vr 30) rfl rfl ?_
    refine V_ld (pc := 24) dX11_fits_24 (v := vi st) rfl rfl ?_
    refine V_callV (pc := 25) dX11_fits_25 (F' := 1) (As := [vi st]) (st := []) cw_RX11_355 rfl rfl hL.t30 (by decide) (Nat.le_of_ble_eq_true rfl) (by omega) (y_wrong  m st   (by first | assumption | omega)) ?_
    rintro _ _ ⟨x25, rfl, hx25, rfl⟩ ok25 le25
    refine V_st (pc := 28) dX11_fits_28 (ls' := [(3, vi x25), (0, vr 30), (1, vi st), (2, vi e)]) rfl (Nat.le_of_ble_eq_true rfl) rfl ?_
    refine V_ld (pc := 29) dX11_fits_29 (v := vi x25) rfl rfl ?_
    refine V_if_eq (pc := 30) dX11_fits_30 (tgt := 35) rfl (fun h30 => ?_) (fun h30 => ?_)
    · skip
      refine V_ld (pc := 35) dX11_fits_35 (v := vr 30) rfl rfl ?_
      refine V_ld (pc := 36) dX11_fits_36 (v := vi st) rfl rfl ?_
      refine V_ld (pc := 37) dX11_fits_37 (v := vi e) rfl rfl ?_
      refine V_callV (pc := 38) dX11_fits_38 (F' := 33) (As := [vi st, vi e]) (st := []) cw_RX11_358 rfl rfl hL.t30 (by decide) (Nat.le_of_ble_eq_true rfl) (by omega) (y_search tx nt F c n may hcn cl J m st e   (by first | assumption | omega) ht htx hFc hB hl hst) ?_
      rintro _ _ ⟨x38, rfl, Ix38, rfl, hx38, hm38⟩ ok38 le38
      rw [hR] at hm38
      have hq : SrQ (mI m) Ix38 R := ⟨_, hm38⟩
      obtain ⟨-, hlt, -, hcase⟩ := hm38
      have hz : R.1 ≠ -7 → Ix38 30 40 = R.2.1 9 ∧ Ix38 30 39 = R.2.1 10 ∧ Ix38 30 41 = R.2.1 11 ∧ (R.2.1 11 = 0 → Ix38 30 42 = -5 ∧ Ix38 30 43 = -5) ∧ (R.2.1 11 ≠ 0 → Ix38 30 42 = R.2.1 12 ∧ Ix38 30 43 = R.2.1 13) := fun h_ => by
        rcases hcase with hc_ | hc_
        · exact absurd hc_.1 h_
        · obtain ⟨b1, b2, b3, b4, b5, b6, b7, b8⟩ := hc_.2.2.1
          exact ⟨b4, b5, b6, fun h2_ => ⟨(b7 h2_).1, (b7 h2_).2.1⟩, b8⟩
      have hc4 : (R.1 = -7 ∧ Ix38 30 44 = 1) ∨ (R.1 ≠ -7 ∧ Ix38 30 44 = 0 ∧ ((R.1 = 1 ∧ x38 = 1) ∨ (R.1 ≠ 1 ∧ x38 = 0))) := by
        rcases hcase with hc_ | hc_
        · exact Or.inl ⟨hc_.1, hc_.2.1⟩
        · refine Or.inr ⟨hc_.1, hc_.2.1, ?_⟩
          have h_ := hc_.2.2.2
          split at h_ <;> omega
      clear hcase
      refine V_st (pc := 41) dX11_fits_41 (ls' := [(4, vi x38), (3, vi x25), (0, vr 30), (1, vi st), (2, vi e)]) rfl (Nat.le_of_ble_eq_true rfl) rfl ?_
      refine V_ld (pc := 43) dX11_fits_43 (v := vr 30) rfl rfl ?_
      refine V_getIv (pc := 44) dX11_fits_44 (v := (Ix38 30 44)) fw_RX11_273 rfl hL.t30 rfl (fun g44 => ?_)
      refine V_if_eq (pc := 47) dX11_fits_47 (tgt := 55) rfl (fun h47 => ?_) (fun h47 => ?_)
      · skip
        refine V_ld (pc := 55) dX11_fits_55 (v := vi x38) rfl rfl ?_
        refine V_if_eq (pc := 57) dX11_fits_57 (tgt := 64) rfl (fun h57 => ?_) (fun h57 => ?_)
        · skip
          refine V_iconst (pc := 64) dX11_fits_64 (by unfold I32; omega) ?_
          refine V_reti (pc := 65) dX11_fits_65 trivial ?_
          refine ⟨Ix38, rfl, ?_, by rw [hR]; exact hq⟩
          rw [hR]
          first
            | (exfalso; omega)
            | (rw [if_pos (by omega)] <;> omega)
            | (rw [if_neg (by omega), if_pos (by omega)] <;> omega)
            | (rw [if_neg (by omega), if_pos (by omega)])
            | (rw [if_neg (by omega), if_neg (by omega), if_pos (by omega)] <;> omega)
            | (rw [if_neg (by omega), if_neg (by omega), if_neg (by omega)] <;> omega)
            | (rw [if_neg (by omega), if_neg (by omega)] <;> omega)
            | (rw [if_neg (by omega), if_neg (by omega)])
            | (rw [if_neg (by omega)] <;> omega)
        · skip
          refine V_iconst (pc := 60) dX11_fits_60 (by unfold I32; omega) ?_
          refine V_goto (pc := 61) dX11_fits_61 (tgt := 65) rfl ?_
          refine V_reti (pc := 65) dX11_fits_65 trivial ?_
          refine ⟨Ix38, rfl, ?_, by rw [hR]; exact hq⟩
          rw [hR]
          first
            | (exfalso; omega)
            | (rw [if_pos (by omega)] <;> omega)
            | (rw [if_neg (by omega), if_pos (by omega)] <;> omega)
            | (rw [if_neg (by omega), if_pos (by omega)])
            | (rw [if_neg (by omega), if_neg (by omega), if_pos (by omega)] <;> omega)
            | (rw [if_neg (by omega), if_neg (by omega), if_neg (by omega)] <;> omega)
            | (rw [if_neg (by omega), if_neg (by omega)] <;> omega)
            | (rw [if_neg (by omega), if_neg (by omega)])
            | (rw [if_neg (by omega)] <;> omega)
      · skip
        refine V_bipush (pc := 50) dX11_fits_50 (by unfold I32; omega) (by decide) ?_
        refine V_goto (pc := 52) dX11_fits_52 (tgt := 65) rfl ?_
        refine V_reti (pc := 65) dX11_fits_65 trivial ?_
        refine ⟨Ix38, rfl, ?_, by rw [hR]; exact hq⟩
        rw [hR]
        first
          | (exfalso; omega)
          | (rw [if_pos (by omega)] <;> omega)
          | (rw [if_neg (by omega), if_pos (by omega)] <;> omega)
          | (rw [if_neg (by omega), if_pos (by omega)])
          | (rw [if_neg (by omega), if_neg (by omega), if_pos (by omega)] <;> omega)
          | (rw [if_neg (by omega), if_neg (by omega), if_neg (by omega)] <;> omega)
          | (rw [if_neg (by omega), if_neg (by omega)] <;> omega)
          | (rw [if_neg (by omega), if_neg (by omega)])
          | (rw [if_neg (by omega)] <;> omega)
    · skip
      refine V_ld (pc := 33) dX11_fits_33 (v := vi x25) rfl rfl ?_
      refine V_reti (pc := 34) dX11_fits_34 trivial ?_
      exfalso; omega
  · skip
    refine V_iconst (pc := 19) dX11_fits_19 (by unfold I32; omega) ?_
    refine V_goto (pc := 20) dX11_fits_20 (tgt := 28) rfl ?_
    refine V_st (pc := 28) dX11_fits_28 (ls' := [(3, vi (-1)), (0, vr 30), (1, vi st), (2, vi e)]) rfl (Nat.le_of_ble_eq_true rfl) rfl ?_
    refine V_ld (pc := 29) dX11_fits_29 (v := vi (-1)) rfl rfl ?_
    refine V_if_eq (pc := 30) dX11_fits_30 (tgt := 35) rfl (fun h_ => absurd h_ (by decide)) (fun _ => ?_)
    refine V_ld (pc := 33) dX11_fits_33 (v := vi (-1)) rfl rfl ?_
    refine V_reti (pc := 34) dX11_fits_34 trivial ?_
    exfalso; omega

set_option maxHeartbeats 4000000 in
theorem y_fitsB  (m : Mem) (st : Int) (e : Int)   (hL : Lay (mT m) (mR m)) (hst : ¬ ((0 ≤ st ∧ st ≤ mI m 31 64) ∧ (st ≤ e ∧ e ≤ mI m 31 64)) ∨ mI m 31 65 = 0) (hn : 0 ≤ mI m 31 64 ∧ mI m 31 64 ≤ 32) : Ct μX11_fits 34 [vr 30, vi st, vi e] m (ri fun x_ m' => (x_ = if (0 ≤ st ∧ st ≤ mI m 31 64) ∧ (st ≤ e ∧ e ≤ mI m 31 64) then -3 else -1) ∧ m = m') := by
  refine Ct_of_V rfl (by decide) rfl (Nat.le_of_ble_eq_true rfl) ?_
  show V μX11_fits 34 m _ 0 [(0, vr 30), (1, vi st), (2, vi e)] [] m
  refine V_rg (k := 1) (x := st) rfl fun r_st => ?_
  refine V_rg (k := 2) (x := e) rfl fun r_e => ?_
  refine V_ld (pc := 0) dX11_fits_0 (v := vi e) rfl rfl ?_
  refine V_i2l (pc := 1) dX11_fits_1 ?_
  refine V_iconst (pc := 2) dX11_fits_2 (by unfold I32; omega) ?_
  refine V_ld (pc := 3) dX11_fits_3 (v := vi st) rfl rfl ?_
  refine V_callS (pc := 4) dX11_fits_4 (F' := 0) (As := [vi 0, vi st]) (st := [vl e]) cw_RX11_352 rfl rfl (Nat.le_of_ble_eq_true rfl) (by omega) (j_max_i  m 0 st   ) ?_
  rintro _ _ ⟨x4, rfl, hx4, rfl⟩ ok4 le4
  refine V_i2l (pc := 7) dX11_fits_7 ?_
  refine V_ld (pc := 8) dX11_fits_8 (v := vr 30) rfl rfl ?_
  refine V_callV (pc := 9) dX11_fits_9 (F' := 0) (As := []) (st := [vl x4, vl e]) cw_RX11_97 rfl rfl hL.t30 (by decide) (Nat.le_of_ble_eq_true rfl) (by omega) (r_many  m    (by first | assumption | omega)) ?_
  rintro _ _ ⟨x9, rfl, hx9, rfl⟩ ok9 le9
  obtain rfl : x9 = mI m 31 64 := hx9.trans rfl
  refine V_i2l (pc := 12) dX11_fits_12 ?_
  refine V_callS (pc := 13) dX11_fits_13 (F' := 0) (As := [vl e, vl x4, vl (mI m 31 64)]) (st := []) cw_RX11_101 rfl rfl (Nat.le_of_ble_eq_true rfl) (by omega) (r_isIn  m e x4 (mI m 31 64)   ) ?_
  rintro _ _ ⟨x13, rfl, hx13, rfl⟩ ok13 le13
  refine V_if_ne (pc := 16) dX11_fits_16 (tgt := 23) rfl (fun h16 => ?_) (fun h16 => ?_)
  · skip
    refine V_ld (pc := 23) dX11_fits_23 (v := vr 30) rfl rfl ?_
    refine V_ld (pc := 24) dX11_fits_24 (v := vi st) rfl rfl ?_
    refine V_callV (pc := 25) dX11_fits_25 (F' := 1) (As := [vi st]) (st := []) cw_RX11_355 rfl rfl hL.t30 (by decide) (Nat.le_of_ble_eq_true rfl) (by omega) (y_wrong  m st   (by first | assumption | omega)) ?_
    rintro _ _ ⟨x25, rfl, hx25, rfl⟩ ok25 le25
    refine V_st (pc := 28) dX11_fits_28 (ls' := [(3, vi x25), (0, vr 30), (1, vi st), (2, vi e)]) rfl (Nat.le_of_ble_eq_true rfl) rfl ?_
    refine V_ld (pc := 29) dX11_fits_29 (v := vi x25) rfl rfl ?_
    refine V_if_eq (pc := 30) dX11_fits_30 (tgt := 35) rfl (fun h30 => ?_) (fun h30 => ?_)
    · skip
      exfalso; omega
    · skip
      refine V_ld (pc := 33) dX11_fits_33 (v := vi x25) rfl rfl ?_
      refine V_reti (pc := 34) dX11_fits_34 trivial ?_
      refine ⟨?_, rfl⟩
      by_cases hr_ : 0 ≤ st ∧ st ≤ mI m 31 64
      · by_cases h2_ : mI m 31 65 = 0
        · try have h3_ := (hx25.1 hr_).1 h2_
          first
            | (exfalso; omega)
            | (rw [if_pos (by omega)] <;> omega)
            | (rw [if_neg (by omega)] <;> omega)
        · try have h3_ := (hx25.1 hr_).2 h2_
          first
            | (exfalso; omega)
            | (rw [if_pos (by omega)] <;> omega)
            | (rw [if_neg (by omega)] <;> omega)
      · try have h3_ := hx25.2 hr_
        first
          | (exfalso; omega)
          | (rw [if_pos (by omega)] <;> omega)
          | (rw [if_neg (by omega)] <;> omega)
  · skip
    refine V_iconst (pc := 19) dX11_fits_19 (by unfold I32; omega) ?_
    refine V_goto (pc := 20) dX11_fits_20 (tgt := 28) rfl ?_
    refine V_st (pc := 28) dX11_fits_28 (ls' := [(3, vi (-1)), (0, vr 30), (1, vi st), (2, vi e)]) rfl (Nat.le_of_ble_eq_true rfl) rfl ?_
    refine V_ld (pc := 29) dX11_fits_29 (v := vi (-1)) rfl rfl ?_
    refine V_if_eq (pc := 30) dX11_fits_30 (tgt := 35) rfl (fun h_ => absurd h_ (by decide)) (fun _ => ?_)
    refine V_ld (pc := 33) dX11_fits_33 (v := vi (-1)) rfl rfl ?_
    refine V_reti (pc := 34) dX11_fits_34 trivial ?_
    refine ⟨?_, rfl⟩
    by_cases hr_ : 0 ≤ st ∧ st ≤ mI m 31 64
    · by_cases h2_ : mI m 31 65 = 0
      · try have h3_ := (hx25.1 hr_).1 h2_
        first
          | (exfalso; omega)
          | (rw [if_pos (by omega)] <;> omega)
          | (rw [if_neg (by omega)] <;> omega)
      · try have h3_ := (hx25.1 hr_).2 h2_
        first
          | (exfalso; omega)
          | (rw [if_pos (by omega)] <;> omega)
          | (rw [if_neg (by omega)] <;> omega)
    · try have h3_ := hx25.2 hr_
      first
        | (exfalso; omega)
        | (rw [if_pos (by omega)] <;> omega)
        | (rw [if_neg (by omega)] <;> omega)
