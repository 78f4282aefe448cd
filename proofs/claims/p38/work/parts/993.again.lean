/-! match() asks of the matches that there are; pattern() with its array -/
set_option maxHeartbeats 4000000 in
theorem c_rowsOf2  (m : Mem) (t : Nat) (j : Int) (a : Nat) (b : Nat)  (T_t : mT m t = (3, 4)) (R_t_0 : mR m t 0 = some a) (R_t_1 : mR m t 1 = some b) (T_a : mT m a = (20, 33)) (T_b : mT m b = (20, 33)) (hr : ∀ j : Nat, j < 33 → (j : Int) < mI m t 3 → 0 ≤ mI m a j ∧ mI m a j ≤ 100 ∧ 0 ≤ mI m b j ∧ mI m b j ≤ 100) : Ct μX3_rowsOf 1 [vr t, vi j] m (ri fun x_ m' => (x_ = if 0 ≤ j ∧ j < mI m t 3 ∧ j < 33 then mI m b j.toNat - mI m a j.toNat else -1) ∧ m = m') := by
  refine Ct_of_V rfl (by decide) rfl (Nat.le_of_ble_eq_true rfl) ?_
  show V μX3_rowsOf 1 m _ 0 [(0, vr t), (1, vi j)] [] m
  refine V_rg (k := 1) (x := j) rfl fun r_j => ?_
  have hrj := hr j.toNat
  refine V_ld (pc := 0) dX3_rowsOf_0 (v := vr t) rfl rfl ?_
  refine V_ld (pc := 1) dX3_rowsOf_1 (v := vi j) rfl rfl ?_
  refine V_callV (pc := 2) dX3_rowsOf_2 (F' := 0) (As := [vi j]) (st := []) cw_RX3_37 rfl rfl T_t (by decide) (Nat.le_of_ble_eq_true rfl) (by omega) (c_M_has  m t j   T_t) ?_
  rintro _ _ ⟨x2, rfl, hx2, rfl⟩ ok2 le2
  refine V_if_eq (pc := 5) dX3_rowsOf_5 (tgt := 24) rfl (fun h5 => ?_) (fun h5 => ?_)
  · skip
    refine V_iconst (pc := 24) dX3_rowsOf_24 (by unfold I32; omega) ?_
    refine V_reti (pc := 25) dX3_rowsOf_25 trivial ?_
    exact ⟨by omega, rfl⟩
  · skip
    refine V_ld (pc := 8) dX3_rowsOf_8 (v := vr t) rfl rfl ?_
    refine V_getRv (pc := 9) dX3_rowsOf_9 (o' := b) fw_RX3_15 rfl T_t R_t_1 ?_
    refine V_ld (pc := 12) dX3_rowsOf_12 (v := vi j) rfl rfl ?_
    refine V_ialdv (pc := 13) dX3_rowsOf_13 (v := mI m b j.toNat) T_b (by omega) rfl (fun g13 => ?_)
    refine V_ld (pc := 14) dX3_rowsOf_14 (v := vr t) rfl rfl ?_
    refine V_getRv (pc := 15) dX3_rowsOf_15 (o' := a) fw_RX3_11 rfl T_t R_t_0 ?_
    refine V_ld (pc := 18) dX3_rowsOf_18 (v := vi j) rfl rfl ?_
    refine V_ialdv (pc := 19) dX3_rowsOf_19 (v := mI m a j.toNat) T_a (by omega) rfl (fun g19 => ?_)
    refine V_isub (pc := 20) dX3_rowsOf_20 (by unfold I32 at *; omega) ?_
    refine V_goto (pc := 21) dX3_rowsOf_21 (tgt := 25) rfl ?_
    refine V_reti (pc := 25) dX3_rowsOf_25 trivial ?_
    exact ⟨by omega, rfl⟩

set_option maxHeartbeats 4000000 in
theorem c_match2  (m : Mem) (j : Int) (w : Int) (M : Nat) (a : Nat) (b : Nat) (c : Nat)  (hL : Lay (mT m) (mR m)) (R_1_3 : mR m 1 3 = some M) (T_M : mT m M = (3, 4)) (R_M_0 : mR m M 0 = some a) (R_M_1 : mR m M 1 = some b) (R_M_2 : mR m M 2 = some c) (T_a : mT m a = (20, 33)) (T_b : mT m b = (20, 33)) (T_c : mT m c = (20, 1056)) (hr : ∀ j : Nat, j < 33 → (j : Int) < mI m M 3 → 0 ≤ mI m a j ∧ mI m a j ≤ 100 ∧ 0 ≤ mI m b j ∧ mI m b j ≤ 100) (hn : 0 ≤ mI m M 3 ∧ mI m M 3 ≤ 33) (hl : ∀ k : Nat, k < 1056 → (k : Int) < 32 * mI m M 3 → mI m c k = -5 ∨ (0 ≤ mI m c k ∧ mI m c k ≤ 25)) : Ct μX10_match 4 [vr 0, vi j, vi w] m (ri fun x_ m' => (x_ = if (0 ≤ j ∧ j < mI m M 3) ∧ 0 ≤ w ∧ w ≤ 3 then (if w = 0 then mI m a j.toNat else if w = 1 then mI m b j.toNat - mI m a j.toNat else if w = 2 then (popN 32 (bitsF (labC m c j) 32).toNat : Int) else bitsF (labC m c j) 32) else -1) ∧ m = m') := by
  refine Ct_of_V rfl (by decide) rfl (Nat.le_of_ble_eq_true rfl) ?_
  show V μX10_match 4 m _ 0 [(0, vr 0), (1, vi j), (2, vi w)] [] m
  refine V_rg (k := 1) (x := j) rfl fun r_j => ?_
  refine V_rg (k := 2) (x := w) rfl fun r_w => ?_
  refine V_ld (pc := 0) dX10_match_0 (v := vr 0) rfl rfl ?_
  refine V_getRv (pc := 1) dX10_match_1 (o' := 1) fw_RX10_12 rfl hL.t0 hL.r0_0 ?_
  refine V_getRv (pc := 4) dX10_match_4 (o' := M) fw_RX10_69 rfl hL.t1 R_1_3 ?_
  refine V_ld (pc := 7) dX10_match_7 (v := vi j) rfl rfl ?_
  refine V_callV (pc := 8) dX10_match_8 (F' := 0) (As := [vi j]) (st := []) cw_RX10_181 rfl rfl T_M (by decide) (Nat.le_of_ble_eq_true rfl) (by omega) (c_M_has  m M j   T_M) ?_
  rintro _ _ ⟨x8, rfl, hx8, rfl⟩ ok8 le8
  refine V_if_ne (pc := 11) dX10_match_11 (tgt := 16) rfl (fun h11 => ?_) (fun h11 => ?_)
  · skip
    refine V_ld (pc := 16) dX10_match_16 (v := vi w) rfl rfl ?_
    by_cases h17_0 : w = 0
    · skip
      refine V_tsIn (pc := 17) dX10_match_17 (cx := 0) (off := 31) (tgt := 48) h17_0 (by omega) rfl rfl ?_
      refine V_ld (pc := 48) dX10_match_48 (v := vr 0) rfl rfl ?_
      refine V_getRv (pc := 49) dX10_match_49 (o' := 1) fw_RX10_12 rfl hL.t0 hL.r0_0 ?_
      refine V_getRv (pc := 52) dX10_match_52 (o' := M) fw_RX10_69 rfl hL.t1 R_1_3 ?_
      refine V_ld (pc := 55) dX10_match_55 (v := vi j) rfl rfl ?_
      refine V_callV (pc := 56) dX10_match_56 (F' := 1) (As := [vi j]) (st := []) cw_RX10_184 rfl rfl T_M (by decide) (Nat.le_of_ble_eq_true rfl) (by omega) (c_startOf  m M j a  T_M R_M_0 T_a) ?_
      rintro _ _ ⟨x56, rfl, hx56, rfl⟩ ok56 le56
      refine V_reti (pc := 59) dX10_match_59 trivial ?_
      exact ⟨by omega, rfl⟩
    by_cases h17_1 : w = 1
    · skip
      refine V_tsIn (pc := 17) dX10_match_17 (cx := 1) (off := 43) (tgt := 60) h17_1 (by omega) rfl rfl ?_
      refine V_ld (pc := 60) dX10_match_60 (v := vr 0) rfl rfl ?_
      refine V_getRv (pc := 61) dX10_match_61 (o' := 1) fw_RX10_12 rfl hL.t0 hL.r0_0 ?_
      refine V_getRv (pc := 64) dX10_match_64 (o' := M) fw_RX10_69 rfl hL.t1 R_1_3 ?_
      refine V_ld (pc := 67) dX10_match_67 (v := vi j) rfl rfl ?_
      refine V_callV (pc := 68) dX10_match_68 (F' := 1) (As := [vi j]) (st := []) cw_RX10_187 rfl rfl T_M (by decide) (Nat.le_of_ble_eq_true rfl) (by omega) (c_rowsOf2  m M j a b  T_M R_M_0 R_M_1 T_a T_b hr) ?_
      rintro _ _ ⟨x68, rfl, hx68, rfl⟩ ok68 le68
      refine V_reti (pc := 71) dX10_match_71 trivial ?_
      exact ⟨by omega, rfl⟩
    by_cases h17_2 : w = 2
    · skip
      refine V_tsIn (pc := 17) dX10_match_17 (cx := 2) (off := 55) (tgt := 72) h17_2 (by omega) rfl rfl ?_
      refine V_ld (pc := 72) dX10_match_72 (v := vr 0) rfl rfl ?_
      refine V_getRv (pc := 73) dX10_match_73 (o' := 1) fw_RX10_12 rfl hL.t0 hL.r0_0 ?_
      refine V_getRv (pc := 76) dX10_match_76 (o' := M) fw_RX10_69 rfl hL.t1 R_1_3 ?_
      refine V_ld (pc := 79) dX10_match_79 (v := vi j) rfl rfl ?_
      refine V_callV (pc := 80) dX10_match_80 (F' := 2) (As := [vi j]) (st := []) cw_RX10_190 rfl rfl T_M (by decide) (Nat.le_of_ble_eq_true rfl) (by omega) (c_lettersOf  m M j c  T_M R_M_2 T_c (by omega)) ?_
      rintro _ _ ⟨x80, rfl, rfl, rfl⟩ ok80 le80
      refine V_callS (pc := 83) dX10_match_83 (F' := 0) (As := [vi (bitsF (labC m c j) 32)]) (st := []) cw_RX10_193 rfl rfl (Nat.le_of_ble_eq_true rfl) (by omega) (j_bitCount  m (bitsF (labC m c j) 32)   (by have := bitsF_bd (labC m c j) 32 (fun k hk => hl _ (by omega) (by omega)) 32 (by omega); omega)) ?_
      rintro _ _ ⟨x83, rfl, hx83, rfl⟩ ok83 le83
      refine V_reti (pc := 86) dX10_match_86 trivial ?_
      exact ⟨by omega, rfl⟩
    by_cases h17_3 : w = 3
    · skip
      refine V_tsIn (pc := 17) dX10_match_17 (cx := 3) (off := 70) (tgt := 87) h17_3 (by omega) rfl rfl ?_
      refine V_ld (pc := 87) dX10_match_87 (v := vr 0) rfl rfl ?_
      refine V_getRv (pc := 88) dX10_match_88 (o' := 1) fw_RX10_12 rfl hL.t0 hL.r0_0 ?_
      refine V_getRv (pc := 91) dX10_match_91 (o' := M) fw_RX10_69 rfl hL.t1 R_1_3 ?_
      refine V_ld (pc := 94) dX10_match_94 (v := vi j) rfl rfl ?_
      refine V_callV (pc := 95) dX10_match_95 (F' := 2) (As := [vi j]) (st := []) cw_RX10_190 rfl rfl T_M (by decide) (Nat.le_of_ble_eq_true rfl) (by omega) (c_lettersOf  m M j c  T_M R_M_2 T_c (by omega)) ?_
      rintro _ _ ⟨x95, rfl, hx95, rfl⟩ ok95 le95
      refine V_reti (pc := 98) dX10_match_98 trivial ?_
      exact ⟨by omega, rfl⟩
    refine V_tsOut (pc := 17) dX10_match_17 (tgt := 99) (by omega) rfl ?_
    refine V_iconst (pc := 99) dX10_match_99 (by unfold I32; omega) ?_
    refine V_reti (pc := 100) dX10_match_100 trivial ?_
    exact ⟨by omega, rfl⟩
  · skip
    refine V_iconst (pc := 14) dX10_match_14 (by unfold I32; omega) ?_
    refine V_reti (pc := 15) dX10_match_15 trivial ?_
    exact ⟨by omega, rfl⟩

def PatC2 (m : Mem) (M n : Nat) (tx : Nat → Int) (x : Int) (m' : Mem) : Prop := PatC m M n tx x m' ∧ (PatW tx n → mR m' (mN m + 1) 0 = some (mN m + 2))

set_option maxHeartbeats 8000000 in
theorem c_pattern2 (tx : Nat → Int) (n : Nat) (m : Mem)  (M : Nat)  (hL : Lay (mT m) (mR m)) (R_1_3 : mR m 1 3 = some M) (T_M : mT m M = (3, 4)) (hM : M = 5 ∨ M = 18) (ht : mI m 13 1 = (n : Int) ∧ n ≤ 120) (htx : ∀ k, k < n → mI m 14 k = tx k ∧ 1 ≤ tx k ∧ tx k ≤ 127) (hr : 59 ≤ mN m ∧ mN m + 3 ≤ NN ∧ mZ m + 6 + 18 * n ≤ ZZ) : Ct μX10_pattern 34 [vr 0] m (ri fun x_ m' => (True) ∧ PatC2 m M n tx x_ m') := by
  refine Ct_of_V rfl (by decide) rfl (Nat.le_of_ble_eq_true rfl) ?_
  show V μX10_pattern 34 m _ 0 [(0, vr 0)] [] m
  have hat := (altC_nice tx n 5 S0).1 (Nat.zero_le n)
  refine V_newv (pc := 0) (mN m) rfl dX10_pattern_0 nw_RX10_91 (by omega) (by show mZ m + 4 ≤ ZZ; omega) ?_
  refine V_dup (pc := 3) dX10_pattern_3 rfl ?_
  refine V_ld (pc := 4) dX10_pattern_4 (v := vr 0) rfl rfl ?_
  refine V_getRv (pc := 5) dX10_pattern_5 (o' := 13) fw_RX10_30 rfl ((mT_newne (M := m) (c := 5) (n := 4) (o := 0) (mN m) rfl (by omega)).trans hL.t0) ((mR_newne (M := m) (c := 5) (n := 4) (o := 0) (mN m) rfl (by omega)).trans hL.r0_2) ?_
  refine V_callI (pc := 8) dX10_pattern_8 (F' := 2) (As := [vr 13]) (st := [vr (mN m)]) cw_RX10_93 rfl rfl (Nat.le_of_ble_eq_true rfl) (by omega) (c_PR_init n (newO m 5 4) (mN m)   (mT_news (M := m) rfl) ((mT_newne (M := m) (c := 5) (n := 4) (o := 13) (mN m) rfl (by omega)).trans hL.t13) ⟨(mI_newne (mN m) rfl (by omega)).trans ht.1, ht.2, by omega, Nat.lt_succ_self _, by show mN m + 1 + 2 ≤ NN; omega, by show mZ m + 4 + 2 + 18 * n ≤ ZZ; omega⟩) ?_
  rintro _ _ ⟨rfl, rfl⟩ ok8 le8
  refine V_mem (m' := PM m n) rfl ?_
  have hL2 : Lay (mT (PM m n)) (mR (PM m n)) := Lay.ext hL hr.1 PM_ext
  have hQ : PLay (PM m n) (mN m) n := PM_lay hr.1
  have hP0 : CP (mI (PM m n)) (mN m) tx n S0 := PM_CP hr.1 ht.1 ht.2 htx
  have hE := PM_ext (m := m) (n := n)
  refine V_st (pc := 11) dX10_pattern_11 (ls' := [(1, vr (mN m)), (0, vr 0)]) rfl (Nat.le_of_ble_eq_true rfl) rfl ?_
  refine V_ld (pc := 12) dX10_pattern_12 (v := vr (mN m)) rfl rfl ?_
  refine V_callV (pc := 13) dX10_pattern_13 (F' := 33) (As := []) (st := []) cw_RX10_96 rfl rfl hQ.2.1 (by decide) (Nat.le_of_ble_eq_true rfl) (by omega) (c_read tx n (PM m n) (mN m)   hL2 hQ hP0) ?_
  rintro _ _ ⟨x13, rfl, Ix13, rfl, hF13, (⟨rfl, hw13, hP13⟩ | ⟨rfl, hw13, hf13⟩)⟩ ok13 le13
  · skip
    refine V_st (pc := 16) dX10_pattern_16 (ls' := [(2, vr (mN m + 1)), (1, vr (mN m)), (0, vr 0)]) rfl (Nat.le_of_ble_eq_true rfl) rfl ?_
    refine V_ld (pc := 17) dX10_pattern_17 (v := vr 0) rfl rfl ?_
    refine V_getRv (pc := 18) dX10_pattern_18 (o' := 13) fw_RX10_30 rfl hL2.t0 hL2.r0_2 ?_
    refine V_callV (pc := 21) dX10_pattern_21 (F' := 0) (As := []) (st := []) cw_RX10_87 rfl rfl hL2.t13 (by decide) (Nat.le_of_ble_eq_true rfl) (by omega) (c_Text_empty  (wI (PM m n) Ix13) 13   hL2.t13) ?_
    rintro _ _ ⟨x21, rfl, hx21, rfl⟩ ok21 le21
    refine V_pop (pc := 24) dX10_pattern_24 rfl ?_
    refine V_ld (pc := 25) dX10_pattern_25 (v := vr (mN m + 1)) rfl rfl ?_
    refine V_ifnonnull (pc := 26) dX10_pattern_26 (tgt := 37) rfl (fun _ _ => ?_) (fun h_ => by cases h_)
    refine V_ld (pc := 37) dX10_pattern_37 (v := vr 0) rfl rfl ?_
    refine V_getRv (pc := 38) dX10_pattern_38 (o' := 1) fw_RX10_12 rfl hL2.t0 hL2.r0_0 ?_
    refine V_ld (pc := 41) dX10_pattern_41 (v := vr (mN m + 1)) rfl rfl ?_
    refine V_putR (pc := 42) dX10_pattern_42 fw_RX10_103 rfl hL2.t1 (Or.inl rfl) (fun o_ h_ => by cases h_; (try unfold NN at *); unfold SC; omega) ?_
    refine V_ld (pc := 45) dX10_pattern_45 (v := vr 0) rfl rfl ?_
    refine V_getRv (pc := 46) dX10_pattern_46 (o' := 1) fw_RX10_12 rfl hL2.t0 ((mR_setne (M := (setI (wI (PM m n) Ix13) 13 1 0)) (by decide)).trans hL2.r0_0) ?_
    refine V_getRv (pc := 49) dX10_pattern_49 (o' := M) fw_RX10_69 rfl hL2.t1 ((mR_setne (M := (setI (wI (PM m n) Ix13) 13 1 0)) (by decide)).trans ((PM_ext.2.2 1 (by omega)).2.1 3 |>.trans R_1_3)) ?_
    refine V_iconst (pc := 52) dX10_pattern_52 (by unfold I32; omega) ?_
    refine V_putI (pc := 53) dX10_pattern_53 fw_RX10_72 rfl ((PM_ext.2.2 M (by omega)).1.trans T_M) (Or.inl rfl) (Or.inl rfl) ?_
    refine V_ld (pc := 56) dX10_pattern_56 (v := vr (mN m + 1)) rfl rfl ?_
    refine V_getIv (pc := 57) dX10_pattern_57 (v := ((altC tx n 5 S0).2.2.2.1 : Int)) fw_RX10_107 rfl hQ.2.2.2.2.1 (by first | exact hP13.2.2.2.1 | (simp only [mI_setR, mI_setI, up2]; repeat (first | exact hP13.2.2.2.1 | rw [if_neg (by omega)]))) (fun g57 => ?_)
    refine V_reti (pc := 60) dX10_pattern_60 trivial ?_
    have hcl := (pat_CL (tx := tx) (n := n)).2 hw13
    rw [hcl] at hP13 hw13
    refine ⟨trivial, ?_, fun _ => (mR_setne (by omega)).trans hQ.2.2.2.2.2.1⟩
    refine ⟨rfl, ?_, fun o ho => (hE.2.2 o ho).1, ?_, fun o k ho h1 h2 => ?_, fun o k ho h1 => ?_, Or.inr ⟨hw13, by rw [hcl], mR_sets, ?_, ?_⟩⟩
    · show mZ m + 4 + 2 + 9 * (2 * n) = _; omega
    · exact (mI_setne (by omega)).trans (show mI (setI (wI (PM m n) Ix13) 13 1 0) 13 1 = 0 from mI_sets)
    · exact (if_neg h2).trans ((if_neg h1).trans ((hF13 o k (by omega) (by omega) (by omega)).trans ((hE.2.2 o ho).2.2 k)))
    · exact (mR_setne (by omega)).trans ((hE.2.2 o ho).2.1 k)
    · exact mI_sets
    · have hc1 := hP13.2.2.2.2.2.1
      have hc2 := hP13.2.2.2.2.1
      refine ⟨mN m + 2, 18 * n, hQ.2.2.2.2.1, ?_, hQ.2.2.2.2.2.2, by omega, by omega, by omega, by show mN m + 1 < mN m + 3; omega, by show mN m + 2 < mN m + 3; omega, ?_, by omega, by omega, fun p w hp hw => ?_⟩
      · exact (mR_setne (by omega)).trans hQ.2.2.2.2.2.1
      · exact (if_neg (by omega)).trans ((if_neg (by omega)).trans hP13.2.2.2.1)
      · exact (if_neg (by omega)).trans ((if_neg (by omega)).trans (hP13.2.2.2.2.2.2.2.2.1 p w hp hw))
  · skip
    refine V_st (pc := 16) dX10_pattern_16 (ls' := [(2, vq none), (1, vr (mN m)), (0, vr 0)]) rfl (Nat.le_of_ble_eq_true rfl) rfl ?_
    refine V_ld (pc := 17) dX10_pattern_17 (v := vr 0) rfl rfl ?_
    refine V_getRv (pc := 18) dX10_pattern_18 (o' := 13) fw_RX10_30 rfl hL2.t0 hL2.r0_2 ?_
    refine V_callV (pc := 21) dX10_pattern_21 (F' := 0) (As := []) (st := []) cw_RX10_87 rfl rfl hL2.t13 (by decide) (Nat.le_of_ble_eq_true rfl) (by omega) (c_Text_empty  (wI (PM m n) Ix13) 13   hL2.t13) ?_
    rintro _ _ ⟨x21, rfl, hx21, rfl⟩ ok21 le21
    refine V_pop (pc := 24) dX10_pattern_24 rfl ?_
    refine V_ld (pc := 25) dX10_pattern_25 (v := vq none) rfl rfl ?_
    refine V_ifnonnull (pc := 26) dX10_pattern_26 (tgt := 37) rfl (fun _ h_ => by cases h_) (fun _ => ?_)
    refine V_bipush (pc := 29) dX10_pattern_29 (by unfold I32; omega) (by decide) ?_
    refine V_ld (pc := 31) dX10_pattern_31 (v := vr (mN m)) rfl rfl ?_
    refine V_getIv (pc := 32) dX10_pattern_32 (v := ((altC tx n 5 S0).2.2.1 : Int)) fw_RX10_100 rfl hQ.2.1 (by first | exact hf13 | (simp only [mI_setI, up2]; repeat (first | exact hf13 | rw [if_neg (by omega)]))) (fun g32 => ?_)
    refine V_isub (pc := 35) dX10_pattern_35 (by unfold I32 at *; omega) ?_
    refine V_reti (pc := 36) dX10_pattern_36 trivial ?_
    have hcl := (pat_CL (tx := tx) (n := n)).1 hw13
    refine ⟨trivial, ?_, fun h => absurd h hcl.1⟩
    refine ⟨rfl, ?_, fun o ho => (hE.2.2 o ho).1, mI_sets, fun o k ho h1 h2 => ?_, fun o k ho _ => (hE.2.2 o ho).2.1 k, Or.inl ⟨hcl.1, ?_, (hE.2.2 1 (by omega)).2.1 2, ?_⟩⟩
    · show mZ m + 4 + 2 + 9 * (2 * n) = _; omega
    · exact (if_neg h1).trans ((hF13 o k (by omega) (by omega) (by omega)).trans ((hE.2.2 o ho).2.2 k))
    · rw [hcl.2]
    · exact (if_neg (by omega)).trans ((hF13 M 3 (by omega) (by omega) (by omega)).trans ((hE.2.2 M (by omega)).2.2 3))

def CdN (lo : Nat) (m : Mem) (arr w : Nat) (q : Option (List Int)) : Prop := match q with
  | none => mR m arr w = none
  | some cd => ∃ c, mR m arr w = some c ∧ HasG m lo c cd
theorem HasG.gm {m m' : Mem} {lo lo' c : Nat} {cd : List Int} (h : HasG m lo c cd) (hl : lo' ≤ lo) (hN : mN m ≤ mN m') (hT : ∀ o, lo ≤ o → mT m' o = mT m o) (hR : ∀ o k, lo ≤ o → mR m' o k = mR m o k) (hI : ∀ o k, lo ≤ o → mI m' o k = mI m o k) : HasG m' lo' c cd := by
  obtain ⟨A, h1, h2, h3, h4, h5, h6, h7, h8, h9⟩ := h
  exact ⟨A, (hT c h4).trans h1, (hR c 0 h4).trans h2, (hT A h5).trans h3, by omega, by omega, by omega, by omega, fun k x hx => (hI A k h5).trans (h8 k x hx), h9⟩

def DefC2 (m : Mem) (M n : Nat) (tx : Nat → Int) (x : Int) (m' : Mem) : Prop := mN m ≤ mN m' ∧ mN m' ≤ mN m + 85 ∧ mZ m' ≤ mZ m + 5114 ∧ (∀ o, o < mN m → mT m' o = mT m o) ∧ mI m' 13 1 = 0 ∧ (∀ o k, o < mN m → ¬ (o = 13 ∧ k = 1) → ¬ (o = M ∧ k = 3) → mI m' o k = mI m o k) ∧ (∀ o k, o < mN m → o ≠ 4 → mR m' o k = mR m o k) ∧
  ((¬ ((defL tx n (n + 1) (true, 0)).2.1 = true ∧ (defL tx n (n + 1) (true, 0)).2.2 = n) ∧ x = -100 - ((defL tx n (n + 1) (true, 0)).2.2 : Int) ∧ (∀ k, mR m' 4 k = mR m 4 k) ∧ mI m' M 3 = mI m M 3) ∨
   (((defL tx n (n + 1) (true, 0)).2.1 = true ∧ (defL tx n (n + 1) (true, 0)).2.2 = n) ∧ x = ((defL tx n (n + 1) (true, 0)).1.length : Int) ∧ mI m' M 3 = 0 ∧ ∀ w : Nat, w < 26 → match lastP (defL tx n (n + 1) (true, 0)).1 (w : Int) with
     | none => mR m' 4 w = mR m 4 w
     | some p => CdN (mN m) m' 4 w p.2.2.2))

set_option maxHeartbeats 16000000 in
theorem c_define2 (tx : Nat → Int) (n : Nat) (m : Mem)  (M : Nat)  (hL : Lay (mT m) (mR m)) (R_1_3 : mR m 1 3 = some M) (T_M : mT m M = (3, 4)) (hM : M = 5 ∨ M = 18) (ht : mI m 13 1 = (n : Int) ∧ n ≤ 120) (htx : ∀ k, k < n → mI m 14 k = tx k ∧ 1 ≤ tx k ∧ tx k ≤ 127) (hr : 59 ≤ mN m ∧ mN m + 85 ≤ NN ∧ mZ m + 5114 ≤ ZZ) : Ct μX10_define 22 [vr 0] m (ri fun x_ m' => (True) ∧ DefC2 m M n tx x_ m') := by
  refine Ct_of_V rfl (by decide) rfl (Nat.le_of_ble_eq_true rfl) ?_
  show V μX10_define 22 m _ 0 [(0, vr 0)] [] m
  refine V_newv (pc := 0) (mN m) rfl dX10_define_0 nw_RX10_112 (by omega) (by show mZ m + 7 ≤ ZZ; omega) ?_
  refine V_dup (pc := 3) dX10_define_3 rfl ?_
  refine V_ld (pc := 4) dX10_define_4 (v := vr 0) rfl rfl ?_
  refine V_getRv (pc := 5) dX10_define_5 (o' := 13) fw_RX10_30 rfl ((mT_newne (M := m) (c := 1) (n := 7) (o := 0) (mN m) rfl (by omega)).trans hL.t0) ((mR_newne (M := m) (c := 1) (n := 7) (o := 0) (mN m) rfl (by omega)).trans hL.r0_2) ?_
  refine V_callI (pc := 8) dX10_define_8 (F' := 1) (As := [vr 13]) (st := [vr (mN m)]) cw_RX10_114 rfl rfl (Nat.le_of_ble_eq_true rfl) (by omega) (d_CR_init n (newO m 1 7) (mN m)   (mT_news (M := m) rfl) ((mT_newne (M := m) (c := 1) (n := 7) (o := 13) (mN m) rfl (by omega)).trans hL.t13) ⟨(mI_newne (mN m) rfl (by omega)).trans ht.1, ht.2, by omega, Nat.lt_succ_self _, by show mN m + 1 + 2 ≤ NN; omega, by show mZ m + 7 + 26 + n ≤ ZZ; omega⟩) ?_
  rintro _ _ ⟨rfl, rfl⟩ ok8 le8
  refine V_mem (m' := DM m n) rfl ?_
  have hL2 : Lay (mT (DM m n)) (mR (DM m n)) := Lay.ext hL hr.1 DM_ext
  have hQ : QLay (DM m n) (mN m) n := DM_lay hr.1 ht.2
  have hP0 := DM_DQ (tx := tx) hr.1 ht.1 ht.2 htx
  have hE := DM_ext (m := m) (n := n)
  have hNm : mN (DM m n) = mN m + 3 := rfl
  have hZm : mZ (DM m n) = mZ m + 7 + 26 + n := rfl
  refine V_st (pc := 11) dX10_define_11 (ls' := [(1, vr (mN m)), (0, vr 0)]) rfl (Nat.le_of_ble_eq_true rfl) rfl ?_
  refine V_ld (pc := 12) dX10_define_12 (v := vr (mN m)) rfl rfl ?_
  refine V_callV (pc := 13) dX10_define_13 (F' := 21) (As := []) (st := []) cw_RX10_115 rfl rfl hQ.2.1 (by decide) (Nat.le_of_ble_eq_true rfl) (by omega) (d_read tx n (DM m n) (mN m)   hL2 hQ hP0 DM_St ⟨by omega, by omega, by omega, ht.2⟩) ?_
  rintro _ m13 ⟨x13, rfl, hx13, ⟨hC13, hN13, hZ13, h13⟩⟩ ok13 le13
  have hL3 : Lay (mT m13) (mR m13) := Lay.frc hL2 hC13 (by omega)
  have hQ3 : QLay m13 (mN m) n := QLay.fr hQ hC13 (by omega)
  have hrel : (∀ o, o < mN m → mT m13 o = mT m o) ∧ (∀ o k, o < mN m → mI m13 o k = mI m o k) ∧ ∀ o k, o < mN m → mR m13 o k = mR m o k := ⟨fun o ho => (hC13.2.2.1 o (by omega)).trans (hE.2.2 o ho).1, fun o k ho => (hC13.2.2.2.2 o k (by omega) (by omega) (by omega)).trans ((hE.2.2 o ho).2.2 k), fun o k ho => (hC13.2.2.2.1 o k (by omega) (by omega)).trans ((hE.2.2 o ho).2.1 k)⟩
  have hDn : (defL tx n (n + 1) (true, 0)).2.2 ≤ 120 ∨ True := Or.inr trivial
  refine V_st (pc := 16) dX10_define_16 (ls' := [(2, vi x13), (1, vr (mN m)), (0, vr 0)]) rfl (Nat.le_of_ble_eq_true rfl) rfl ?_
  refine V_ld (pc := 17) dX10_define_17 (v := vr 0) rfl rfl ?_
  refine V_getRv (pc := 18) dX10_define_18 (o' := 13) fw_RX10_30 rfl hL3.t0 hL3.r0_2 ?_
  refine V_callV (pc := 21) dX10_define_21 (F' := 0) (As := []) (st := []) cw_RX10_87 rfl rfl hL3.t13 (by decide) (Nat.le_of_ble_eq_true rfl) (by omega) (c_Text_empty  m13 13   hL3.t13) ?_
  rintro _ _ ⟨x21, rfl, hx21, rfl⟩ ok21 le21
  refine V_pop (pc := 24) dX10_define_24 rfl ?_
  refine V_ld (pc := 25) dX10_define_25 (v := vi x13) rfl rfl ?_
  refine V_if_ge (pc := 26) dX10_define_26 (tgt := 37) rfl (fun h26 => ?_) (fun h26 => ?_)
  · skip
    refine V_iconst (pc := 37) dX10_define_37 (by unfold I32; omega) ?_
    refine V_st (pc := 38) dX10_define_38 (ls' := [(3, vi 0), (2, vi x13), (1, vr (mN m)), (0, vr 0)]) rfl (Nat.le_of_ble_eq_true rfl) rfl ?_
    have hRc : ∀ o k, o ≠ 4 → mR (cpC (setI m13 13 1 0) (mN m) 26) o k = mR (setI m13 13 1 0) o k := fun o k h => if_neg (fun z => h z.1)
    have hgood := h13.resolve_right (fun z => by have z1 := z.2.1; omega)
    obtain ⟨hok, hxx, hst⟩ := hgood
    rw [List.nil_append] at hxx hst
    have h5_ : mI (setI m13 13 1 0) (mN m) 5 = mI m13 (mN m) 5 := mI_setne (by omega)
    have hb5 : 0 ≤ mI (setI m13 13 1 0) (mN m) 5 ∧ mI (setI m13 13 1 0) (mN m) 5 < 67108864 := by rw [h5_]; exact ⟨hst.1, hst.2.1⟩
    have hTc : ∀ k o', k < 26 → (mI (setI m13 13 1 0) (mN m) 5).toNat.testBit k = true → mR (setI m13 13 1 0) (mN m + 1) k = some o' → mT (setI m13 13 1 0) o' = (0, 1) := by
      intro k o' hk hb ho
      rw [h5_] at hb
      have hs := hst.2.2 k hk
      cases e : lastP (defL tx n (n + 1) (true, 0)).1 (k : Int) with
      | none => rw [e] at hs; have hs' : (mI m13 (mN m) 5).toNat.testBit k = false := hs; rw [hs'] at hb; cases hb
      | some p =>
        rw [e] at hs
        obtain ⟨-, hs2, hs3⟩ := hs
        have ho' : mR m13 (mN m + 1) k = some o' := ho
        cases eq : p.2.2.2 with
        | none => rw [hs2 eq] at ho'; cases ho'
        | some cd =>
          obtain ⟨c, hc1, A, hc2, -⟩ := hs3 cd eq
          rw [hc1] at ho'
          cases Option.some.inj ho'
          exact hc2
    refine V_mem (cpC_0 (r := mN m)).symm ?_
    refine V_ls (ls' := [(3, vi ((0 : Nat) : Int)), (2, vi x13), (1, vr (mN m)), (0, vr 0)]) (by intro q_ h_; simp only [List.mem_cons, List.not_mem_nil, or_false] at h_ ⊢; rcases h_ with rfl | rfl | rfl | rfl <;> simp) ?_
    refine L_hand (m := setI m13 13 1 0) (r := mN m) (n := n) (x2 := x13) hL3 hQ3 hb5 hTc ?_ 26 0 (by omega)
    refine V_ld (pc := 78) dX10_define_78 (v := vr 0) rfl rfl ?_
    refine V_getRv (pc := 79) dX10_define_79 (o' := 1) fw_RX10_12 rfl hL3.t0 ((hRc _ _ (by omega)).trans hL3.r0_0) ?_
    refine V_getRv (pc := 82) dX10_define_82 (o' := M) fw_RX10_69 rfl hL3.t1 ((hRc _ _ (by omega)).trans ((hC13.2.2.2.1 1 3 (by omega) (by omega)).trans ((DM_ext.2.2 1 (by omega)).2.1 3 |>.trans R_1_3))) ?_
    refine V_iconst (pc := 85) dX10_define_85 (by unfold I32; omega) ?_
    refine V_putI (pc := 86) dX10_define_86 fw_RX10_72 rfl ((hC13.2.2.1 M (by omega)).trans ((DM_ext.2.2 M (by omega)).1.trans T_M)) (Or.inl rfl) (Or.inl rfl) ?_
    refine V_ld (pc := 89) dX10_define_89 (v := vi x13) rfl rfl ?_
    refine V_reti (pc := 90) dX10_define_90 trivial ?_
    have hR : ∀ o k, mR (setI (cpC (setI m13 13 1 0) (mN m) 26) M 3 0) o k = if o = 4 ∧ k < 26 ∧ (mI (setI m13 13 1 0) (mN m) 5).toNat.testBit k = true then mR (setI m13 13 1 0) (mN m + 1) k else mR (setI m13 13 1 0) o k := fun _ _ => rfl
    have hI : ∀ o k, mI (setI (cpC (setI m13 13 1 0) (mN m) 26) M 3 0) o k = up2 (up2 (mI m13) 13 1 0) M 3 0 o k := fun _ _ => rfl
    refine ⟨trivial, (show mN m ≤ mN m13 from by omega), (show mN m13 ≤ mN m + 85 from by omega), (show mZ m13 ≤ mZ m + 5114 from by omega), fun o ho => hrel.1 o ho, ?_, fun o k ho h1 h2 => ?_, fun o k ho h1 => ?_, Or.inr ⟨hok, hxx, ?_, fun w hw => ?_⟩⟩
    · rw [hI, up2_nx (by omega), up2_s]
    · rw [hI, up2_nx h2, up2_nx h1]; exact hrel.2.1 o k ho
    · rw [hR, if_neg (fun z => h1 z.1)]; exact hrel.2.2 o k ho
    · rw [hI, up2_s]
    · have hs := hst.2.2 w hw
      cases e : lastP (defL tx n (n + 1) (true, 0)).1 (w : Int) with
      | none =>
        rw [e] at hs
        have hs' : (mI m13 (mN m) 5).toNat.testBit w = false := hs
        show mR (setI (cpC (setI m13 13 1 0) (mN m) 26) M 3 0) 4 w = mR m 4 w
        rw [hR, h5_, hs', if_neg (fun z => by cases z.2.2)]
        exact hrel.2.2 4 w (by omega)
      | some p =>
        rw [e] at hs
        obtain ⟨hs1, hs2, hs3⟩ := hs
        have hRw : mR (setI (cpC (setI m13 13 1 0) (mN m) 26) M 3 0) 4 w = mR m13 (mN m + 1) w := by rw [hR, h5_, hs1, if_pos ⟨rfl, hw, rfl⟩]; rfl
        show CdN (mN m) (setI (cpC (setI m13 13 1 0) (mN m) 26) M 3 0) 4 w p.2.2.2
        cases eq : p.2.2.2 with
        | none =>
          show mR (setI (cpC (setI m13 13 1 0) (mN m) 26) M 3 0) 4 w = none
          rw [hRw]; exact hs2 eq
        | some cd =>
          obtain ⟨c, hc1, hc2⟩ := hs3 cd eq
          exact ⟨c, hRw.trans hc1, HasG.gm hc2 (by omega) (Nat.le_refl _) (fun _ _ => rfl) (fun o k ho => by rw [hR, if_neg (by omega)]; rfl) (fun o k ho => by rw [hI, up2_nx (by omega), up2_nx (by omega)])⟩
  · skip
    have hbad := h13.resolve_left (fun z => by have z1 := z.2.1; omega)
    have hbn : (defL tx n (n + 1) (true, 0)).2.2 ≤ n := defL_at tx n (n + 1) (true, 0) (Nat.zero_le _)
    refine V_bipush (pc := 29) dX10_define_29 (by unfold I32; omega) (by decide) ?_
    refine V_ld (pc := 31) dX10_define_31 (v := vr (mN m)) rfl rfl ?_
    refine V_getIv (pc := 32) dX10_define_32 (v := ((defL tx n (n + 1) (true, 0)).2.2 : Int)) fw_RX10_117 rfl hQ3.2.1 ((mI_setne (by omega)).trans hbad.2.2) (fun g32 => ?_)
    refine V_isub (pc := 35) dX10_define_35 (by unfold I32 at *; omega) ?_
    refine V_reti (pc := 36) dX10_define_36 trivial ?_
    refine ⟨trivial, (show mN m ≤ mN m13 from by omega), (show mN m13 ≤ mN m + 85 from by omega), (show mZ m13 ≤ mZ m + 5114 from by omega), fun o ho => hrel.1 o ho, mI_sets, fun o k ho h1 h2 => (up2_nx h1).trans (hrel.2.1 o k ho), fun o k ho h1 => hrel.2.2 o k ho, Or.inl ⟨hbad.1, by omega, fun k => hrel.2.2 4 k (by omega), ?_⟩⟩
    exact (mI_setne (by omega)).trans (hrel.2.1 M 3 (by omega))
