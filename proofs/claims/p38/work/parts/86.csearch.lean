/-! the class searches: one comes, goes on, goes back -/
section STEPS
variable {F : Tb} {n may : Int} {hc : Nat → CEnv → Int} {cl : Nat → Int} {J : SJ}
theorem comeA_s (h : F (J.1 7).toNat 0 = 3) : comeA F n may hc cl J = comeW F J 0 := if_pos h
theorem comeA_o (h : ¬ F (J.1 7).toNat 0 = 3) (h2 : may < J.1 10 + 1) : comeA F n may hc cl J = (3, tryJ J) := by unfold comeA; rw [if_neg h, if_pos h2]
theorem comeA_t (h : ¬ F (J.1 7).toNat 0 = 3) (h2 : ¬ may < J.1 10 + 1) : comeA F n may hc cl J = cm2 F n hc cl (tryJ J) := by unfold comeA; rw [if_neg h, if_neg h2]
theorem cm2_0 (h : F (J.1 7).toNat 0 = 0) : cm2 F n hc cl J = takA n hc cl J (F (J.1 7).toNat 1) := if_pos h
theorem cm2_1 (h : F (J.1 7).toNat 0 = 1) : cm2 F n hc cl J = ((if J.1 9 = 0 then 1 else 2), J) := by unfold cm2; rw [if_neg (by omega), if_pos h]
theorem cm2_2 (h : F (J.1 7).toNat 0 = 2) : cm2 F n hc cl J = ((if J.1 9 = n then 1 else 2), J) := by unfold cm2; rw [if_neg (by omega), if_neg (by omega), if_pos h]
theorem cm2_4 (h : F (J.1 7).toNat 0 = 4) : cm2 F n hc cl J = chooA F J 0 := by unfold cm2; rw [if_neg (by omega), if_neg (by omega), if_neg (by omega), if_pos h]
theorem cm2_5 (h : F (J.1 7).toNat 0 = 5) : cm2 F n hc cl J = repA F J 0 (-1) := by unfold cm2; rw [if_neg (by omega), if_neg (by omega), if_neg (by omega), if_neg (by omega), if_pos h]
theorem cm2_6 (h : F (J.1 7).toNat 0 = 6) : cm2 F n hc cl J = ordA F J 0 0 := by unfold cm2; rw [if_neg (by omega), if_neg (by omega), if_neg (by omega), if_neg (by omega), if_neg (by omega)]
theorem goA_s (h : F (J.2.2.1 (J.1 8).toNat 0).toNat 0 = 3) : goOnA F may J = comeW F (popF J) (J.2.2.1 (J.1 8).toNat 2) := if_pos h
theorem goA_o (h : ¬ F (J.2.2.1 (J.1 8).toNat 0).toNat 0 = 3) (h2 : may < J.1 10 + 1) : goOnA F may J = (3, tryJ (popF J)) := by unfold goOnA; rw [if_neg h, if_pos h2]
theorem goA_5 (h : F (J.2.2.1 (J.1 8).toNat 0).toNat 0 = 5) (h2 : ¬ may < J.1 10 + 1) : goOnA F may J = repA F (tryJ (popF J)) (J.2.2.1 (J.1 8).toNat 2) (J.2.2.1 (J.1 8).toNat 3) := by
  unfold goOnA
  rw [if_neg (by omega), if_neg h2]
  exact if_pos h
theorem goA_6 (h : F (J.2.2.1 (J.1 8).toNat 0).toNat 0 = 6) (h2 : ¬ may < J.1 10 + 1) : goOnA F may J = ordA F (tryJ (popF J)) (J.2.2.1 (J.1 8).toNat 2) 0 := by
  unfold goOnA
  rw [if_neg (by omega), if_neg h2]
  exact if_neg (show ¬ F (J.2.2.1 (J.1 8).toNat 0).toNat 0 = 5 by omega)
theorem gb2_4 {far : Int} (h : F (J.1 7).toNat 0 = 4) : gb2 F J far = chooA F J far := if_pos h
theorem gb2_5 {far : Int} (h : F (J.1 7).toNat 0 = 5) (h2 : F (J.1 7).toNat 5 = 1) : gb2 F J far = (1, J) := by unfold gb2; rw [if_neg (by omega), if_pos h, if_pos h2]
theorem gb2_5n {far : Int} (h : F (J.1 7).toNat 0 = 5) (h2 : ¬ F (J.1 7).toNat 5 = 1) : gb2 F J far = onceA F J far := by unfold gb2; rw [if_neg (by omega), if_pos h, if_neg h2]
theorem gb2_6 {far : Int} (h : F (J.1 7).toNat 0 = 6) : gb2 F J far = ordA F J (far / 8) (far % 8) := by unfold gb2; rw [if_neg (by omega), if_neg (by omega)]
end STEPS

set_option maxHeartbeats 4000000 in
theorem z_noteWay (b : Mem) (P : Nat) (Q : Nat) (L : Nat) (F : Tb) (c : Nat) (n : Int) (may : Int) (hcn : Nat → CEnv → Int) (cl : Nat → Int) (J : SJ) (m : Mem)    (hS : SB b P Q L F c n may hcn cl) (hZ : CZ b m F J) (hI : SI F c n may J ∧ 0 ≤ J.1 11 ∧ J.1 11 ≤ 200000) : Ct μX6_noteWay 1 [vr 9] m (rv fun m' => CZ b m' F (noteA J)) := by
  refine Ct_of_V rfl (by decide) rfl (Nat.le_of_ble_eq_true rfl) ?_
  show V μX6_noteWay 1 m _ 0 [(0, vr 9)] [] m
  have hL := CZ.lay hS hZ
  obtain ⟨i3, i5, i6, i10, i12, ifr, iop⟩ := hI.1
  refine V_ld (pc := 0) dX6_noteWay_0 (v := vr 9) rfl rfl ?_
  refine V_getIv (pc := 1) dX6_noteWay_1 (v := (J.1 9)) fw_RX6_64 rfl (hL.t9) (CZ.s hZ (k := 9) (by decide)) (fun g1 => ?_)
  refine V_ld (pc := 4) dX6_noteWay_4 (v := vr 9) rfl rfl ?_
  refine V_getIv (pc := 5) dX6_noteWay_5 (v := (J.1 6)) fw_RX6_73 rfl (hL.t9) (CZ.s hZ (k := 6) (by decide)) (fun g5 => ?_)
  refine V_isub (pc := 8) dX6_noteWay_8 (by unfold I32 at *; omega) ?_
  refine V_st (pc := 9) dX6_noteWay_9 (ls' := [(1, vi ((J.1 9) - (J.1 6))), (0, vr 9)]) rfl (Nat.le_of_ble_eq_true rfl) rfl ?_
  refine V_ld (pc := 10) dX6_noteWay_10 (v := vr 9) rfl rfl ?_
  refine V_ld (pc := 11) dX6_noteWay_11 (v := vr 9) rfl rfl ?_
  refine V_getIv (pc := 12) dX6_noteWay_12 (v := (J.1 11)) fw_RX6_85 rfl (hL.t9) (CZ.s hZ (k := 11) (by decide)) (fun g12 => ?_)
  refine V_if_ne (pc := 15) dX6_noteWay_15 (tgt := 22) rfl (fun h15 => ?_) (fun h15 => ?_)
  · skip
    refine V_ld (pc := 22) dX6_noteWay_22 (v := vr 9) rfl rfl ?_
    refine V_getIv (pc := 23) dX6_noteWay_23 (v := (J.1 12)) fw_RX6_88 rfl (hL.t9) (CZ.s hZ (k := 12) (by decide)) (fun g23 => ?_)
    refine V_ld (pc := 26) dX6_noteWay_26 (v := vi ((J.1 9) - (J.1 6))) rfl rfl ?_
    refine V_callS (pc := 27) dX6_noteWay_27 (F' := 0) (As := [vi (J.1 12), vi ((J.1 9) - (J.1 6))]) (st := [vr 9]) cw_RX6_94 rfl rfl (Nat.le_of_ble_eq_true rfl) (by omega) (j_min_i  m (J.1 12) ((J.1 9) - (J.1 6))   ) ?_
    rintro _ _ ⟨x27, rfl, rfl, rfl⟩ ok27 le27
    refine V_putI (pc := 30) dX6_noteWay_30 fw_RX6_88 rfl (hL.t9) (Or.inl rfl) (Or.inl rfl) ?_
    refine V_ld (pc := 33) dX6_noteWay_33 (v := vr 9) rfl rfl ?_
    refine V_ld (pc := 34) dX6_noteWay_34 (v := vr 9) rfl rfl ?_
    refine V_getIv (pc := 35) dX6_noteWay_35 (v := (J.1 13)) fw_RX6_91 rfl (hL.t9) (by first | exact (CZ.s hZ (k := 13) (by decide)) | (simp only [mI_setI, up2]; repeat (first | exact (CZ.s hZ (k := 13) (by decide)) | rw [if_neg (by omega)]))) (fun g35 => ?_)
    refine V_ld (pc := 38) dX6_noteWay_38 (v := vi ((J.1 9) - (J.1 6))) rfl rfl ?_
    refine V_callS (pc := 39) dX6_noteWay_39 (F' := 0) (As := [vi (J.1 13), vi ((J.1 9) - (J.1 6))]) (st := [vr 9]) cw_RX6_100 rfl rfl (Nat.le_of_ble_eq_true rfl) (by omega) (j_max_i  (setI m 9 12 (if J.1 9 - J.1 6 < J.1 12 then J.1 9 - J.1 6 else J.1 12)) (J.1 13) ((J.1 9) - (J.1 6))   ) ?_
    rintro _ _ ⟨x39, rfl, rfl, rfl⟩ ok39 le39
    refine V_putI (pc := 42) dX6_noteWay_42 fw_RX6_91 rfl (hL.t9) (Or.inl rfl) (Or.inl rfl) ?_
    refine V_ld (pc := 45) dX6_noteWay_45 (v := vr 9) rfl rfl ?_
    refine V_dup (pc := 46) dX6_noteWay_46 rfl ?_
    refine V_getIv (pc := 47) dX6_noteWay_47 (v := (J.1 11)) fw_RX6_85 rfl (hL.t9) (by first | exact (CZ.s hZ (k := 11) (by decide)) | (simp only [mI_setI, up2]; repeat (first | exact (CZ.s hZ (k := 11) (by decide)) | rw [if_neg (by omega)]))) (fun g47 => ?_)
    refine V_iconst (pc := 50) dX6_noteWay_50 (by unfold I32; omega) ?_
    refine V_iadd (pc := 51) dX6_noteWay_51 (by unfold I32 at *; omega) ?_
    refine V_putI (pc := 52) dX6_noteWay_52 fw_RX6_85 rfl (hL.t9) (Or.inl rfl) (Or.inl rfl) ?_
    refine V_retv (pc := 55) dX6_noteWay_55 trivial ?_
    have e_ : noteA J = (setS (setS (setS J 12 (if J.1 9 - J.1 6 < J.1 12 then J.1 9 - J.1 6 else J.1 12)) 13 (if J.1 13 < J.1 9 - J.1 6 then J.1 9 - J.1 6 else J.1 13)) 11 ((J.1 11) + 1)) := by
      unfold noteA
      rw [if_neg (show ¬ J.1 11 = 0 by omega)]
    rw [e_]
    exact (CZ.set (k := 11) (v := (J.1 11) + 1) (CZ.set (k := 13) (v := (if J.1 13 < J.1 9 - J.1 6 then J.1 9 - J.1 6 else J.1 13)) (CZ.set (k := 12) (v := (if J.1 9 - J.1 6 < J.1 12 then J.1 9 - J.1 6 else J.1 12)) hZ (fun e_ => absurd e_ (by decide)) (fun e_ => absurd e_ (by decide))) (fun e_ => absurd e_ (by decide)) (fun e_ => absurd e_ (by decide))) (fun e_ => absurd e_ (by decide)) (fun e_ => absurd e_ (by decide)))
  · skip
    refine V_ld (pc := 18) dX6_noteWay_18 (v := vi ((J.1 9) - (J.1 6))) rfl rfl ?_
    refine V_goto (pc := 19) dX6_noteWay_19 (tgt := 30) rfl ?_
    refine V_putI (pc := 30) dX6_noteWay_30 fw_RX6_88 rfl (hL.t9) (Or.inl rfl) (Or.inl rfl) ?_
    refine V_ld (pc := 33) dX6_noteWay_33 (v := vr 9) rfl rfl ?_
    refine V_ld (pc := 34) dX6_noteWay_34 (v := vr 9) rfl rfl ?_
    refine V_getIv (pc := 35) dX6_noteWay_35 (v := (J.1 13)) fw_RX6_91 rfl (hL.t9) (by first | exact (CZ.s hZ (k := 13) (by decide)) | (simp only [mI_setI, up2]; repeat (first | exact (CZ.s hZ (k := 13) (by decide)) | rw [if_neg (by omega)]))) (fun g35 => ?_)
    refine V_ld (pc := 38) dX6_noteWay_38 (v := vi ((J.1 9) - (J.1 6))) rfl rfl ?_
    refine V_callS (pc := 39) dX6_noteWay_39 (F' := 0) (As := [vi (J.1 13), vi ((J.1 9) - (J.1 6))]) (st := [vr 9]) cw_RX6_100 rfl rfl (Nat.le_of_ble_eq_true rfl) (by omega) (j_max_i  (setI m 9 12 ((J.1 9) - (J.1 6))) (J.1 13) ((J.1 9) - (J.1 6))   ) ?_
    rintro _ _ ⟨x39, rfl, rfl, rfl⟩ ok39 le39
    refine V_putI (pc := 42) dX6_noteWay_42 fw_RX6_91 rfl (hL.t9) (Or.inl rfl) (Or.inl rfl) ?_
    refine V_ld (pc := 45) dX6_noteWay_45 (v := vr 9) rfl rfl ?_
    refine V_dup (pc := 46) dX6_noteWay_46 rfl ?_
    refine V_getIv (pc := 47) dX6_noteWay_47 (v := (J.1 11)) fw_RX6_85 rfl (hL.t9) (by first | exact (CZ.s hZ (k := 11) (by decide)) | (simp only [mI_setI, up2]; repeat (first | exact (CZ.s hZ (k := 11) (by decide)) | rw [if_neg (by omega)]))) (fun g47 => ?_)
    refine V_iconst (pc := 50) dX6_noteWay_50 (by unfold I32; omega) ?_
    refine V_iadd (pc := 51) dX6_noteWay_51 (by unfold I32 at *; omega) ?_
    refine V_putI (pc := 52) dX6_noteWay_52 fw_RX6_85 rfl (hL.t9) (Or.inl rfl) (Or.inl rfl) ?_
    refine V_retv (pc := 55) dX6_noteWay_55 trivial ?_
    have e_ : noteA J = (setS (setS (setS J 12 ((J.1 9) - (J.1 6))) 13 (if J.1 13 < J.1 9 - J.1 6 then J.1 9 - J.1 6 else J.1 13)) 11 ((J.1 11) + 1)) := by
      unfold noteA
      rw [if_pos (show J.1 11 = 0 by omega)]
    rw [e_]
    exact (CZ.set (k := 11) (v := (J.1 11) + 1) (CZ.set (k := 13) (v := (if J.1 13 < J.1 9 - J.1 6 then J.1 9 - J.1 6 else J.1 13)) (CZ.set (k := 12) (v := (J.1 9) - (J.1 6)) hZ (fun e_ => absurd e_ (by decide)) (fun e_ => absurd e_ (by decide))) (fun e_ => absurd e_ (by decide)) (fun e_ => absurd e_ (by decide))) (fun e_ => absurd e_ (by decide)) (fun e_ => absurd e_ (by decide)))

set_option maxHeartbeats 4000000 in
theorem z_begin  (m : Mem) (st : Int) (w : Int)   (T_9 : mT m 9 = (6, 14)) : Ct μX6_begin 0 [vr 9, vi st, vi w] m (rv fun m' => setI (setI (setI (setI (setI (setI (setI (setI (setI (setI m 9 6 st) 9 9 st) 9 7 w) 9 8 (-1)) 9 3 0) 9 5 0) 9 10 0) 9 11 0) 9 12 0) 9 13 0 = m') := by
  refine Ct_of_V rfl (by decide) rfl (Nat.le_of_ble_eq_true rfl) ?_
  show V μX6_begin 0 m _ 0 [(0, vr 9), (1, vi st), (2, vi w)] [] m
  refine V_rg (k := 1) (x := st) rfl fun r_st => ?_
  refine V_rg (k := 2) (x := w) rfl fun r_w => ?_
  refine V_ld (pc := 0) dX6_begin_0 (v := vr 9) rfl rfl ?_
  refine V_ld (pc := 1) dX6_begin_1 (v := vi st) rfl rfl ?_
  refine V_putI (pc := 2) dX6_begin_2 fw_RX6_73 rfl T_9 (Or.inl rfl) (Or.inl rfl) ?_
  refine V_ld (pc := 5) dX6_begin_5 (v := vr 9) rfl rfl ?_
  refine V_ld (pc := 6) dX6_begin_6 (v := vi st) rfl rfl ?_
  refine V_putI (pc := 7) dX6_begin_7 fw_RX6_64 rfl T_9 (Or.inl rfl) (Or.inl rfl) ?_
  refine V_ld (pc := 10) dX6_begin_10 (v := vr 9) rfl rfl ?_
  refine V_ld (pc := 11) dX6_begin_11 (v := vi w) rfl rfl ?_
  refine V_putI (pc := 12) dX6_begin_12 fw_RX6_76 rfl T_9 (Or.inl rfl) (Or.inl rfl) ?_
  refine V_ld (pc := 15) dX6_begin_15 (v := vr 9) rfl rfl ?_
  refine V_iconst (pc := 16) dX6_begin_16 (by unfold I32; omega) ?_
  refine V_putI (pc := 17) dX6_begin_17 fw_RX6_55 rfl T_9 (Or.inl rfl) (Or.inl rfl) ?_
  refine V_ld (pc := 20) dX6_begin_20 (v := vr 9) rfl rfl ?_
  refine V_iconst (pc := 21) dX6_begin_21 (by unfold I32; omega) ?_
  refine V_putI (pc := 22) dX6_begin_22 fw_RX6_79 rfl T_9 (Or.inl rfl) (Or.inl rfl) ?_
  refine V_ld (pc := 25) dX6_begin_25 (v := vr 9) rfl rfl ?_
  refine V_iconst (pc := 26) dX6_begin_26 (by unfold I32; omega) ?_
  refine V_putI (pc := 27) dX6_begin_27 fw_RX6_67 rfl T_9 (Or.inl rfl) (Or.inl rfl) ?_
  refine V_ld (pc := 30) dX6_begin_30 (v := vr 9) rfl rfl ?_
  refine V_iconst (pc := 31) dX6_begin_31 (by unfold I32; omega) ?_
  refine V_putI (pc := 32) dX6_begin_32 fw_RX6_82 rfl T_9 (Or.inl rfl) (Or.inl rfl) ?_
  refine V_ld (pc := 35) dX6_begin_35 (v := vr 9) rfl rfl ?_
  refine V_iconst (pc := 36) dX6_begin_36 (by unfold I32; omega) ?_
  refine V_putI (pc := 37) dX6_begin_37 fw_RX6_85 rfl T_9 (Or.inl rfl) (Or.inl rfl) ?_
  refine V_ld (pc := 40) dX6_begin_40 (v := vr 9) rfl rfl ?_
  refine V_iconst (pc := 41) dX6_begin_41 (by unfold I32; omega) ?_
  refine V_putI (pc := 42) dX6_begin_42 fw_RX6_88 rfl T_9 (Or.inl rfl) (Or.inl rfl) ?_
  refine V_ld (pc := 45) dX6_begin_45 (v := vr 9) rfl rfl ?_
  refine V_iconst (pc := 46) dX6_begin_46 (by unfold I32; omega) ?_
  refine V_putI (pc := 47) dX6_begin_47 fw_RX6_91 rfl T_9 (Or.inl rfl) (Or.inl rfl) ?_
  refine V_retv (pc := 50) dX6_begin_50 trivial ?_
  first | exact rfl | exact ⟨rfl, rfl⟩

set_option maxHeartbeats 8000000 in
theorem z_come (b : Mem) (Q : Nat) (L : Nat) (F : Tb) (c : Nat) (n : Int) (may : Int) (hcn : Nat → CEnv → Int) (cl : Nat → Int) (J : SJ) (m : Mem) (P : Nat)   (hS : SB b P Q L F c n may hcn cl) (hZ : CZ b m F J) (hI : SI F c n may J ∧ CoI F c J) : Ct μX6_come 6 [vr 9, vr P] m (ri fun x_ m' => (x_ = (comeA F n may hcn cl J).1) ∧ CZ b m' F (comeA F n may hcn cl J).2) := by
  refine Ct_of_V rfl (by decide) rfl (Nat.le_of_ble_eq_true rfl) ?_
  show V μX6_come 6 m _ 0 [(0, vr 9), (1, vr P)] [] m
  have hL := CZ.lay hS hZ
  obtain ⟨⟨i3, i5, i6, i10, i12, ifr, iop⟩, ⟨c7, c8, c9, c10⟩⟩ := hI
  have hW := SB.w hS
  have ts := tab_s hW c7
  have hin := fun h => inn_kid (p := J.1 7) hW c7 h
  have hpJ : 0 ≤ J.1 3 ∧ J.1 3 ≤ 5006 ∧ 0 ≤ J.1 5 ∧ J.1 5 ≤ 5001 ∧ 0 ≤ J.1 7 ∧ J.1 7 < (c : Int) := by refine ⟨?_, ?_, ?_, ?_, c7.1, c7.2⟩ <;> omega
  refine V_ld (pc := 0) dX6_come_0 (v := vr P) rfl rfl ?_
  refine V_ld (pc := 1) dX6_come_1 (v := vr 9) rfl rfl ?_
  refine V_getIv (pc := 2) dX6_come_2 (v := (J.1 7)) fw_RX6_76 rfl (hL.t9) (CZ.s hZ (k := 7) (by decide)) (fun g2 => ?_)
  refine V_iconst (pc := 5) dX6_come_5 (by unfold I32; omega) ?_
  refine V_callV (pc := 6) dX6_come_6 (F' := 0) (As := [vi (J.1 7), vi 0]) (st := []) cw_RX6_106 rfl rfl (show mT m P = (4, 2) from CZ.tP hS hZ) (by decide) (Nat.le_of_ble_eq_true rfl) (by omega) (c_factT L F c 0 m P (J.1 7) 0 Q  (CZ.tP hS hZ) (CZ.rQ hS hZ) (CZ.tQ hS hZ) (CZ.gc hS hZ) (CZ.tab hS hZ) c7 ⟨by decide, by decide⟩) ?_
  rintro _ _ ⟨x6, rfl, rfl, rfl⟩ ok6 le6
  refine V_st (pc := 9) dX6_come_9 (ls' := [(2, vi (F (J.1 7).toNat 0)), (0, vr 9), (1, vr P)]) rfl (Nat.le_of_ble_eq_true rfl) rfl ?_
  refine V_ld (pc := 10) dX6_come_10 (v := vi (F (J.1 7).toNat 0)) rfl rfl ?_
  refine V_iconst (pc := 11) dX6_come_11 (by unfold I32; omega) ?_
  refine V_icmp_ne (pc := 12) dX6_come_12 (tgt := 31) rfl (fun h12 => ?_) (fun h12 => ?_)
  · skip
    refine V_ld (pc := 31) dX6_come_31 (v := vr 9) rfl rfl ?_
    refine V_callV (pc := 32) dX6_come_32 (F' := 0) (As := []) (st := []) cw_RX6_113 rfl rfl (hL.t9) (by decide) (Nat.le_of_ble_eq_true rfl) (by omega) (z_mayTry b P Q L F c n may hcn cl J m    hS hZ ⟨i10.1, by omega⟩) ?_
    rintro _ m32 ⟨x32, rfl, hx32, hm32⟩ ok32 le32
    refine V_if_ne (pc := 35) dX6_come_35 (tgt := 40) rfl (fun h35 => ?_) (fun h35 => ?_)
    · skip
      refine V_ld (pc := 40) dX6_come_40 (v := vi (F (J.1 7).toNat 0)) rfl rfl ?_
      by_cases h41_0 : (F (J.1 7).toNat 0) = 0
      · skip
        refine V_tsIn (pc := 41) dX6_come_41 (cx := 0) (off := 39) (tgt := 80) h41_0 (by omega) rfl rfl ?_
        refine V_ld (pc := 80) dX6_come_80 (v := vr 9) rfl rfl ?_
        refine V_ld (pc := 81) dX6_come_81 (v := vr P) rfl rfl ?_
        refine V_ld (pc := 82) dX6_come_82 (v := vr 9) rfl rfl ?_
        refine V_getIv (pc := 83) dX6_come_83 (v := (J.1 7)) fw_RX6_76 rfl (CZ.lay hS hm32).t9 (CZ.s hm32 (k := 7) (by decide)) (fun g83 => ?_)
        refine V_iconst (pc := 86) dX6_come_86 (by unfold I32; omega) ?_
        refine V_callV (pc := 87) dX6_come_87 (F' := 0) (As := [vi (J.1 7), vi 1]) (st := [vr 9]) cw_RX6_106 rfl rfl (show mT m32 P = (4, 2) from CZ.tP hS hm32) (by decide) (Nat.le_of_ble_eq_true rfl) (by omega) (c_factT L F c 1 m32 P (J.1 7) 1 Q  (CZ.tP hS hm32) (CZ.rQ hS hm32) (CZ.tQ hS hm32) (CZ.gc hS hm32) (CZ.tab hS hm32) c7 ⟨by decide, by decide⟩) ?_
        rintro _ _ ⟨x87, rfl, rfl, rfl⟩ ok87 le87
        refine V_callV (pc := 90) dX6_come_90 (F' := 5) (As := [vi (F (J.1 7).toNat 1)]) (st := []) cw_RX6_117 rfl rfl (CZ.lay hS hm32).t9 (by decide) (Nat.le_of_ble_eq_true rfl) (by omega) (z_take b P Q L F c n may hcn cl (tryJ J) m32 (F (J.1 7).toNat 1)   hS hm32 (show 0 ≤ J.1 6 ∧ J.1 6 ≤ J.1 9 ∧ J.1 9 ≤ n ∧ n ≤ 32 from i6) (ts.2.2.2.2.2 (by omega))) ?_
        rintro _ m90 ⟨x90, rfl, hx90, hm90⟩ ok90 le90
        refine V_reti (pc := 93) dX6_come_93 trivial ?_
        first
          | (exfalso; omega)
          | (rw [comeA_t (by omega) (by omega), cm2_0 (J := (tryJ J)) (show F (J.1 7).toNat 0 = 0 by omega)]
             exact ⟨hx90, hm90⟩)
      by_cases h41_1 : (F (J.1 7).toNat 0) = 1
      · skip
        refine V_tsIn (pc := 41) dX6_come_41 (cx := 1) (off := 53) (tgt := 94) h41_1 (by omega) rfl rfl ?_
        refine V_ld (pc := 94) dX6_come_94 (v := vr 9) rfl rfl ?_
        refine V_getIv (pc := 95) dX6_come_95 (v := (J.1 9)) fw_RX6_64 rfl (CZ.lay hS hm32).t9 (CZ.s hm32 (k := 9) (by decide)) (fun g95 => ?_)
        refine V_if_ne (pc := 98) dX6_come_98 (tgt := 105) rfl (fun h98 => ?_) (fun h98 => ?_)
        · skip
          refine V_iconst (pc := 105) dX6_come_105 (by unfold I32; omega) ?_
          refine V_reti (pc := 106) dX6_come_106 trivial ?_
          first
            | (exfalso; omega)
            | (rw [comeA_t (by omega) (by omega), cm2_1 (J := (tryJ J)) (show F (J.1 7).toNat 0 = 1 by omega), if_pos (show (tryJ J).1 9 = 0 from (show J.1 9 = 0 by omega))]
               exact ⟨by first | rfl | omega, hm32⟩)
            | (rw [comeA_t (by omega) (by omega), cm2_1 (J := (tryJ J)) (show F (J.1 7).toNat 0 = 1 by omega), if_neg (show ¬ (tryJ J).1 9 = 0 from (show ¬ J.1 9 = 0 by omega))]
               exact ⟨by first | rfl | omega, hm32⟩)
        · skip
          refine V_iconst (pc := 101) dX6_come_101 (by unfold I32; omega) ?_
          refine V_goto (pc := 102) dX6_come_102 (tgt := 106) rfl ?_
          refine V_reti (pc := 106) dX6_come_106 trivial ?_
          first
            | (exfalso; omega)
            | (rw [comeA_t (by omega) (by omega), cm2_1 (J := (tryJ J)) (show F (J.1 7).toNat 0 = 1 by omega), if_pos (show (tryJ J).1 9 = 0 from (show J.1 9 = 0 by omega))]
               exact ⟨by first | rfl | omega, hm32⟩)
            | (rw [comeA_t (by omega) (by omega), cm2_1 (J := (tryJ J)) (show F (J.1 7).toNat 0 = 1 by omega), if_neg (show ¬ (tryJ J).1 9 = 0 from (show ¬ J.1 9 = 0 by omega))]
               exact ⟨by first | rfl | omega, hm32⟩)
      by_cases h41_2 : (F (J.1 7).toNat 0) = 2
      · skip
        refine V_tsIn (pc := 41) dX6_come_41 (cx := 2) (off := 66) (tgt := 107) h41_2 (by omega) rfl rfl ?_
        refine V_ld (pc := 107) dX6_come_107 (v := vr 9) rfl rfl ?_
        refine V_getIv (pc := 108) dX6_come_108 (v := (J.1 9)) fw_RX6_64 rfl (CZ.lay hS hm32).t9 (CZ.s hm32 (k := 9) (by decide)) (fun g108 => ?_)
        refine V_ld (pc := 111) dX6_come_111 (v := vr 9) rfl rfl ?_
        refine V_getRv (pc := 112) dX6_come_112 (o' := 1) fw_RX6_21 rfl (CZ.lay hS hm32).t9 (CZ.lay hS hm32).r9_0 ?_
        refine V_getRv (pc := 115) dX6_come_115 (o' := 2) fw_RX6_31 rfl (CZ.lay hS hm32).t1 (CZ.lay hS hm32).r1_0 ?_
        refine V_getIv (pc := 118) dX6_come_118 (v := n) fw_RX6_35 rfl (CZ.lay hS hm32).t2 (CZ.gn hS hm32) (fun g118 => ?_)
        refine V_icmp_ne (pc := 121) dX6_come_121 (tgt := 128) rfl (fun h121 => ?_) (fun h121 => ?_)
        · skip
          refine V_iconst (pc := 128) dX6_come_128 (by unfold I32; omega) ?_
          refine V_reti (pc := 129) dX6_come_129 trivial ?_
          first
            | (exfalso; omega)
            | (rw [comeA_t (by omega) (by omega), cm2_2 (J := (tryJ J)) (show F (J.1 7).toNat 0 = 2 by omega), if_pos (show (tryJ J).1 9 = n from (show J.1 9 = n by omega))]
               exact ⟨by first | rfl | omega, hm32⟩)
            | (rw [comeA_t (by omega) (by omega), cm2_2 (J := (tryJ J)) (show F (J.1 7).toNat 0 = 2 by omega), if_neg (show ¬ (tryJ J).1 9 = n from (show ¬ J.1 9 = n by omega))]
               exact ⟨by first | rfl | omega, hm32⟩)
        · skip
          refine V_iconst (pc := 124) dX6_come_124 (by unfold I32; omega) ?_
          refine V_goto (pc := 125) dX6_come_125 (tgt := 129) rfl ?_
          refine V_reti (pc := 129) dX6_come_129 trivial ?_
          first
            | (exfalso; omega)
            | (rw [comeA_t (by omega) (by omega), cm2_2 (J := (tryJ J)) (show F (J.1 7).toNat 0 = 2 by omega), if_pos (show (tryJ J).1 9 = n from (show J.1 9 = n by omega))]
               exact ⟨by first | rfl | omega, hm32⟩)
            | (rw [comeA_t (by omega) (by omega), cm2_2 (J := (tryJ J)) (show F (J.1 7).toNat 0 = 2 by omega), if_neg (show ¬ (tryJ J).1 9 = n from (show ¬ J.1 9 = n by omega))]
               exact ⟨by first | rfl | omega, hm32⟩)
      by_cases h41_3 : (F (J.1 7).toNat 0) = 3
      · skip
        refine V_tsIn (pc := 41) dX6_come_41 (cx := 3) (off := 113) (tgt := 154) h41_3 (by omega) rfl rfl ?_
        refine V_ld (pc := 154) dX6_come_154 (v := vr 9) rfl rfl ?_
        refine V_ld (pc := 155) dX6_come_155 (v := vr P) rfl rfl ?_
        refine V_iconst (pc := 156) dX6_come_156 (by unfold I32; omega) ?_
        refine V_iconst (pc := 157) dX6_come_157 (by unfold I32; omega) ?_
        refine V_callV (pc := 158) dX6_come_158 (F' := 4) (As := [vr P, vi 0, vi 0]) (st := []) cw_RX6_128 rfl rfl (CZ.lay hS hm32).t9 (by decide) (Nat.le_of_ble_eq_true rfl) (by omega) (z_order b Q L F c n may hcn cl (tryJ J) m32 P 0 0   hS hm32 hpJ (show F (J.1 7).toNat 0 = 6 ∧ (0 : Int) ≤ 0 ∧ (0 : Int) < 16 ∧ (0 : Int) ≤ 0 ∧ 0 ≤ F (J.1 7).toNat 2 ∧ J.1 5 ≤ 5000 from (by have h_ := hin (by omega); omega))) ?_
        rintro _ m158 ⟨x158, rfl, hx158, hm158⟩ ok158 le158
        refine V_reti (pc := 161) dX6_come_161 trivial ?_
        first
          | (exfalso; omega)
          | (rw [comeA_t (by omega) (by omega), cm2_6 (J := (tryJ J)) (show F (J.1 7).toNat 0 = 6 by omega)]
             exact ⟨hx158, hm158⟩)
      by_cases h41_4 : (F (J.1 7).toNat 0) = 4
      · skip
        refine V_tsIn (pc := 41) dX6_come_41 (cx := 4) (off := 89) (tgt := 130) h41_4 (by omega) rfl rfl ?_
        refine V_ld (pc := 130) dX6_come_130 (v := vr 9) rfl rfl ?_
        refine V_ld (pc := 131) dX6_come_131 (v := vr P) rfl rfl ?_
        refine V_ld (pc := 132) dX6_come_132 (v := vr P) rfl rfl ?_
        refine V_ld (pc := 133) dX6_come_133 (v := vr 9) rfl rfl ?_
        refine V_getIv (pc := 134) dX6_come_134 (v := (J.1 7)) fw_RX6_76 rfl (CZ.lay hS hm32).t9 (CZ.s hm32 (k := 7) (by decide)) (fun g134 => ?_)
        refine V_bipush (pc := 137) dX6_come_137 (by unfold I32; omega) (by decide) ?_
        refine V_callV (pc := 139) dX6_come_139 (F' := 0) (As := [vi (J.1 7), vi 7]) (st := [vr P, vr 9]) cw_RX6_106 rfl rfl (show mT m32 P = (4, 2) from CZ.tP hS hm32) (by decide) (Nat.le_of_ble_eq_true rfl) (by omega) (c_factT L F c 7 m32 P (J.1 7) 7 Q  (CZ.tP hS hm32) (CZ.rQ hS hm32) (CZ.tQ hS hm32) (CZ.gc hS hm32) (CZ.tab hS hm32) c7 ⟨by decide, by decide⟩) ?_
        rintro _ _ ⟨x139, rfl, rfl, rfl⟩ ok139 le139
        refine V_callV (pc := 142) dX6_come_142 (F' := 3) (As := [vr P, vi (F (J.1 7).toNat 7)]) (st := []) cw_RX6_121 rfl rfl (CZ.lay hS hm32).t9 (by decide) (Nat.le_of_ble_eq_true rfl) (by omega) (z_choose b Q L F c n may hcn cl (tryJ J) 0 m32 P (F (J.1 7).toNat 7)   hS hm32 hpJ (show F (J.1 7).toNat 0 = 4 ∧ (0 : Int) ≤ 0 ∧ 0 < F (J.1 7).toNat 2 from (by have h_ := hin (by omega); omega)) rfl) ?_
        rintro _ m142 ⟨x142, rfl, hx142, hm142⟩ ok142 le142
        refine V_reti (pc := 145) dX6_come_145 trivial ?_
        first
          | (exfalso; omega)
          | (rw [comeA_t (by omega) (by omega), cm2_4 (J := (tryJ J)) (show F (J.1 7).toNat 0 = 4 by omega)]
             exact ⟨hx142, hm142⟩)
      by_cases h41_5 : (F (J.1 7).toNat 0) = 5
      · skip
        refine V_tsIn (pc := 41) dX6_come_41 (cx := 5) (off := 105) (tgt := 146) h41_5 (by omega) rfl rfl ?_
        refine V_ld (pc := 146) dX6_come_146 (v := vr 9) rfl rfl ?_
        refine V_ld (pc := 147) dX6_come_147 (v := vr P) rfl rfl ?_
        refine V_iconst (pc := 148) dX6_come_148 (by unfold I32; omega) ?_
        refine V_iconst (pc := 149) dX6_come_149 (by unfold I32; omega) ?_
        refine V_callV (pc := 150) dX6_come_150 (F' := 4) (As := [vr P, vi 0, vi (-1)]) (st := []) cw_RX6_124 rfl rfl (CZ.lay hS hm32).t9 (by decide) (Nat.le_of_ble_eq_true rfl) (by omega) (z_repeat b Q L F c n may hcn cl (tryJ J) m32 P 0 (-1)   hS hm32 hpJ (show F (J.1 7).toNat 0 = 5 ∧ (0 : Int) ≤ 0 ∧ (0 : Int) + 1 ≤ 5000 ∧ J.1 5 ≤ 5000 from (by omega))) ?_
        rintro _ m150 ⟨x150, rfl, hx150, hm150⟩ ok150 le150
        refine V_reti (pc := 153) dX6_come_153 trivial ?_
        first
          | (exfalso; omega)
          | (rw [comeA_t (by omega) (by omega), cm2_5 (J := (tryJ J)) (show F (J.1 7).toNat 0 = 5 by omega)]
             exact ⟨hx150, hm150⟩)
      refine V_tsOut (pc := 41) dX6_come_41 (tgt := 154) (by omega) rfl ?_
      refine V_ld (pc := 154) dX6_come_154 (v := vr 9) rfl rfl ?_
      refine V_ld (pc := 155) dX6_come_155 (v := vr P) rfl rfl ?_
      refine V_iconst (pc := 156) dX6_come_156 (by unfold I32; omega) ?_
      refine V_iconst (pc := 157) dX6_come_157 (by unfold I32; omega) ?_
      refine V_callV (pc := 158) dX6_come_158 (F' := 4) (As := [vr P, vi 0, vi 0]) (st := []) cw_RX6_128 rfl rfl (CZ.lay hS hm32).t9 (by decide) (Nat.le_of_ble_eq_true rfl) (by omega) (z_order b Q L F c n may hcn cl (tryJ J) m32 P 0 0   hS hm32 hpJ (show F (J.1 7).toNat 0 = 6 ∧ (0 : Int) ≤ 0 ∧ (0 : Int) < 16 ∧ (0 : Int) ≤ 0 ∧ 0 ≤ F (J.1 7).toNat 2 ∧ J.1 5 ≤ 5000 from (by have h_ := hin (by omega); omega))) ?_
      rintro _ m158 ⟨x158, rfl, hx158, hm158⟩ ok158 le158
      refine V_reti (pc := 161) dX6_come_161 trivial ?_
      first
        | (exfalso; omega)
        | (rw [comeA_t (by omega) (by omega), cm2_6 (J := (tryJ J)) (show F (J.1 7).toNat 0 = 6 by omega)]
           exact ⟨hx158, hm158⟩)
    · skip
      refine V_iconst (pc := 38) dX6_come_38 (by unfold I32; omega) ?_
      refine V_reti (pc := 39) dX6_come_39 trivial ?_
      first
        | (exfalso; omega)
        | (rw [comeA_o (by omega) (by omega)]
           exact ⟨by first | rfl | omega, hm32⟩)
  · skip
    refine V_ld (pc := 15) dX6_come_15 (v := vr 9) rfl rfl ?_
    refine V_ld (pc := 16) dX6_come_16 (v := vr P) rfl rfl ?_
    refine V_ld (pc := 17) dX6_come_17 (v := vr P) rfl rfl ?_
    refine V_ld (pc := 18) dX6_come_18 (v := vr 9) rfl rfl ?_
    refine V_getIv (pc := 19) dX6_come_19 (v := (J.1 7)) fw_RX6_76 rfl (hL.t9) (CZ.s hZ (k := 7) (by decide)) (fun g19 => ?_)
    refine V_bipush (pc := 22) dX6_come_22 (by unfold I32; omega) (by decide) ?_
    refine V_callV (pc := 24) dX6_come_24 (F' := 0) (As := [vi (J.1 7), vi 7]) (st := [vr P, vr 9]) cw_RX6_106 rfl rfl (show mT m P = (4, 2) from CZ.tP hS hZ) (by decide) (Nat.le_of_ble_eq_true rfl) (by omega) (c_factT L F c 7 m P (J.1 7) 7 Q  (CZ.tP hS hZ) (CZ.rQ hS hZ) (CZ.tQ hS hZ) (CZ.gc hS hZ) (CZ.tab hS hZ) c7 ⟨by decide, by decide⟩) ?_
    rintro _ _ ⟨x24, rfl, rfl, rfl⟩ ok24 le24
    refine V_callV (pc := 27) dX6_come_27 (F' := 3) (As := [vr P, vi (F (J.1 7).toNat 7)]) (st := []) cw_RX6_109 rfl rfl (hL.t9) (by decide) (Nat.le_of_ble_eq_true rfl) (by omega) (z_comeWithin b Q L F c n may hcn cl J 0 m P (F (J.1 7).toNat 7)   hS hZ hpJ (show F (J.1 7).toNat 0 = 3 ∧ (0 : Int) ≤ 0 ∧ 0 < F (J.1 7).toNat 2 from (by have h_ := hin (by omega); omega)) rfl) ?_
    rintro _ m27 ⟨x27, rfl, hx27, hm27⟩ ok27 le27
    refine V_reti (pc := 30) dX6_come_30 trivial ?_
    first
      | (exfalso; omega)
      | (rw [comeA_s (by omega)]
         exact ⟨hx27, hm27⟩)

set_option maxHeartbeats 8000000 in
theorem z_goOn (b : Mem) (Q : Nat) (L : Nat) (F : Tb) (c : Nat) (n : Int) (may : Int) (hcn : Nat → CEnv → Int) (cl : Nat → Int) (J : SJ) (m : Mem) (P : Nat)   (hS : SB b P Q L F c n may hcn cl) (hZ : CZ b m F J) (hI : SI F c n may J ∧ DoI J ∧ 0 ≤ J.1 8) : Ct μX6_goOn 6 [vr 9, vr P] m (ri fun x_ m' => (x_ = (goOnA F may J).1) ∧ CZ b m' F (goOnA F may J).2) := by
  refine Ct_of_V rfl (by decide) rfl (Nat.le_of_ble_eq_true rfl) ?_
  show V μX6_goOn 6 m _ 0 [(0, vr 9), (1, vr P)] [] m
  have hL := CZ.lay hS hZ
  obtain ⟨⟨i3, i5, i6, i10, i12, ifr, iop⟩, ⟨d1, d2, d3⟩, d0⟩ := hI
  have hW := SB.w hS
  obtain ⟨a1, a2, a3, a4, a5, a6⟩ := ifr (J.1 8).toNat (by omega)
  have ts := tab_s hW a1
  have hin := fun h => inn_kid (p := (J.2.2.1 (J.1 8).toNat 0)) hW a1 h
  have hpJ : 0 ≤ J.1 3 ∧ J.1 3 ≤ 5006 ∧ 0 ≤ J.1 5 ∧ J.1 5 ≤ 5001 ∧ 0 ≤ (J.2.2.1 (J.1 8).toNat 0) ∧ (J.2.2.1 (J.1 8).toNat 0) < (c : Int) := by refine ⟨?_, ?_, ?_, ?_, a1.1, a1.2⟩ <;> omega
  unfold FarF at a6
  refine V_ld (pc := 0) dX6_goOn_0 (v := vr 9) rfl rfl ?_
  refine V_getIv (pc := 1) dX6_goOn_1 (v := (J.1 8)) fw_RX6_55 rfl (hL.t9) (CZ.s hZ (k := 8) (by decide)) (fun g1 => ?_)
  refine V_st (pc := 4) dX6_goOn_4 (ls' := [(2, vi (J.1 8)), (0, vr 9), (1, vr P)]) rfl (Nat.le_of_ble_eq_true rfl) rfl ?_
  refine V_ld (pc := 5) dX6_goOn_5 (v := vr 9) rfl rfl ?_
  refine V_ld (pc := 6) dX6_goOn_6 (v := vi (J.1 8)) rfl rfl ?_
  refine V_iconst (pc := 7) dX6_goOn_7 (by unfold I32; omega) ?_
  refine V_callV (pc := 8) dX6_goOn_8 (F' := 0) (As := [vi (J.1 8), vi 2]) (st := []) cw_RX6_131 rfl rfl (hL.t9) (by decide) (Nat.le_of_ble_eq_true rfl) (by omega) (z_frameFact b P Q L F c n may hcn cl J 2 m (J.1 8) 2   hS hZ (show 0 ≤ J.1 8 ∧ J.1 8 < J.1 3 ∧ J.1 3 ≤ 5006 from ⟨d0, d1.2, by omega⟩) ⟨rfl, by decide⟩) ?_
  rintro _ _ ⟨x8, rfl, rfl, rfl⟩ ok8 le8
  refine V_st (pc := 11) dX6_goOn_11 (ls' := [(3, vi (stC F (J.2.2.1 (J.1 8).toNat 0) (J.2.2.1 (J.1 8).toNat 2))), (2, vi (J.1 8)), (0, vr 9), (1, vr P)]) rfl (Nat.le_of_ble_eq_true rfl) rfl ?_
  refine V_ld (pc := 12) dX6_goOn_12 (v := vr 9) rfl rfl ?_
  refine V_ld (pc := 13) dX6_goOn_13 (v := vr 9) rfl rfl ?_
  refine V_ld (pc := 14) dX6_goOn_14 (v := vi (J.1 8)) rfl rfl ?_
  refine V_iconst (pc := 15) dX6_goOn_15 (by unfold I32; omega) ?_
  refine V_callV (pc := 16) dX6_goOn_16 (F' := 0) (As := [vi (J.1 8), vi 0]) (st := [vr 9]) cw_RX6_131 rfl rfl (hL.t9) (by decide) (Nat.le_of_ble_eq_true rfl) (by omega) (z_frameFact b P Q L F c n may hcn cl J 0 m (J.1 8) 0   hS hZ (show 0 ≤ J.1 8 ∧ J.1 8 < J.1 3 ∧ J.1 3 ≤ 5006 from ⟨d0, d1.2, by omega⟩) ⟨rfl, by decide⟩) ?_
  rintro _ _ ⟨x16, rfl, rfl, rfl⟩ ok16 le16
  refine V_putI (pc := 19) dX6_goOn_19 fw_RX6_76 rfl (hL.t9) (Or.inl rfl) (Or.inl rfl) ?_
  refine V_ld (pc := 22) dX6_goOn_22 (v := vr 9) rfl rfl ?_
  refine V_ld (pc := 23) dX6_goOn_23 (v := vr 9) rfl rfl ?_
  refine V_ld (pc := 24) dX6_goOn_24 (v := vi (J.1 8)) rfl rfl ?_
  refine V_iconst (pc := 25) dX6_goOn_25 (by unfold I32; omega) ?_
  refine V_callV (pc := 26) dX6_goOn_26 (F' := 0) (As := [vi (J.1 8), vi 1]) (st := [vr 9]) cw_RX6_131 rfl rfl (hL.t9) (by decide) (Nat.le_of_ble_eq_true rfl) (by omega) (z_frameFact b P Q L F c n may hcn cl (setS J 7 (J.2.2.1 (J.1 8).toNat 0)) 1 (setI m 9 7 (J.2.2.1 (J.1 8).toNat 0)) (J.1 8) 1   hS (CZ.set (k := 7) (v := (J.2.2.1 (J.1 8).toNat 0)) hZ (fun e_ => absurd e_ (by decide)) (fun e_ => absurd e_ (by decide))) (show 0 ≤ J.1 8 ∧ J.1 8 < J.1 3 ∧ J.1 3 ≤ 5006 from ⟨d0, d1.2, by omega⟩) ⟨rfl, by decide⟩) ?_
  rintro _ _ ⟨x26, rfl, rfl, rfl⟩ ok26 le26
  refine V_putI (pc := 29) dX6_goOn_29 fw_RX6_55 rfl (hL.t9) (Or.inl rfl) (Or.inl rfl) ?_
  refine V_ld (pc := 32) dX6_goOn_32 (v := vr P) rfl rfl ?_
  refine V_ld (pc := 33) dX6_goOn_33 (v := vr 9) rfl rfl ?_
  refine V_getIv (pc := 34) dX6_goOn_34 (v := (J.2.2.1 (J.1 8).toNat 0)) fw_RX6_76 rfl (hL.t9) (by first | rfl | (simp only [mI_setI, up2]; repeat (first | rfl | rw [if_neg (by omega)] | rw [if_pos (by omega)]))) (fun g34 => ?_)
  refine V_iconst (pc := 37) dX6_goOn_37 (by unfold I32; omega) ?_
  refine V_callV (pc := 38) dX6_goOn_38 (F' := 0) (As := [vi (J.2.2.1 (J.1 8).toNat 0), vi 0]) (st := []) cw_RX6_106 rfl rfl (show mT m P = (4, 2) from CZ.tP hS hZ) (by decide) (Nat.le_of_ble_eq_true rfl) (by omega) (c_factT L F c 0 (setI (setI m 9 7 (J.2.2.1 (J.1 8).toNat 0)) 9 8 (J.2.2.1 (J.1 8).toNat 1)) P (J.2.2.1 (J.1 8).toNat 0) 0 Q  (CZ.tP hS (CZ.set (k := 8) (v := (J.2.2.1 (J.1 8).toNat 1)) (CZ.set (k := 7) (v := (J.2.2.1 (J.1 8).toNat 0)) hZ (fun e_ => absurd e_ (by decide)) (fun e_ => absurd e_ (by decide))) (fun e_ => absurd e_ (by decide)) (fun e_ => absurd e_ (by decide)))) (CZ.rQ hS (CZ.set (k := 8) (v := (J.2.2.1 (J.1 8).toNat 1)) (CZ.set (k := 7) (v := (J.2.2.1 (J.1 8).toNat 0)) hZ (fun e_ => absurd e_ (by decide)) (fun e_ => absurd e_ (by decide))) (fun e_ => absurd e_ (by decide)) (fun e_ => absurd e_ (by decide)))) (CZ.tQ hS (CZ.set (k := 8) (v := (J.2.2.1 (J.1 8).toNat 1)) (CZ.set (k := 7) (v := (J.2.2.1 (J.1 8).toNat 0)) hZ (fun e_ => absurd e_ (by decide)) (fun e_ => absurd e_ (by decide))) (fun e_ => absurd e_ (by decide)) (fun e_ => absurd e_ (by decide)))) (CZ.gc hS (CZ.set (k := 8) (v := (J.2.2.1 (J.1 8).toNat 1)) (CZ.set (k := 7) (v := (J.2.2.1 (J.1 8).toNat 0)) hZ (fun e_ => absurd e_ (by decide)) (fun e_ => absurd e_ (by decide))) (fun e_ => absurd e_ (by decide)) (fun e_ => absurd e_ (by decide)))) (CZ.tab hS (CZ.set (k := 8) (v := (J.2.2.1 (J.1 8).toNat 1)) (CZ.set (k := 7) (v := (J.2.2.1 (J.1 8).toNat 0)) hZ (fun e_ => absurd e_ (by decide)) (fun e_ => absurd e_ (by decide))) (fun e_ => absurd e_ (by decide)) (fun e_ => absurd e_ (by decide)))) a1 ⟨by decide, by decide⟩) ?_
  rintro _ _ ⟨x38, rfl, rfl, rfl⟩ ok38 le38
  refine V_st (pc := 41) dX6_goOn_41 (ls' := [(4, vi (F (J.2.2.1 (J.1 8).toNat 0).toNat 0)), (3, vi (stC F (J.2.2.1 (J.1 8).toNat 0) (J.2.2.1 (J.1 8).toNat 2))), (2, vi (J.1 8)), (0, vr 9), (1, vr P)]) rfl (Nat.le_of_ble_eq_true rfl) rfl ?_
  refine V_ld (pc := 43) dX6_goOn_43 (v := vi (F (J.2.2.1 (J.1 8).toNat 0).toNat 0)) rfl rfl ?_
  refine V_iconst (pc := 45) dX6_goOn_45 (by unfold I32; omega) ?_
  refine V_icmp_ne (pc := 46) dX6_goOn_46 (tgt := 62) rfl (fun h46 => ?_) (fun h46 => ?_)
  · skip
    refine V_ld (pc := 62) dX6_goOn_62 (v := vr 9) rfl rfl ?_
    refine V_callV (pc := 63) dX6_goOn_63 (F' := 0) (As := []) (st := []) cw_RX6_113 rfl rfl (hL.t9) (by decide) (Nat.le_of_ble_eq_true rfl) (by omega) (z_mayTry b P Q L F c n may hcn cl (setS (setS J 7 (J.2.2.1 (J.1 8).toNat 0)) 8 (J.2.2.1 (J.1 8).toNat 1)) (setI (setI m 9 7 (J.2.2.1 (J.1 8).toNat 0)) 9 8 (J.2.2.1 (J.1 8).toNat 1))    hS (CZ.set (k := 8) (v := (J.2.2.1 (J.1 8).toNat 1)) (CZ.set (k := 7) (v := (J.2.2.1 (J.1 8).toNat 0)) hZ (fun e_ => absurd e_ (by decide)) (fun e_ => absurd e_ (by decide))) (fun e_ => absurd e_ (by decide)) (fun e_ => absurd e_ (by decide))) (show 0 ≤ J.1 10 ∧ J.1 10 ≤ 5000 from (by omega))) ?_
    rintro _ m63 ⟨x63, rfl, hx63, hm63⟩ ok63 le63
    have hx63 : x63 = if may < J.1 10 + 1 then 0 else 1 := hx63
    refine V_if_ne (pc := 66) dX6_goOn_66 (tgt := 71) rfl (fun h66 => ?_) (fun h66 => ?_)
    · skip
      have hst : stC F (J.2.2.1 (J.1 8).toNat 0) (J.2.2.1 (J.1 8).toNat 2) = (J.2.2.1 (J.1 8).toNat 2) := stC_n (by omega)
      rw [hst]
      refine V_ld (pc := 71) dX6_goOn_71 (v := vi (F (J.2.2.1 (J.1 8).toNat 0).toNat 0)) rfl rfl ?_
      refine V_iconst (pc := 73) dX6_goOn_73 (by unfold I32; omega) ?_
      refine V_icmp_ne (pc := 74) dX6_goOn_74 (tgt := 92) rfl (fun h74 => ?_) (fun h74 => ?_)
      · skip
        refine V_ld (pc := 92) dX6_goOn_92 (v := vr 9) rfl rfl ?_
        refine V_ld (pc := 93) dX6_goOn_93 (v := vr P) rfl rfl ?_
        refine V_ld (pc := 94) dX6_goOn_94 (v := vi (J.2.2.1 (J.1 8).toNat 2)) rfl rfl ?_
        refine V_iconst (pc := 95) dX6_goOn_95 (by unfold I32; omega) ?_
        refine V_callV (pc := 96) dX6_goOn_96 (F' := 4) (As := [vr P, vi (J.2.2.1 (J.1 8).toNat 2), vi 0]) (st := []) cw_RX6_128 rfl rfl (CZ.lay hS hm63).t9 (by decide) (Nat.le_of_ble_eq_true rfl) (by omega) (z_order b Q L F c n may hcn cl (tryJ (setS (setS J 7 (J.2.2.1 (J.1 8).toNat 0)) 8 (J.2.2.1 (J.1 8).toNat 1))) m63 P (J.2.2.1 (J.1 8).toNat 2) 0   hS hm63 hpJ (show F (J.2.2.1 (J.1 8).toNat 0).toNat 0 = 6 ∧ 0 ≤ (J.2.2.1 (J.1 8).toNat 2) ∧ (J.2.2.1 (J.1 8).toNat 2) < 16 ∧ (0 : Int) ≤ 0 ∧ 0 ≤ F (J.2.2.1 (J.1 8).toNat 0).toNat 2 ∧ J.1 5 ≤ 5000 from (by have h_ := hin (by omega); omega))) ?_
        rintro _ m96 ⟨x96, rfl, hx96, hm96⟩ ok96 le96
        refine V_reti (pc := 99) dX6_goOn_99 trivial ?_
        first
          | (exfalso; omega)
          | (rw [goA_6 (by omega) (by omega)]
             exact ⟨hx96, hm96⟩)
      · skip
        refine V_ld (pc := 77) dX6_goOn_77 (v := vr 9) rfl rfl ?_
        refine V_ld (pc := 78) dX6_goOn_78 (v := vr P) rfl rfl ?_
        refine V_ld (pc := 79) dX6_goOn_79 (v := vi (J.2.2.1 (J.1 8).toNat 2)) rfl rfl ?_
        refine V_ld (pc := 80) dX6_goOn_80 (v := vr 9) rfl rfl ?_
        refine V_ld (pc := 81) dX6_goOn_81 (v := vi (J.1 8)) rfl rfl ?_
        refine V_iconst (pc := 82) dX6_goOn_82 (by unfold I32; omega) ?_
        refine V_callV (pc := 83) dX6_goOn_83 (F' := 0) (As := [vi (J.1 8), vi 3]) (st := [vi (J.2.2.1 (J.1 8).toNat 2), vr P, vr 9]) cw_RX6_131 rfl rfl (CZ.lay hS hm63).t9 (by decide) (Nat.le_of_ble_eq_true rfl) (by omega) (z_frameFact b P Q L F c n may hcn cl (tryJ (setS (setS J 7 (J.2.2.1 (J.1 8).toNat 0)) 8 (J.2.2.1 (J.1 8).toNat 1))) 3 m63 (J.1 8) 3   hS hm63 (show 0 ≤ J.1 8 ∧ J.1 8 < J.1 3 ∧ J.1 3 ≤ 5006 from ⟨d0, d1.2, by omega⟩) ⟨rfl, by decide⟩) ?_
        rintro _ _ ⟨x83, rfl, rfl, rfl⟩ ok83 le83
        refine V_callV (pc := 86) dX6_goOn_86 (F' := 4) (As := [vr P, vi (J.2.2.1 (J.1 8).toNat 2), vi (J.2.2.1 (J.1 8).toNat 3)]) (st := []) cw_RX6_124 rfl rfl (CZ.lay hS hm63).t9 (by decide) (Nat.le_of_ble_eq_true rfl) (by omega) (z_repeat b Q L F c n may hcn cl (tryJ (setS (setS J 7 (J.2.2.1 (J.1 8).toNat 0)) 8 (J.2.2.1 (J.1 8).toNat 1))) m63 P (J.2.2.1 (J.1 8).toNat 2) (J.2.2.1 (J.1 8).toNat 3)   hS hm63 hpJ (show F (J.2.2.1 (J.1 8).toNat 0).toNat 0 = 5 ∧ 0 ≤ (J.2.2.1 (J.1 8).toNat 2) ∧ (J.2.2.1 (J.1 8).toNat 2) + 1 ≤ 5000 ∧ J.1 5 ≤ 5000 from (by omega))) ?_
        rintro _ m86 ⟨x86, rfl, hx86, hm86⟩ ok86 le86
        refine V_goto (pc := 89) dX6_goOn_89 (tgt := 99) rfl ?_
        refine V_reti (pc := 99) dX6_goOn_99 trivial ?_
        first
          | (exfalso; omega)
          | (rw [goA_5 (by omega) (by omega)]
             exact ⟨hx86, hm86⟩)
    · skip
      refine V_iconst (pc := 69) dX6_goOn_69 (by unfold I32; omega) ?_
      refine V_reti (pc := 70) dX6_goOn_70 trivial ?_
      first
        | (exfalso; omega)
        | (rw [goA_o (by omega) (by omega)]
           exact ⟨by first | rfl | omega, hm63⟩)
  · skip
    have hst : stC F (J.2.2.1 (J.1 8).toNat 0) (J.2.2.1 (J.1 8).toNat 2) = kidN F (J.2.2.1 (J.1 8).toNat 0) ((J.2.2.1 (J.1 8).toNat 2) - 1).toNat := stC_3 (by omega)
    have hkk := (hin (by omega)).2.2.2.2.2.2 ((J.2.2.1 (J.1 8).toNat 2) - 1).toNat (by omega)
    refine V_ld (pc := 49) dX6_goOn_49 (v := vr 9) rfl rfl ?_
    refine V_ld (pc := 50) dX6_goOn_50 (v := vr P) rfl rfl ?_
    refine V_ld (pc := 51) dX6_goOn_51 (v := vr P) rfl rfl ?_
    refine V_ld (pc := 52) dX6_goOn_52 (v := vi (stC F (J.2.2.1 (J.1 8).toNat 0) (J.2.2.1 (J.1 8).toNat 2))) rfl rfl ?_
    refine V_bipush (pc := 53) dX6_goOn_53 (by unfold I32; omega) (by decide) ?_
    refine V_callV (pc := 55) dX6_goOn_55 (F' := 0) (As := [vi (stC F (J.2.2.1 (J.1 8).toNat 0) (J.2.2.1 (J.1 8).toNat 2)), vi 8]) (st := [vr P, vr 9]) cw_RX6_106 rfl rfl (show mT m P = (4, 2) from CZ.tP hS hZ) (by decide) (Nat.le_of_ble_eq_true rfl) (by omega) (c_factT L F c 8 (setI (setI m 9 7 (J.2.2.1 (J.1 8).toNat 0)) 9 8 (J.2.2.1 (J.1 8).toNat 1)) P (stC F (J.2.2.1 (J.1 8).toNat 0) (J.2.2.1 (J.1 8).toNat 2)) 8 Q  (CZ.tP hS (CZ.set (k := 8) (v := (J.2.2.1 (J.1 8).toNat 1)) (CZ.set (k := 7) (v := (J.2.2.1 (J.1 8).toNat 0)) hZ (fun e_ => absurd e_ (by decide)) (fun e_ => absurd e_ (by decide))) (fun e_ => absurd e_ (by decide)) (fun e_ => absurd e_ (by decide)))) (CZ.rQ hS (CZ.set (k := 8) (v := (J.2.2.1 (J.1 8).toNat 1)) (CZ.set (k := 7) (v := (J.2.2.1 (J.1 8).toNat 0)) hZ (fun e_ => absurd e_ (by decide)) (fun e_ => absurd e_ (by decide))) (fun e_ => absurd e_ (by decide)) (fun e_ => absurd e_ (by decide)))) (CZ.tQ hS (CZ.set (k := 8) (v := (J.2.2.1 (J.1 8).toNat 1)) (CZ.set (k := 7) (v := (J.2.2.1 (J.1 8).toNat 0)) hZ (fun e_ => absurd e_ (by decide)) (fun e_ => absurd e_ (by decide))) (fun e_ => absurd e_ (by decide)) (fun e_ => absurd e_ (by decide)))) (CZ.gc hS (CZ.set (k := 8) (v := (J.2.2.1 (J.1 8).toNat 1)) (CZ.set (k := 7) (v := (J.2.2.1 (J.1 8).toNat 0)) hZ (fun e_ => absurd e_ (by decide)) (fun e_ => absurd e_ (by decide))) (fun e_ => absurd e_ (by decide)) (fun e_ => absurd e_ (by decide)))) (CZ.tab hS (CZ.set (k := 8) (v := (J.2.2.1 (J.1 8).toNat 1)) (CZ.set (k := 7) (v := (J.2.2.1 (J.1 8).toNat 0)) hZ (fun e_ => absurd e_ (by decide)) (fun e_ => absurd e_ (by decide))) (fun e_ => absurd e_ (by decide)) (fun e_ => absurd e_ (by decide)))) (by rw [hst]; exact ⟨hkk.1, hkk.2.1⟩) ⟨by decide, by decide⟩) ?_
    rintro _ _ ⟨x55, rfl, rfl, rfl⟩ ok55 le55
    refine V_callV (pc := 58) dX6_goOn_58 (F' := 3) (As := [vr P, vi (F (stC F (J.2.2.1 (J.1 8).toNat 0) (J.2.2.1 (J.1 8).toNat 2)).toNat 8)]) (st := []) cw_RX6_109 rfl rfl (hL.t9) (by decide) (Nat.le_of_ble_eq_true rfl) (by omega) (z_comeWithin b Q L F c n may hcn cl (setS (setS J 7 (J.2.2.1 (J.1 8).toNat 0)) 8 (J.2.2.1 (J.1 8).toNat 1)) (J.2.2.1 (J.1 8).toNat 2) (setI (setI m 9 7 (J.2.2.1 (J.1 8).toNat 0)) 9 8 (J.2.2.1 (J.1 8).toNat 1)) P (F (stC F (J.2.2.1 (J.1 8).toNat 0) (J.2.2.1 (J.1 8).toNat 2)).toNat 8)   hS (CZ.set (k := 8) (v := (J.2.2.1 (J.1 8).toNat 1)) (CZ.set (k := 7) (v := (J.2.2.1 (J.1 8).toNat 0)) hZ (fun e_ => absurd e_ (by decide)) (fun e_ => absurd e_ (by decide))) (fun e_ => absurd e_ (by decide)) (fun e_ => absurd e_ (by decide))) hpJ (show F (J.2.2.1 (J.1 8).toNat 0).toNat 0 = 3 ∧ 0 ≤ (J.2.2.1 (J.1 8).toNat 2) ∧ (J.2.2.1 (J.1 8).toNat 2) < F (J.2.2.1 (J.1 8).toNat 0).toNat 2 from (by omega)) (by rw [hst, kidN_s (F := F) (p := (J.2.2.1 (J.1 8).toNat 0)) (far := (J.2.2.1 (J.1 8).toNat 2) - 1) (by omega), show (J.2.2.1 (J.1 8).toNat 2) - 1 + 1 = (J.2.2.1 (J.1 8).toNat 2) from by omega]; rfl)) ?_
    rintro _ m58 ⟨x58, rfl, hx58, hm58⟩ ok58 le58
    refine V_reti (pc := 61) dX6_goOn_61 trivial ?_
    first
      | (exfalso; omega)
      | (rw [goA_s (by omega)]
         exact ⟨hx58, hm58⟩)

set_option maxHeartbeats 8000000 in
theorem z_goBack (b : Mem) (Q : Nat) (L : Nat) (F : Tb) (c : Nat) (n : Int) (may : Int) (hcn : Nat → CEnv → Int) (cl : Nat → Int) (J : SJ) (m : Mem) (P : Nat)   (hS : SB b P Q L F c n may hcn cl) (hZ : CZ b m F J) (hI : SI F c n may J ∧ 0 < J.1 5) : Ct μX6_goBack 6 [vr 9, vr P] m (ri fun x_ m' => (x_ = (goBkA F J).1) ∧ CZ b m' F (goBkA F J).2) := by
  refine Ct_of_V rfl (by decide) rfl (Nat.le_of_ble_eq_true rfl) ?_
  show V μX6_goBack 6 m _ 0 [(0, vr 9), (1, vr P)] [] m
  have hL := CZ.lay hS hZ
  obtain ⟨A, B, LA, LB, h⟩ := hZ
  have hZ : CZ b m F J := ⟨A, B, LA, LB, h⟩
  obtain ⟨⟨i3, i5, i6, i10, i12, ifr, iop⟩, d0⟩ := hI
  have hW := SB.w hS
  obtain ⟨a1, a2, a3, a4, a5, a6, a7, a8⟩ := iop (J.1 5 - 1).toNat (by omega)
  have ts := tab_s hW a1
  have hin := fun h => inn_kid (p := (J.2.2.2 (J.1 5 - 1).toNat 0)) hW a1 h
  have hb := h.2.2.2.2.2.1 (J.1 5 - 1).toNat (by omega)
  have hlb := h.2.2.2.2.2.2.2
  have hlb2 : LB ≤ 65536 := h.1.2.1.2.2.2.2.1
  have hB9 : B ≠ 9 := by have h_ := h.1.2.1.2.2.2.2.2.1; omega
  have hpJ : 0 ≤ (J.2.2.2 (J.1 5 - 1).toNat 4) ∧ (J.2.2.2 (J.1 5 - 1).toNat 4) ≤ 5006 ∧ 0 ≤ J.1 5 - 1 ∧ J.1 5 - 1 ≤ 5001 ∧ 0 ≤ (J.2.2.2 (J.1 5 - 1).toNat 0) ∧ (J.2.2.2 (J.1 5 - 1).toNat 0) < (c : Int) := by refine ⟨?_, ?_, ?_, ?_, a1.1, a1.2⟩ <;> omega
  unfold FarO at a8
  refine V_ld (pc := 0) dX6_goBack_0 (v := vr 9) rfl rfl ?_
  refine V_dup (pc := 1) dX6_goBack_1 rfl ?_
  refine V_getIv (pc := 2) dX6_goBack_2 (v := (J.1 5)) fw_RX6_67 rfl (hL.t9) (CZ.s hZ (k := 5) (by decide)) (fun g2 => ?_)
  refine V_iconst (pc := 5) dX6_goBack_5 (by unfold I32; omega) ?_
  refine V_isub (pc := 6) dX6_goBack_6 (by unfold I32 at *; omega) ?_
  refine V_putI (pc := 7) dX6_goBack_7 fw_RX6_67 rfl (hL.t9) (Or.inl rfl) (Or.inl rfl) ?_
  refine V_ld (pc := 10) dX6_goBack_10 (v := vr 9) rfl rfl ?_
  refine V_ld (pc := 11) dX6_goBack_11 (v := vr 9) rfl rfl ?_
  refine V_iconst (pc := 12) dX6_goBack_12 (by unfold I32; omega) ?_
  refine V_callV (pc := 13) dX6_goBack_13 (F' := 0) (As := [vi 0]) (st := [vr 9]) cw_RX6_134 rfl rfl (hL.t9) (by decide) (Nat.le_of_ble_eq_true rfl) (by omega) (z_optionFact B LB (J.1 5 - 1) (setI m 9 5 ((J.1 5) - 1)) 0   (hL.t9) h.1.2.1.1 h.1.2.1.2.1 ⟨CZ.s (CZ.set (k := 5) (v := (J.1 5) - 1) hZ (fun e_ => absurd e_ (by decide)) (fun _ => by omega)) (k := 5) (by decide), by omega, by omega, by omega, by omega⟩ ⟨by decide, by decide⟩) ?_
  rintro _ _ ⟨x13, rfl, hx13, rfl⟩ ok13 le13
  have hv13 : x13 = (J.2.2.2 (J.1 5 - 1).toNat 0) := hx13.trans (by rw [show ((J.1 5 - 1) * 5 + 0).toNat = 5 * (J.1 5 - 1).toNat from by omega]; (repeat rw [mI_setne (Or.inl hB9)]); exact hb.1)
  subst hv13
  refine V_putI (pc := 16) dX6_goBack_16 fw_RX6_76 rfl (hL.t9) (Or.inl rfl) (Or.inl rfl) ?_
  refine V_ld (pc := 19) dX6_goBack_19 (v := vr 9) rfl rfl ?_
  refine V_ld (pc := 20) dX6_goBack_20 (v := vr 9) rfl rfl ?_
  refine V_iconst (pc := 21) dX6_goBack_21 (by unfold I32; omega) ?_
  refine V_callV (pc := 22) dX6_goBack_22 (F' := 0) (As := [vi 1]) (st := [vr 9]) cw_RX6_134 rfl rfl (hL.t9) (by decide) (Nat.le_of_ble_eq_true rfl) (by omega) (z_optionFact B LB (J.1 5 - 1) (setI (setI m 9 5 ((J.1 5) - 1)) 9 7 (J.2.2.2 (J.1 5 - 1).toNat 0)) 1   (hL.t9) h.1.2.1.1 h.1.2.1.2.1 ⟨CZ.s (CZ.set (k := 7) (v := (J.2.2.2 (J.1 5 - 1).toNat 0)) (CZ.set (k := 5) (v := (J.1 5) - 1) hZ (fun e_ => absurd e_ (by decide)) (fun _ => by omega)) (fun e_ => absurd e_ (by decide)) (fun e_ => absurd e_ (by decide))) (k := 5) (by decide), by omega, by omega, by omega, by omega⟩ ⟨by decide, by decide⟩) ?_
  rintro _ _ ⟨x22, rfl, hx22, rfl⟩ ok22 le22
  have hv22 : x22 = (J.2.2.2 (J.1 5 - 1).toNat 1) := hx22.trans (by rw [show ((J.1 5 - 1) * 5 + 1).toNat = 5 * (J.1 5 - 1).toNat + 1 from by omega]; (repeat rw [mI_setne (Or.inl hB9)]); exact hb.2.1)
  subst hv22
  refine V_putI (pc := 25) dX6_goBack_25 fw_RX6_55 rfl (hL.t9) (Or.inl rfl) (Or.inl rfl) ?_
  refine V_ld (pc := 28) dX6_goBack_28 (v := vr 9) rfl rfl ?_
  refine V_ld (pc := 29) dX6_goBack_29 (v := vr 9) rfl rfl ?_
  refine V_iconst (pc := 30) dX6_goBack_30 (by unfold I32; omega) ?_
  refine V_callV (pc := 31) dX6_goBack_31 (F' := 0) (As := [vi 3]) (st := [vr 9]) cw_RX6_134 rfl rfl (hL.t9) (by decide) (Nat.le_of_ble_eq_true rfl) (by omega) (z_optionFact B LB (J.1 5 - 1) (setI (setI (setI m 9 5 ((J.1 5) - 1)) 9 7 (J.2.2.2 (J.1 5 - 1).toNat 0)) 9 8 (J.2.2.2 (J.1 5 - 1).toNat 1)) 3   (hL.t9) h.1.2.1.1 h.1.2.1.2.1 ⟨CZ.s (CZ.set (k := 8) (v := (J.2.2.2 (J.1 5 - 1).toNat 1)) (CZ.set (k := 7) (v := (J.2.2.2 (J.1 5 - 1).toNat 0)) (CZ.set (k := 5) (v := (J.1 5) - 1) hZ (fun e_ => absurd e_ (by decide)) (fun _ => by omega)) (fun e_ => absurd e_ (by decide)) (fun e_ => absurd e_ (by decide))) (fun e_ => absurd e_ (by decide)) (fun e_ => absurd e_ (by decide))) (k := 5) (by decide), by omega, by omega, by omega, by omega⟩ ⟨by decide, by decide⟩) ?_
  rintro _ _ ⟨x31, rfl, hx31, rfl⟩ ok31 le31
  have hv31 : x31 = (J.2.2.2 (J.1 5 - 1).toNat 3) := hx31.trans (by rw [show ((J.1 5 - 1) * 5 + 3).toNat = 5 * (J.1 5 - 1).toNat + 3 from by omega]; (repeat rw [mI_setne (Or.inl hB9)]); exact hb.2.2.2.1)
  subst hv31
  refine V_putI (pc := 34) dX6_goBack_34 fw_RX6_64 rfl (hL.t9) (Or.inl rfl) (Or.inl rfl) ?_
  refine V_ld (pc := 37) dX6_goBack_37 (v := vr 9) rfl rfl ?_
  refine V_ld (pc := 38) dX6_goBack_38 (v := vr 9) rfl rfl ?_
  refine V_iconst (pc := 39) dX6_goBack_39 (by unfold I32; omega) ?_
  refine V_callV (pc := 40) dX6_goBack_40 (F' := 0) (As := [vi 4]) (st := [vr 9]) cw_RX6_134 rfl rfl (hL.t9) (by decide) (Nat.le_of_ble_eq_true rfl) (by omega) (z_optionFact B LB (J.1 5 - 1) (setI (setI (setI (setI m 9 5 ((J.1 5) - 1)) 9 7 (J.2.2.2 (J.1 5 - 1).toNat 0)) 9 8 (J.2.2.2 (J.1 5 - 1).toNat 1)) 9 9 (J.2.2.2 (J.1 5 - 1).toNat 3)) 4   (hL.t9) h.1.2.1.1 h.1.2.1.2.1 ⟨CZ.s (CZ.set (k := 9) (v := (J.2.2.2 (J.1 5 - 1).toNat 3)) (CZ.set (k := 8) (v := (J.2.2.2 (J.1 5 - 1).toNat 1)) (CZ.set (k := 7) (v := (J.2.2.2 (J.1 5 - 1).toNat 0)) (CZ.set (k := 5) (v := (J.1 5) - 1) hZ (fun e_ => absurd e_ (by decide)) (fun _ => by omega)) (fun e_ => absurd e_ (by decide)) (fun e_ => absurd e_ (by decide))) (fun e_ => absurd e_ (by decide)) (fun e_ => absurd e_ (by decide))) (fun e_ => absurd e_ (by decide)) (fun e_ => absurd e_ (by decide))) (k := 5) (by decide), by omega, by omega, by omega, by omega⟩ ⟨by decide, by decide⟩) ?_
  rintro _ _ ⟨x40, rfl, hx40, rfl⟩ ok40 le40
  have hv40 : x40 = (J.2.2.2 (J.1 5 - 1).toNat 4) := hx40.trans (by rw [show ((J.1 5 - 1) * 5 + 4).toNat = 5 * (J.1 5 - 1).toNat + 4 from by omega]; (repeat rw [mI_setne (Or.inl hB9)]); exact hb.2.2.2.2)
  subst hv40
  refine V_putI (pc := 43) dX6_goBack_43 fw_RX6_79 rfl (hL.t9) (Or.inl rfl) (Or.inl rfl) ?_
  refine V_ld (pc := 46) dX6_goBack_46 (v := vr 9) rfl rfl ?_
  refine V_iconst (pc := 47) dX6_goBack_47 (by unfold I32; omega) ?_
  refine V_callV (pc := 48) dX6_goBack_48 (F' := 0) (As := [vi 2]) (st := []) cw_RX6_134 rfl rfl (hL.t9) (by decide) (Nat.le_of_ble_eq_true rfl) (by omega) (z_optionFact B LB (J.1 5 - 1) (setI (setI (setI (setI (setI m 9 5 ((J.1 5) - 1)) 9 7 (J.2.2.2 (J.1 5 - 1).toNat 0)) 9 8 (J.2.2.2 (J.1 5 - 1).toNat 1)) 9 9 (J.2.2.2 (J.1 5 - 1).toNat 3)) 9 3 (J.2.2.2 (J.1 5 - 1).toNat 4)) 2   (hL.t9) h.1.2.1.1 h.1.2.1.2.1 ⟨CZ.s (CZ.set (k := 3) (v := (J.2.2.2 (J.1 5 - 1).toNat 4)) (CZ.set (k := 9) (v := (J.2.2.2 (J.1 5 - 1).toNat 3)) (CZ.set (k := 8) (v := (J.2.2.2 (J.1 5 - 1).toNat 1)) (CZ.set (k := 7) (v := (J.2.2.2 (J.1 5 - 1).toNat 0)) (CZ.set (k := 5) (v := (J.1 5) - 1) hZ (fun e_ => absurd e_ (by decide)) (fun _ => by omega)) (fun e_ => absurd e_ (by decide)) (fun e_ => absurd e_ (by decide))) (fun e_ => absurd e_ (by decide)) (fun e_ => absurd e_ (by decide))) (fun e_ => absurd e_ (by decide)) (fun e_ => absurd e_ (by decide))) (fun _ => by show (J.2.2.2 (J.1 5 - 1).toNat 4) ≤ J.1 3; omega) (fun e_ => absurd e_ (by decide))) (k := 5) (by decide), by omega, by omega, by omega, by omega⟩ ⟨by decide, by decide⟩) ?_
  rintro _ _ ⟨x48, rfl, hx48, rfl⟩ ok48 le48
  have hv48 : x48 = (lfC F (J.2.2.2 (J.1 5 - 1).toNat 0) (J.2.2.2 (J.1 5 - 1).toNat 2)) := hx48.trans (by rw [show ((J.1 5 - 1) * 5 + 2).toNat = 5 * (J.1 5 - 1).toNat + 2 from by omega]; (repeat rw [mI_setne (Or.inl hB9)]); exact hb.2.2.1)
  subst hv48
  refine V_st (pc := 51) dX6_goBack_51 (ls' := [(2, vi (lfC F (J.2.2.2 (J.1 5 - 1).toNat 0) (J.2.2.2 (J.1 5 - 1).toNat 2))), (0, vr 9), (1, vr P)]) rfl (Nat.le_of_ble_eq_true rfl) rfl ?_
  refine V_ld (pc := 52) dX6_goBack_52 (v := vr P) rfl rfl ?_
  refine V_ld (pc := 53) dX6_goBack_53 (v := vr 9) rfl rfl ?_
  refine V_getIv (pc := 54) dX6_goBack_54 (v := (J.2.2.2 (J.1 5 - 1).toNat 0)) fw_RX6_76 rfl (hL.t9) (by first | rfl | (simp only [mI_setI, up2]; repeat (first | rfl | rw [if_neg (by omega)] | rw [if_pos (by omega)]))) (fun g54 => ?_)
  refine V_iconst (pc := 57) dX6_goBack_57 (by unfold I32; omega) ?_
  refine V_callV (pc := 58) dX6_goBack_58 (F' := 0) (As := [vi (J.2.2.2 (J.1 5 - 1).toNat 0), vi 0]) (st := []) cw_RX6_106 rfl rfl (show mT m P = (4, 2) from CZ.tP hS hZ) (by decide) (Nat.le_of_ble_eq_true rfl) (by omega) (c_factT L F c 0 (setI (setI (setI (setI (setI m 9 5 ((J.1 5) - 1)) 9 7 (J.2.2.2 (J.1 5 - 1).toNat 0)) 9 8 (J.2.2.2 (J.1 5 - 1).toNat 1)) 9 9 (J.2.2.2 (J.1 5 - 1).toNat 3)) 9 3 (J.2.2.2 (J.1 5 - 1).toNat 4)) P (J.2.2.2 (J.1 5 - 1).toNat 0) 0 Q  (CZ.tP hS (CZ.set (k := 3) (v := (J.2.2.2 (J.1 5 - 1).toNat 4)) (CZ.set (k := 9) (v := (J.2.2.2 (J.1 5 - 1).toNat 3)) (CZ.set (k := 8) (v := (J.2.2.2 (J.1 5 - 1).toNat 1)) (CZ.set (k := 7) (v := (J.2.2.2 (J.1 5 - 1).toNat 0)) (CZ.set (k := 5) (v := (J.1 5) - 1) hZ (fun e_ => absurd e_ (by decide)) (fun _ => by omega)) (fun e_ => absurd e_ (by decide)) (fun e_ => absurd e_ (by decide))) (fun e_ => absurd e_ (by decide)) (fun e_ => absurd e_ (by decide))) (fun e_ => absurd e_ (by decide)) (fun e_ => absurd e_ (by decide))) (fun _ => by show (J.2.2.2 (J.1 5 - 1).toNat 4) ≤ J.1 3; omega) (fun e_ => absurd e_ (by decide)))) (CZ.rQ hS (CZ.set (k := 3) (v := (J.2.2.2 (J.1 5 - 1).toNat 4)) (CZ.set (k := 9) (v := (J.2.2.2 (J.1 5 - 1).toNat 3)) (CZ.set (k := 8) (v := (J.2.2.2 (J.1 5 - 1).toNat 1)) (CZ.set (k := 7) (v := (J.2.2.2 (J.1 5 - 1).toNat 0)) (CZ.set (k := 5) (v := (J.1 5) - 1) hZ (fun e_ => absurd e_ (by decide)) (fun _ => by omega)) (fun e_ => absurd e_ (by decide)) (fun e_ => absurd e_ (by decide))) (fun e_ => absurd e_ (by decide)) (fun e_ => absurd e_ (by decide))) (fun e_ => absurd e_ (by decide)) (fun e_ => absurd e_ (by decide))) (fun _ => by show (J.2.2.2 (J.1 5 - 1).toNat 4) ≤ J.1 3; omega) (fun e_ => absurd e_ (by decide)))) (CZ.tQ hS (CZ.set (k := 3) (v := (J.2.2.2 (J.1 5 - 1).toNat 4)) (CZ.set (k := 9) (v := (J.2.2.2 (J.1 5 - 1).toNat 3)) (CZ.set (k := 8) (v := (J.2.2.2 (J.1 5 - 1).toNat 1)) (CZ.set (k := 7) (v := (J.2.2.2 (J.1 5 - 1).toNat 0)) (CZ.set (k := 5) (v := (J.1 5) - 1) hZ (fun e_ => absurd e_ (by decide)) (fun _ => by omega)) (fun e_ => absurd e_ (by decide)) (fun e_ => absurd e_ (by decide))) (fun e_ => absurd e_ (by decide)) (fun e_ => absurd e_ (by decide))) (fun e_ => absurd e_ (by decide)) (fun e_ => absurd e_ (by decide))) (fun _ => by show (J.2.2.2 (J.1 5 - 1).toNat 4) ≤ J.1 3; omega) (fun e_ => absurd e_ (by decide)))) (CZ.gc hS (CZ.set (k := 3) (v := (J.2.2.2 (J.1 5 - 1).toNat 4)) (CZ.set (k := 9) (v := (J.2.2.2 (J.1 5 - 1).toNat 3)) (CZ.set (k := 8) (v := (J.2.2.2 (J.1 5 - 1).toNat 1)) (CZ.set (k := 7) (v := (J.2.2.2 (J.1 5 - 1).toNat 0)) (CZ.set (k := 5) (v := (J.1 5) - 1) hZ (fun e_ => absurd e_ (by decide)) (fun _ => by omega)) (fun e_ => absurd e_ (by decide)) (fun e_ => absurd e_ (by decide))) (fun e_ => absurd e_ (by decide)) (fun e_ => absurd e_ (by decide))) (fun e_ => absurd e_ (by decide)) (fun e_ => absurd e_ (by decide))) (fun _ => by show (J.2.2.2 (J.1 5 - 1).toNat 4) ≤ J.1 3; omega) (fun e_ => absurd e_ (by decide)))) (CZ.tab hS (CZ.set (k := 3) (v := (J.2.2.2 (J.1 5 - 1).toNat 4)) (CZ.set (k := 9) (v := (J.2.2.2 (J.1 5 - 1).toNat 3)) (CZ.set (k := 8) (v := (J.2.2.2 (J.1 5 - 1).toNat 1)) (CZ.set (k := 7) (v := (J.2.2.2 (J.1 5 - 1).toNat 0)) (CZ.set (k := 5) (v := (J.1 5) - 1) hZ (fun e_ => absurd e_ (by decide)) (fun _ => by omega)) (fun e_ => absurd e_ (by decide)) (fun e_ => absurd e_ (by decide))) (fun e_ => absurd e_ (by decide)) (fun e_ => absurd e_ (by decide))) (fun e_ => absurd e_ (by decide)) (fun e_ => absurd e_ (by decide))) (fun _ => by show (J.2.2.2 (J.1 5 - 1).toNat 4) ≤ J.1 3; omega) (fun e_ => absurd e_ (by decide)))) a1 ⟨by decide, by decide⟩) ?_
  rintro _ _ ⟨x58, rfl, rfl, rfl⟩ ok58 le58
  by_cases h61_4 : (F (J.2.2.2 (J.1 5 - 1).toNat 0).toNat 0) = 4
  · skip
    refine V_lsw (pc := 61) dX6_goBack_61 (off := 27) (tgt := 88) (by decide) (by rw [h61_4]; decide) rfl ?_
    refine V_ld (pc := 88) dX6_goBack_88 (v := vr 9) rfl rfl ?_
    refine V_ld (pc := 89) dX6_goBack_89 (v := vr P) rfl rfl ?_
    refine V_ld (pc := 90) dX6_goBack_90 (v := vi (lfC F (J.2.2.2 (J.1 5 - 1).toNat 0) (J.2.2.2 (J.1 5 - 1).toNat 2))) rfl rfl ?_
    refine V_callV (pc := 91) dX6_goBack_91 (F' := 3) (As := [vr P, vi (lfC F (J.2.2.2 (J.1 5 - 1).toNat 0) (J.2.2.2 (J.1 5 - 1).toNat 2))]) (st := []) cw_RX6_121 rfl rfl (hL.t9) (by decide) (Nat.le_of_ble_eq_true rfl) (by omega) (z_choose b Q L F c n may hcn cl (setS (setS (setS (setS (setS J 5 ((J.1 5) - 1)) 7 (J.2.2.2 (J.1 5 - 1).toNat 0)) 8 (J.2.2.2 (J.1 5 - 1).toNat 1)) 9 (J.2.2.2 (J.1 5 - 1).toNat 3)) 3 (J.2.2.2 (J.1 5 - 1).toNat 4)) (J.2.2.2 (J.1 5 - 1).toNat 2) (setI (setI (setI (setI (setI m 9 5 ((J.1 5) - 1)) 9 7 (J.2.2.2 (J.1 5 - 1).toNat 0)) 9 8 (J.2.2.2 (J.1 5 - 1).toNat 1)) 9 9 (J.2.2.2 (J.1 5 - 1).toNat 3)) 9 3 (J.2.2.2 (J.1 5 - 1).toNat 4)) P (lfC F (J.2.2.2 (J.1 5 - 1).toNat 0) (J.2.2.2 (J.1 5 - 1).toNat 2))   hS (CZ.set (k := 3) (v := (J.2.2.2 (J.1 5 - 1).toNat 4)) (CZ.set (k := 9) (v := (J.2.2.2 (J.1 5 - 1).toNat 3)) (CZ.set (k := 8) (v := (J.2.2.2 (J.1 5 - 1).toNat 1)) (CZ.set (k := 7) (v := (J.2.2.2 (J.1 5 - 1).toNat 0)) (CZ.set (k := 5) (v := (J.1 5) - 1) hZ (fun e_ => absurd e_ (by decide)) (fun _ => by omega)) (fun e_ => absurd e_ (by decide)) (fun e_ => absurd e_ (by decide))) (fun e_ => absurd e_ (by decide)) (fun e_ => absurd e_ (by decide))) (fun e_ => absurd e_ (by decide)) (fun e_ => absurd e_ (by decide))) (fun _ => by show (J.2.2.2 (J.1 5 - 1).toNat 4) ≤ J.1 3; omega) (fun e_ => absurd e_ (by decide))) hpJ (show F (J.2.2.2 (J.1 5 - 1).toNat 0).toNat 0 = 4 ∧ 0 ≤ (J.2.2.2 (J.1 5 - 1).toNat 2) ∧ (J.2.2.2 (J.1 5 - 1).toNat 2) < F (J.2.2.2 (J.1 5 - 1).toNat 0).toNat 2 from (by omega)) (lfC_4 (by omega))) ?_
    rintro _ m91 ⟨x91, rfl, hx91, hm91⟩ ok91 le91
    refine V_reti (pc := 94) dX6_goBack_94 trivial ?_
    first
      | (exfalso; omega)
      | (rw [show goBkA F J = gb2 F (popO J) (J.2.2.2 (J.1 5 - 1).toNat 2) from rfl, gb2_4 (J := popO J) (show F (J.2.2.2 (J.1 5 - 1).toNat 0).toNat 0 = 4 by omega)]
         exact ⟨hx91, hm91⟩)
  by_cases h61_5 : (F (J.2.2.2 (J.1 5 - 1).toNat 0).toNat 0) = 5
  · skip
    refine V_lsw (pc := 61) dX6_goBack_61 (off := 34) (tgt := 95) (by decide) (by rw [h61_5]; decide) rfl ?_
    have hlf : lfC F (J.2.2.2 (J.1 5 - 1).toNat 0) (J.2.2.2 (J.1 5 - 1).toNat 2) = (J.2.2.2 (J.1 5 - 1).toNat 2) := lfC_n (by omega)
    rw [hlf]
    refine V_ld (pc := 95) dX6_goBack_95 (v := vr P) rfl rfl ?_
    refine V_ld (pc := 96) dX6_goBack_96 (v := vr 9) rfl rfl ?_
    refine V_getIv (pc := 97) dX6_goBack_97 (v := (J.2.2.2 (J.1 5 - 1).toNat 0)) fw_RX6_76 rfl (hL.t9) (by first | rfl | (simp only [mI_setI, up2]; repeat (first | rfl | rw [if_neg (by omega)] | rw [if_pos (by omega)]))) (fun g97 => ?_)
    refine V_iconst (pc := 100) dX6_goBack_100 (by unfold I32; omega) ?_
    refine V_callV (pc := 101) dX6_goBack_101 (F' := 0) (As := [vi (J.2.2.2 (J.1 5 - 1).toNat 0), vi 5]) (st := []) cw_RX6_106 rfl rfl (show mT m P = (4, 2) from CZ.tP hS hZ) (by decide) (Nat.le_of_ble_eq_true rfl) (by omega) (c_factT L F c 5 (setI (setI (setI (setI (setI m 9 5 ((J.1 5) - 1)) 9 7 (J.2.2.2 (J.1 5 - 1).toNat 0)) 9 8 (J.2.2.2 (J.1 5 - 1).toNat 1)) 9 9 (J.2.2.2 (J.1 5 - 1).toNat 3)) 9 3 (J.2.2.2 (J.1 5 - 1).toNat 4)) P (J.2.2.2 (J.1 5 - 1).toNat 0) 5 Q  (CZ.tP hS (CZ.set (k := 3) (v := (J.2.2.2 (J.1 5 - 1).toNat 4)) (CZ.set (k := 9) (v := (J.2.2.2 (J.1 5 - 1).toNat 3)) (CZ.set (k := 8) (v := (J.2.2.2 (J.1 5 - 1).toNat 1)) (CZ.set (k := 7) (v := (J.2.2.2 (J.1 5 - 1).toNat 0)) (CZ.set (k := 5) (v := (J.1 5) - 1) hZ (fun e_ => absurd e_ (by decide)) (fun _ => by omega)) (fun e_ => absurd e_ (by decide)) (fun e_ => absurd e_ (by decide))) (fun e_ => absurd e_ (by decide)) (fun e_ => absurd e_ (by decide))) (fun e_ => absurd e_ (by decide)) (fun e_ => absurd e_ (by decide))) (fun _ => by show (J.2.2.2 (J.1 5 - 1).toNat 4) ≤ J.1 3; omega) (fun e_ => absurd e_ (by decide)))) (CZ.rQ hS (CZ.set (k := 3) (v := (J.2.2.2 (J.1 5 - 1).toNat 4)) (CZ.set (k := 9) (v := (J.2.2.2 (J.1 5 - 1).toNat 3)) (CZ.set (k := 8) (v := (J.2.2.2 (J.1 5 - 1).toNat 1)) (CZ.set (k := 7) (v := (J.2.2.2 (J.1 5 - 1).toNat 0)) (CZ.set (k := 5) (v := (J.1 5) - 1) hZ (fun e_ => absurd e_ (by decide)) (fun _ => by omega)) (fun e_ => absurd e_ (by decide)) (fun e_ => absurd e_ (by decide))) (fun e_ => absurd e_ (by decide)) (fun e_ => absurd e_ (by decide))) (fun e_ => absurd e_ (by decide)) (fun e_ => absurd e_ (by decide))) (fun _ => by show (J.2.2.2 (J.1 5 - 1).toNat 4) ≤ J.1 3; omega) (fun e_ => absurd e_ (by decide)))) (CZ.tQ hS (CZ.set (k := 3) (v := (J.2.2.2 (J.1 5 - 1).toNat 4)) (CZ.set (k := 9) (v := (J.2.2.2 (J.1 5 - 1).toNat 3)) (CZ.set (k := 8) (v := (J.2.2.2 (J.1 5 - 1).toNat 1)) (CZ.set (k := 7) (v := (J.2.2.2 (J.1 5 - 1).toNat 0)) (CZ.set (k := 5) (v := (J.1 5) - 1) hZ (fun e_ => absurd e_ (by decide)) (fun _ => by omega)) (fun e_ => absurd e_ (by decide)) (fun e_ => absurd e_ (by decide))) (fun e_ => absurd e_ (by decide)) (fun e_ => absurd e_ (by decide))) (fun e_ => absurd e_ (by decide)) (fun e_ => absurd e_ (by decide))) (fun _ => by show (J.2.2.2 (J.1 5 - 1).toNat 4) ≤ J.1 3; omega) (fun e_ => absurd e_ (by decide)))) (CZ.gc hS (CZ.set (k := 3) (v := (J.2.2.2 (J.1 5 - 1).toNat 4)) (CZ.set (k := 9) (v := (J.2.2.2 (J.1 5 - 1).toNat 3)) (CZ.set (k := 8) (v := (J.2.2.2 (J.1 5 - 1).toNat 1)) (CZ.set (k := 7) (v := (J.2.2.2 (J.1 5 - 1).toNat 0)) (CZ.set (k := 5) (v := (J.1 5) - 1) hZ (fun e_ => absurd e_ (by decide)) (fun _ => by omega)) (fun e_ => absurd e_ (by decide)) (fun e_ => absurd e_ (by decide))) (fun e_ => absurd e_ (by decide)) (fun e_ => absurd e_ (by decide))) (fun e_ => absurd e_ (by decide)) (fun e_ => absurd e_ (by decide))) (fun _ => by show (J.2.2.2 (J.1 5 - 1).toNat 4) ≤ J.1 3; omega) (fun e_ => absurd e_ (by decide)))) (CZ.tab hS (CZ.set (k := 3) (v := (J.2.2.2 (J.1 5 - 1).toNat 4)) (CZ.set (k := 9) (v := (J.2.2.2 (J.1 5 - 1).toNat 3)) (CZ.set (k := 8) (v := (J.2.2.2 (J.1 5 - 1).toNat 1)) (CZ.set (k := 7) (v := (J.2.2.2 (J.1 5 - 1).toNat 0)) (CZ.set (k := 5) (v := (J.1 5) - 1) hZ (fun e_ => absurd e_ (by decide)) (fun _ => by omega)) (fun e_ => absurd e_ (by decide)) (fun e_ => absurd e_ (by decide))) (fun e_ => absurd e_ (by decide)) (fun e_ => absurd e_ (by decide))) (fun e_ => absurd e_ (by decide)) (fun e_ => absurd e_ (by decide))) (fun _ => by show (J.2.2.2 (J.1 5 - 1).toNat 4) ≤ J.1 3; omega) (fun e_ => absurd e_ (by decide)))) a1 ⟨by decide, by decide⟩) ?_
    rintro _ _ ⟨x101, rfl, rfl, rfl⟩ ok101 le101
    refine V_iconst (pc := 104) dX6_goBack_104 (by unfold I32; omega) ?_
    refine V_icmp_ne (pc := 105) dX6_goBack_105 (tgt := 112) rfl (fun h105 => ?_) (fun h105 => ?_)
    · skip
      refine V_ld (pc := 112) dX6_goBack_112 (v := vr 9) rfl rfl ?_
      refine V_ld (pc := 113) dX6_goBack_113 (v := vr P) rfl rfl ?_
      refine V_ld (pc := 114) dX6_goBack_114 (v := vi (J.2.2.2 (J.1 5 - 1).toNat 2)) rfl rfl ?_
      refine V_callV (pc := 115) dX6_goBack_115 (F' := 3) (As := [vr P, vi (J.2.2.2 (J.1 5 - 1).toNat 2)]) (st := []) cw_RX6_137 rfl rfl (hL.t9) (by decide) (Nat.le_of_ble_eq_true rfl) (by omega) (z_onceMore b Q L F c n may hcn cl (setS (setS (setS (setS (setS J 5 ((J.1 5) - 1)) 7 (J.2.2.2 (J.1 5 - 1).toNat 0)) 8 (J.2.2.2 (J.1 5 - 1).toNat 1)) 9 (J.2.2.2 (J.1 5 - 1).toNat 3)) 3 (J.2.2.2 (J.1 5 - 1).toNat 4)) (setI (setI (setI (setI (setI m 9 5 ((J.1 5) - 1)) 9 7 (J.2.2.2 (J.1 5 - 1).toNat 0)) 9 8 (J.2.2.2 (J.1 5 - 1).toNat 1)) 9 9 (J.2.2.2 (J.1 5 - 1).toNat 3)) 9 3 (J.2.2.2 (J.1 5 - 1).toNat 4)) P (J.2.2.2 (J.1 5 - 1).toNat 2)   hS (CZ.set (k := 3) (v := (J.2.2.2 (J.1 5 - 1).toNat 4)) (CZ.set (k := 9) (v := (J.2.2.2 (J.1 5 - 1).toNat 3)) (CZ.set (k := 8) (v := (J.2.2.2 (J.1 5 - 1).toNat 1)) (CZ.set (k := 7) (v := (J.2.2.2 (J.1 5 - 1).toNat 0)) (CZ.set (k := 5) (v := (J.1 5) - 1) hZ (fun e_ => absurd e_ (by decide)) (fun _ => by omega)) (fun e_ => absurd e_ (by decide)) (fun e_ => absurd e_ (by decide))) (fun e_ => absurd e_ (by decide)) (fun e_ => absurd e_ (by decide))) (fun e_ => absurd e_ (by decide)) (fun e_ => absurd e_ (by decide))) (fun _ => by show (J.2.2.2 (J.1 5 - 1).toNat 4) ≤ J.1 3; omega) (fun e_ => absurd e_ (by decide))) hpJ (show F (J.2.2.2 (J.1 5 - 1).toNat 0).toNat 0 = 5 ∧ 0 ≤ (J.2.2.2 (J.1 5 - 1).toNat 2) ∧ (J.2.2.2 (J.1 5 - 1).toNat 2) ≤ 5000 from (by omega))) ?_
      rintro _ m115 ⟨x115, rfl, hx115, hm115⟩ ok115 le115
      refine V_reti (pc := 118) dX6_goBack_118 trivial ?_
      first
        | (exfalso; omega)
        | (rw [show goBkA F J = gb2 F (popO J) (J.2.2.2 (J.1 5 - 1).toNat 2) from rfl, gb2_5n (J := popO J) (show F (J.2.2.2 (J.1 5 - 1).toNat 0).toNat 0 = 5 by omega) (show ¬ F (J.2.2.2 (J.1 5 - 1).toNat 0).toNat 5 = 1 by omega)]
           exact ⟨hx115, hm115⟩)
    · skip
      refine V_iconst (pc := 108) dX6_goBack_108 (by unfold I32; omega) ?_
      refine V_goto (pc := 109) dX6_goBack_109 (tgt := 118) rfl ?_
      refine V_reti (pc := 118) dX6_goBack_118 trivial ?_
      first
        | (exfalso; omega)
        | (rw [show goBkA F J = gb2 F (popO J) (J.2.2.2 (J.1 5 - 1).toNat 2) from rfl, gb2_5 (J := popO J) (show F (J.2.2.2 (J.1 5 - 1).toNat 0).toNat 0 = 5 by omega) (show F (J.2.2.2 (J.1 5 - 1).toNat 0).toNat 5 = 1 by omega)]
           exact ⟨by first | rfl | omega, (CZ.set (k := 3) (v := (J.2.2.2 (J.1 5 - 1).toNat 4)) (CZ.set (k := 9) (v := (J.2.2.2 (J.1 5 - 1).toNat 3)) (CZ.set (k := 8) (v := (J.2.2.2 (J.1 5 - 1).toNat 1)) (CZ.set (k := 7) (v := (J.2.2.2 (J.1 5 - 1).toNat 0)) (CZ.set (k := 5) (v := (J.1 5) - 1) hZ (fun e_ => absurd e_ (by decide)) (fun _ => by omega)) (fun e_ => absurd e_ (by decide)) (fun e_ => absurd e_ (by decide))) (fun e_ => absurd e_ (by decide)) (fun e_ => absurd e_ (by decide))) (fun e_ => absurd e_ (by decide)) (fun e_ => absurd e_ (by decide))) (fun _ => by show (J.2.2.2 (J.1 5 - 1).toNat 4) ≤ J.1 3; omega) (fun e_ => absurd e_ (by decide)))⟩)
  refine V_lsw (pc := 61) dX6_goBack_61 (off := 58) (tgt := 119) (by decide) (by have a0_ := h61_4; have a1_ := h61_5; revert a0_ a1_; generalize (F (J.2.2.2 (J.1 5 - 1).toNat 0).toNat 0) = y_; intro a0_ a1_; simp [Op.lookupswitch.offset, List.find?, Ne.symm a0_, a0_, Ne.symm a1_, a1_]) rfl ?_
  have hlf : lfC F (J.2.2.2 (J.1 5 - 1).toNat 0) (J.2.2.2 (J.1 5 - 1).toNat 2) = (J.2.2.2 (J.1 5 - 1).toNat 2) := lfC_n (by omega)
  rw [hlf]
  refine V_ld (pc := 119) dX6_goBack_119 (v := vr 9) rfl rfl ?_
  refine V_ld (pc := 120) dX6_goBack_120 (v := vr P) rfl rfl ?_
  refine V_ld (pc := 121) dX6_goBack_121 (v := vi (J.2.2.2 (J.1 5 - 1).toNat 2)) rfl rfl ?_
  refine V_bipush (pc := 122) dX6_goBack_122 (by unfold I32; omega) (by decide) ?_
  refine V_idiv (pc := 124) dX6_goBack_124 (by omega) (by omega) ?_
  refine V_ld (pc := 125) dX6_goBack_125 (v := vi (J.2.2.2 (J.1 5 - 1).toNat 2)) rfl rfl ?_
  refine V_bipush (pc := 126) dX6_goBack_126 (by unfold I32; omega) (by decide) ?_
  refine V_irem (pc := 128) dX6_goBack_128 (by omega) (by omega) ?_
  refine V_callV (pc := 129) dX6_goBack_129 (F' := 4) (As := [vr P, vi ((J.2.2.2 (J.1 5 - 1).toNat 2) / 8), vi ((J.2.2.2 (J.1 5 - 1).toNat 2) % 8)]) (st := []) cw_RX6_128 rfl rfl (hL.t9) (by decide) (Nat.le_of_ble_eq_true rfl) (by omega) (z_order b Q L F c n may hcn cl (setS (setS (setS (setS (setS J 5 ((J.1 5) - 1)) 7 (J.2.2.2 (J.1 5 - 1).toNat 0)) 8 (J.2.2.2 (J.1 5 - 1).toNat 1)) 9 (J.2.2.2 (J.1 5 - 1).toNat 3)) 3 (J.2.2.2 (J.1 5 - 1).toNat 4)) (setI (setI (setI (setI (setI m 9 5 ((J.1 5) - 1)) 9 7 (J.2.2.2 (J.1 5 - 1).toNat 0)) 9 8 (J.2.2.2 (J.1 5 - 1).toNat 1)) 9 9 (J.2.2.2 (J.1 5 - 1).toNat 3)) 9 3 (J.2.2.2 (J.1 5 - 1).toNat 4)) P ((J.2.2.2 (J.1 5 - 1).toNat 2) / 8) ((J.2.2.2 (J.1 5 - 1).toNat 2) % 8)   hS (CZ.set (k := 3) (v := (J.2.2.2 (J.1 5 - 1).toNat 4)) (CZ.set (k := 9) (v := (J.2.2.2 (J.1 5 - 1).toNat 3)) (CZ.set (k := 8) (v := (J.2.2.2 (J.1 5 - 1).toNat 1)) (CZ.set (k := 7) (v := (J.2.2.2 (J.1 5 - 1).toNat 0)) (CZ.set (k := 5) (v := (J.1 5) - 1) hZ (fun e_ => absurd e_ (by decide)) (fun _ => by omega)) (fun e_ => absurd e_ (by decide)) (fun e_ => absurd e_ (by decide))) (fun e_ => absurd e_ (by decide)) (fun e_ => absurd e_ (by decide))) (fun e_ => absurd e_ (by decide)) (fun e_ => absurd e_ (by decide))) (fun _ => by show (J.2.2.2 (J.1 5 - 1).toNat 4) ≤ J.1 3; omega) (fun e_ => absurd e_ (by decide))) hpJ (show F (J.2.2.2 (J.1 5 - 1).toNat 0).toNat 0 = 6 ∧ 0 ≤ (J.2.2.2 (J.1 5 - 1).toNat 2) / 8 ∧ (J.2.2.2 (J.1 5 - 1).toNat 2) / 8 < 16 ∧ 0 ≤ (J.2.2.2 (J.1 5 - 1).toNat 2) % 8 ∧ (J.2.2.2 (J.1 5 - 1).toNat 2) % 8 ≤ F (J.2.2.2 (J.1 5 - 1).toNat 0).toNat 2 ∧ J.1 5 - 1 ≤ 5000 from (by omega))) ?_
  rintro _ m129 ⟨x129, rfl, hx129, hm129⟩ ok129 le129
  refine V_reti (pc := 132) dX6_goBack_132 trivial ?_
  first
    | (exfalso; omega)
    | (rw [show goBkA F J = gb2 F (popO J) (J.2.2.2 (J.1 5 - 1).toNat 2) from rfl, gb2_6 (J := popO J) (show F (J.2.2.2 (J.1 5 - 1).toNat 0).toNat 0 = 6 by omega)]
       exact ⟨hx129, hm129⟩)
