/-! the class searches: frames, options -/
set_option maxHeartbeats 8000000 in
theorem L_pf {F0 : Nat} {m0 : Mem} {PP : Mem → Prop} {b m : Mem} {P Q L c : Nat} {F : Tb} {n may : Int} {hcn : Nat → CEnv → Int} {cl : Nat → Int} {J : SJ} {A B LA LB : Nat} {far st : Int} (hS : SB b P Q L F c n may hcn cl) (h : CZa b m F J A B LA LB) (h3 : 0 ≤ J.1 3 ∧ J.1 3 ≤ 5006) (hst : st = stC F (J.1 7) far) (hl : 4 * J.1 3 + 4 ≤ (LA : Int)) (kx : ∀ m', CZ b m' F (pushF F J far) → PP m') : V μX6_pushFrame F0 m0 (rv PP) 36 [(2, vi ((J.1 3) * 4)), (0, vr 9), (1, vi st)] [] m := by
  have hL := CZ.lay hS ⟨A, B, LA, LB, h⟩
  have hla : LA ≤ 65536 ∧ LB ≤ 65536 := ⟨h.1.1.2.2.2.2.1, h.1.2.1.2.2.2.2.1⟩
  have hAB : A ≠ B ∧ 10 < A ∧ 10 < B := ⟨h.1.2.2.1, h.1.1.2.2.2.2.2.1, h.1.2.1.2.2.2.2.2.1⟩
  refine V_ld (pc := 36) dX6_pushFrame_36 (v := vi ((J.1 3) * 4)) rfl rfl ?_
  refine V_if_lt (pc := 37) dX6_pushFrame_37 (tgt := 114) rfl (fun h37 => ?_) (fun h37 => ?_)
  · skip
    refine V_retv (pc := 114) dX6_pushFrame_114 trivial ?_
    first
      | (exfalso; omega)
      | exact kx _ (CZa.pF h h3.1 hst hl)
  · skip
    refine V_ld (pc := 40) dX6_pushFrame_40 (v := vi ((J.1 3) * 4)) rfl rfl ?_
    refine V_iconst (pc := 41) dX6_pushFrame_41 (by unfold I32; omega) ?_
    refine V_iadd (pc := 42) dX6_pushFrame_42 (by unfold I32 at *; omega) ?_
    refine V_ld (pc := 43) dX6_pushFrame_43 (v := vr 9) rfl rfl ?_
    refine V_getRv (pc := 44) dX6_pushFrame_44 (o' := A) fw_RX6_15 rfl hL.t9 h.1.1.1 ?_
    refine V_alen (pc := 47) dX6_pushFrame_47 h.1.1.2.1 (by decide) (by omega) ?_
    refine V_icmp_gt (pc := 48) dX6_pushFrame_48 (tgt := 114) rfl (fun h48 => ?_) (fun h48 => ?_)
    · skip
      refine V_retv (pc := 114) dX6_pushFrame_114 trivial ?_
      first
        | (exfalso; omega)
        | exact kx _ (CZa.pF h h3.1 hst hl)
    · skip
      refine V_ld (pc := 51) dX6_pushFrame_51 (v := vr 9) rfl rfl ?_
      refine V_getRv (pc := 52) dX6_pushFrame_52 (o' := A) fw_RX6_15 rfl hL.t9 h.1.1.1 ?_
      refine V_ld (pc := 55) dX6_pushFrame_55 (v := vi ((J.1 3) * 4)) rfl rfl ?_
      refine V_iconst (pc := 56) dX6_pushFrame_56 (by unfold I32; omega) ?_
      refine V_iadd (pc := 57) dX6_pushFrame_57 (by unfold I32 at *; omega) ?_
      refine V_ld (pc := 58) dX6_pushFrame_58 (v := vr 9) rfl rfl ?_
      refine V_getIv (pc := 59) dX6_pushFrame_59 (v := (J.1 7)) fw_RX6_76 rfl hL.t9 (h.2.2.1 7 (by decide) (by decide) (by decide)) (fun g59 => ?_)
      refine V_iast (pc := 62) dX6_pushFrame_62 h.1.1.2.1 (by omega) ?_
      refine V_ld (pc := 63) dX6_pushFrame_63 (v := vr 9) rfl rfl ?_
      refine V_getRv (pc := 64) dX6_pushFrame_64 (o' := A) fw_RX6_15 rfl hL.t9 h.1.1.1 ?_
      refine V_ld (pc := 67) dX6_pushFrame_67 (v := vi ((J.1 3) * 4)) rfl rfl ?_
      refine V_iconst (pc := 68) dX6_pushFrame_68 (by unfold I32; omega) ?_
      refine V_iadd (pc := 69) dX6_pushFrame_69 (by unfold I32 at *; omega) ?_
      refine V_ld (pc := 70) dX6_pushFrame_70 (v := vr 9) rfl rfl ?_
      refine V_getIv (pc := 71) dX6_pushFrame_71 (v := (J.1 8)) fw_RX6_55 rfl hL.t9 (by first | exact (h.2.2.1 8 (by decide) (by decide) (by decide)) | (simp only [mI_setI, up2]; repeat (first | exact (h.2.2.1 8 (by decide) (by decide) (by decide)) | rw [if_neg (by omega)]))) (fun g71 => ?_)
      refine V_iast (pc := 74) dX6_pushFrame_74 h.1.1.2.1 (by omega) ?_
      refine V_ld (pc := 75) dX6_pushFrame_75 (v := vr 9) rfl rfl ?_
      refine V_getRv (pc := 76) dX6_pushFrame_76 (o' := A) fw_RX6_15 rfl hL.t9 h.1.1.1 ?_
      refine V_ld (pc := 79) dX6_pushFrame_79 (v := vi ((J.1 3) * 4)) rfl rfl ?_
      refine V_iconst (pc := 80) dX6_pushFrame_80 (by unfold I32; omega) ?_
      refine V_iadd (pc := 81) dX6_pushFrame_81 (by unfold I32 at *; omega) ?_
      refine V_ld (pc := 82) dX6_pushFrame_82 (v := vi st) rfl rfl ?_
      refine V_iast (pc := 83) dX6_pushFrame_83 h.1.1.2.1 (by omega) ?_
      refine V_ld (pc := 84) dX6_pushFrame_84 (v := vr 9) rfl rfl ?_
      refine V_getRv (pc := 85) dX6_pushFrame_85 (o' := A) fw_RX6_15 rfl hL.t9 h.1.1.1 ?_
      refine V_ld (pc := 88) dX6_pushFrame_88 (v := vi ((J.1 3) * 4)) rfl rfl ?_
      refine V_iconst (pc := 89) dX6_pushFrame_89 (by unfold I32; omega) ?_
      refine V_iadd (pc := 90) dX6_pushFrame_90 (by unfold I32 at *; omega) ?_
      refine V_ld (pc := 91) dX6_pushFrame_91 (v := vr 9) rfl rfl ?_
      refine V_getIv (pc := 92) dX6_pushFrame_92 (v := (J.1 9)) fw_RX6_64 rfl hL.t9 (by first | exact (h.2.2.1 9 (by decide) (by decide) (by decide)) | (simp only [mI_setI, up2]; repeat (first | exact (h.2.2.1 9 (by decide) (by decide) (by decide)) | rw [if_neg (by omega)]))) (fun g92 => ?_)
      refine V_iast (pc := 95) dX6_pushFrame_95 h.1.1.2.1 (by omega) ?_
      refine V_ld (pc := 96) dX6_pushFrame_96 (v := vr 9) rfl rfl ?_
      refine V_ld (pc := 97) dX6_pushFrame_97 (v := vr 9) rfl rfl ?_
      refine V_getIv (pc := 98) dX6_pushFrame_98 (v := (J.1 3)) fw_RX6_79 rfl hL.t9 (by first | exact (h.2.2.1 3 (by decide) (by decide) (by decide)) | (simp only [mI_setI, up2]; repeat (first | exact (h.2.2.1 3 (by decide) (by decide) (by decide)) | rw [if_neg (by omega)]))) (fun g98 => ?_)
      refine V_putI (pc := 101) dX6_pushFrame_101 fw_RX6_55 rfl hL.t9 (Or.inl rfl) (Or.inl rfl) ?_
      refine V_ld (pc := 104) dX6_pushFrame_104 (v := vr 9) rfl rfl ?_
      refine V_dup (pc := 105) dX6_pushFrame_105 rfl ?_
      refine V_getIv (pc := 106) dX6_pushFrame_106 (v := (J.1 3)) fw_RX6_79 rfl hL.t9 (by first | exact (h.2.2.1 3 (by decide) (by decide) (by decide)) | (simp only [mI_setI, up2]; repeat (first | exact (h.2.2.1 3 (by decide) (by decide) (by decide)) | rw [if_neg (by omega)]))) (fun g106 => ?_)
      refine V_iconst (pc := 109) dX6_pushFrame_109 (by unfold I32; omega) ?_
      refine V_iadd (pc := 110) dX6_pushFrame_110 (by unfold I32 at *; omega) ?_
      refine V_putI (pc := 111) dX6_pushFrame_111 fw_RX6_79 rfl hL.t9 (Or.inl rfl) (Or.inl rfl) ?_
      refine V_retv (pc := 114) dX6_pushFrame_114 trivial ?_
      first
        | (exfalso; omega)
        | exact kx _ (CZa.pF h h3.1 hst hl)

set_option maxHeartbeats 8000000 in
theorem L_po {F0 : Nat} {m0 : Mem} {PP : Mem → Prop} {b m : Mem} {P Q L c : Nat} {F : Tb} {n may : Int} {hcn : Nat → CEnv → Int} {cl : Nat → Int} {J : SJ} {A B LA LB : Nat} {far st : Int} (hS : SB b P Q L F c n may hcn cl) (h : CZa b m F J A B LA LB) (h3 : 0 ≤ J.1 5 ∧ J.1 5 ≤ 5001) (hst : st = lfC F (J.1 7) far) (hl : 5 * J.1 5 + 5 ≤ (LB : Int)) (kx : ∀ m', CZ b m' F (pushO J far) → PP m') : V μX6_pushOption F0 m0 (rv PP) 36 [(2, vi ((J.1 5) * 5)), (0, vr 9), (1, vi st)] [] m := by
  have hL := CZ.lay hS ⟨A, B, LA, LB, h⟩
  have hla : LA ≤ 65536 ∧ LB ≤ 65536 := ⟨h.1.1.2.2.2.2.1, h.1.2.1.2.2.2.2.1⟩
  have hAB : A ≠ B ∧ 10 < A ∧ 10 < B := ⟨h.1.2.2.1, h.1.1.2.2.2.2.2.1, h.1.2.1.2.2.2.2.2.1⟩
  refine V_ld (pc := 36) dX6_pushOption_36 (v := vi ((J.1 5) * 5)) rfl rfl ?_
  refine V_if_lt (pc := 37) dX6_pushOption_37 (tgt := 118) rfl (fun h37 => ?_) (fun h37 => ?_)
  · skip
    refine V_retv (pc := 118) dX6_pushOption_118 trivial ?_
    first
      | (exfalso; omega)
      | exact kx _ (CZa.pO h h3.1 hst hl)
  · skip
    refine V_ld (pc := 40) dX6_pushOption_40 (v := vi ((J.1 5) * 5)) rfl rfl ?_
    refine V_iconst (pc := 41) dX6_pushOption_41 (by unfold I32; omega) ?_
    refine V_iadd (pc := 42) dX6_pushOption_42 (by unfold I32 at *; omega) ?_
    refine V_ld (pc := 43) dX6_pushOption_43 (v := vr 9) rfl rfl ?_
    refine V_getRv (pc := 44) dX6_pushOption_44 (o' := B) fw_RX6_18 rfl hL.t9 h.1.2.1.1 ?_
    refine V_alen (pc := 47) dX6_pushOption_47 h.1.2.1.2.1 (by decide) (by omega) ?_
    refine V_icmp_gt (pc := 48) dX6_pushOption_48 (tgt := 118) rfl (fun h48 => ?_) (fun h48 => ?_)
    · skip
      refine V_retv (pc := 118) dX6_pushOption_118 trivial ?_
      first
        | (exfalso; omega)
        | exact kx _ (CZa.pO h h3.1 hst hl)
    · skip
      refine V_ld (pc := 51) dX6_pushOption_51 (v := vr 9) rfl rfl ?_
      refine V_getRv (pc := 52) dX6_pushOption_52 (o' := B) fw_RX6_18 rfl hL.t9 h.1.2.1.1 ?_
      refine V_ld (pc := 55) dX6_pushOption_55 (v := vi ((J.1 5) * 5)) rfl rfl ?_
      refine V_iconst (pc := 56) dX6_pushOption_56 (by unfold I32; omega) ?_
      refine V_iadd (pc := 57) dX6_pushOption_57 (by unfold I32 at *; omega) ?_
      refine V_ld (pc := 58) dX6_pushOption_58 (v := vr 9) rfl rfl ?_
      refine V_getIv (pc := 59) dX6_pushOption_59 (v := (J.1 7)) fw_RX6_76 rfl hL.t9 (h.2.2.1 7 (by decide) (by decide) (by decide)) (fun g59 => ?_)
      refine V_iast (pc := 62) dX6_pushOption_62 h.1.2.1.2.1 (by omega) ?_
      refine V_ld (pc := 63) dX6_pushOption_63 (v := vr 9) rfl rfl ?_
      refine V_getRv (pc := 64) dX6_pushOption_64 (o' := B) fw_RX6_18 rfl hL.t9 h.1.2.1.1 ?_
      refine V_ld (pc := 67) dX6_pushOption_67 (v := vi ((J.1 5) * 5)) rfl rfl ?_
      refine V_iconst (pc := 68) dX6_pushOption_68 (by unfold I32; omega) ?_
      refine V_iadd (pc := 69) dX6_pushOption_69 (by unfold I32 at *; omega) ?_
      refine V_ld (pc := 70) dX6_pushOption_70 (v := vr 9) rfl rfl ?_
      refine V_getIv (pc := 71) dX6_pushOption_71 (v := (J.1 8)) fw_RX6_55 rfl hL.t9 (by first | exact (h.2.2.1 8 (by decide) (by decide) (by decide)) | (simp only [mI_setI, up2]; repeat (first | exact (h.2.2.1 8 (by decide) (by decide) (by decide)) | rw [if_neg (by omega)]))) (fun g71 => ?_)
      refine V_iast (pc := 74) dX6_pushOption_74 h.1.2.1.2.1 (by omega) ?_
      refine V_ld (pc := 75) dX6_pushOption_75 (v := vr 9) rfl rfl ?_
      refine V_getRv (pc := 76) dX6_pushOption_76 (o' := B) fw_RX6_18 rfl hL.t9 h.1.2.1.1 ?_
      refine V_ld (pc := 79) dX6_pushOption_79 (v := vi ((J.1 5) * 5)) rfl rfl ?_
      refine V_iconst (pc := 80) dX6_pushOption_80 (by unfold I32; omega) ?_
      refine V_iadd (pc := 81) dX6_pushOption_81 (by unfold I32 at *; omega) ?_
      refine V_ld (pc := 82) dX6_pushOption_82 (v := vi st) rfl rfl ?_
      refine V_iast (pc := 83) dX6_pushOption_83 h.1.2.1.2.1 (by omega) ?_
      refine V_ld (pc := 84) dX6_pushOption_84 (v := vr 9) rfl rfl ?_
      refine V_getRv (pc := 85) dX6_pushOption_85 (o' := B) fw_RX6_18 rfl hL.t9 h.1.2.1.1 ?_
      refine V_ld (pc := 88) dX6_pushOption_88 (v := vi ((J.1 5) * 5)) rfl rfl ?_
      refine V_iconst (pc := 89) dX6_pushOption_89 (by unfold I32; omega) ?_
      refine V_iadd (pc := 90) dX6_pushOption_90 (by unfold I32 at *; omega) ?_
      refine V_ld (pc := 91) dX6_pushOption_91 (v := vr 9) rfl rfl ?_
      refine V_getIv (pc := 92) dX6_pushOption_92 (v := (J.1 9)) fw_RX6_64 rfl hL.t9 (by first | exact (h.2.2.1 9 (by decide) (by decide) (by decide)) | (simp only [mI_setI, up2]; repeat (first | exact (h.2.2.1 9 (by decide) (by decide) (by decide)) | rw [if_neg (by omega)]))) (fun g92 => ?_)
      refine V_iast (pc := 95) dX6_pushOption_95 h.1.2.1.2.1 (by omega) ?_
      refine V_ld (pc := 96) dX6_pushOption_96 (v := vr 9) rfl rfl ?_
      refine V_getRv (pc := 97) dX6_pushOption_97 (o' := B) fw_RX6_18 rfl hL.t9 h.1.2.1.1 ?_
      refine V_ld (pc := 100) dX6_pushOption_100 (v := vi ((J.1 5) * 5)) rfl rfl ?_
      refine V_iconst (pc := 101) dX6_pushOption_101 (by unfold I32; omega) ?_
      refine V_iadd (pc := 102) dX6_pushOption_102 (by unfold I32 at *; omega) ?_
      refine V_ld (pc := 103) dX6_pushOption_103 (v := vr 9) rfl rfl ?_
      refine V_getIv (pc := 104) dX6_pushOption_104 (v := (J.1 3)) fw_RX6_79 rfl hL.t9 (by first | exact (h.2.2.1 3 (by decide) (by decide) (by decide)) | (simp only [mI_setI, up2]; repeat (first | exact (h.2.2.1 3 (by decide) (by decide) (by decide)) | rw [if_neg (by omega)]))) (fun g104 => ?_)
      refine V_iast (pc := 107) dX6_pushOption_107 h.1.2.1.2.1 (by omega) ?_
      refine V_ld (pc := 108) dX6_pushOption_108 (v := vr 9) rfl rfl ?_
      refine V_dup (pc := 109) dX6_pushOption_109 rfl ?_
      refine V_getIv (pc := 110) dX6_pushOption_110 (v := (J.1 5)) fw_RX6_67 rfl hL.t9 (by first | exact (h.2.2.1 5 (by decide) (by decide) (by decide)) | (simp only [mI_setI, up2]; repeat (first | exact (h.2.2.1 5 (by decide) (by decide) (by decide)) | rw [if_neg (by omega)]))) (fun g110 => ?_)
      refine V_iconst (pc := 113) dX6_pushOption_113 (by unfold I32; omega) ?_
      refine V_iadd (pc := 114) dX6_pushOption_114 (by unfold I32 at *; omega) ?_
      refine V_putI (pc := 115) dX6_pushOption_115 fw_RX6_67 rfl hL.t9 (Or.inl rfl) (Or.inl rfl) ?_
      refine V_retv (pc := 118) dX6_pushOption_118 trivial ?_
      first
        | (exfalso; omega)
        | exact kx _ (CZa.pO h h3.1 hst hl)

set_option maxHeartbeats 4000000 in
theorem z_pushFrame (b : Mem) (P : Nat) (Q : Nat) (L : Nat) (F : Tb) (c : Nat) (n : Int) (may : Int) (hcn : Nat → CEnv → Int) (cl : Nat → Int) (J : SJ) (far : Int) (m : Mem) (st : Int)   (hS : SB b P Q L F c n may hcn cl) (hZ : CZ b m F J) (h3 : 0 ≤ J.1 3 ∧ J.1 3 ≤ 5006) (hst : st = stC F (J.1 7) far) : Ct μX6_pushFrame 2 [vr 9, vi st] m (rv fun m' => CZ b m' F (pushF F J far)) := by
  refine Ct_of_V rfl (by decide) rfl (Nat.le_of_ble_eq_true rfl) ?_
  show V μX6_pushFrame 2 m _ 0 [(0, vr 9), (1, vi st)] [] m
  refine V_rg (k := 1) (x := st) rfl fun r_st => ?_
  have hL := CZ.lay hS hZ
  obtain ⟨A, B, LA, LB, h⟩ := hZ
  have hZ : CZ b m F J := ⟨A, B, LA, LB, h⟩
  have hla : LA ≤ 65536 ∧ LB ≤ 65536 ∧ 256 ≤ LA ∧ 256 ≤ LB := ⟨h.1.1.2.2.2.2.1, h.1.2.1.2.2.2.2.1, h.1.1.2.2.2.1, h.1.2.1.2.2.2.1⟩
  have hro := hS.1.2.2
  have h59 := hS.1.2.1
  have hbm := h.2.1.1
  have hab : A < mN m ∧ B < mN m := ⟨h.1.1.2.2.1, h.1.2.1.2.2.1⟩
  have hr1 := h.1.2.2.2.1
  have hr2 := h.1.2.2.2.2
  have hlen := h.2.2.2.2.2.2
  refine V_ld (pc := 0) dX6_pushFrame_0 (v := vr 9) rfl rfl ?_
  refine V_getIv (pc := 1) dX6_pushFrame_1 (v := (J.1 3)) fw_RX6_79 rfl (hL.t9) (CZ.s hZ (k := 3) (by decide)) (fun g1 => ?_)
  refine V_iconst (pc := 4) dX6_pushFrame_4 (by unfold I32; omega) ?_
  refine V_imul (pc := 5) dX6_pushFrame_5 (by unfold I32 at *; omega) ?_
  refine V_st (pc := 6) dX6_pushFrame_6 (ls' := [(2, vi ((J.1 3) * 4)), (0, vr 9), (1, vi st)]) rfl (Nat.le_of_ble_eq_true rfl) rfl ?_
  refine V_ld (pc := 7) dX6_pushFrame_7 (v := vi ((J.1 3) * 4)) rfl rfl ?_
  refine V_iconst (pc := 8) dX6_pushFrame_8 (by unfold I32; omega) ?_
  refine V_iadd (pc := 9) dX6_pushFrame_9 (by unfold I32 at *; omega) ?_
  refine V_ld (pc := 10) dX6_pushFrame_10 (v := vr 9) rfl rfl ?_
  refine V_getRv (pc := 11) dX6_pushFrame_11 (o' := A) fw_RX6_15 rfl (hL.t9) h.1.1.1 ?_
  refine V_alen (pc := 14) dX6_pushFrame_14 h.1.1.2.1 (by decide) (by omega) ?_
  refine V_icmp_le (pc := 15) dX6_pushFrame_15 (tgt := 36) rfl (fun h15 => ?_) (fun h15 => ?_)
  · skip
    skip
    exact L_pf hS (h) h3 hst (by omega) (fun _ h_ => h_)
  · skip
    refine V_ld (pc := 18) dX6_pushFrame_18 (v := vr 9) rfl rfl ?_
    refine V_ld (pc := 19) dX6_pushFrame_19 (v := vr 9) rfl rfl ?_
    refine V_getRv (pc := 20) dX6_pushFrame_20 (o' := A) fw_RX6_15 rfl (hL.t9) h.1.1.1 ?_
    refine V_iconst (pc := 23) dX6_pushFrame_23 (by unfold I32; omega) ?_
    refine V_ld (pc := 24) dX6_pushFrame_24 (v := vr 9) rfl rfl ?_
    refine V_getRv (pc := 25) dX6_pushFrame_25 (o' := A) fw_RX6_15 rfl (hL.t9) h.1.1.1 ?_
    refine V_alen (pc := 28) dX6_pushFrame_28 h.1.1.2.1 (by decide) (by omega) ?_
    refine V_imul (pc := 29) dX6_pushFrame_29 (by unfold I32 at *; omega) ?_
    refine V_callS (pc := 30) dX6_pushFrame_30 (F' := 1) (As := [vr A, vi (2 * ((LA : Nat) : Int))]) (st := [vr 9]) cw_RX6_165 rfl rfl (Nat.le_of_ble_eq_true rfl) (by omega) (j_copyG LA (2 * LA) m A (2 * ((LA : Nat) : Int))   h.1.1.2.1 (by refine ⟨by omega, by omega, by omega, by omega, by omega, ?_, ?_⟩ <;> omega)) ?_
    rintro _ _ ⟨x30, rfl, rfl, rfl⟩ ok30 le30
    refine V_putR (pc := 33) dX6_pushFrame_33 fw_RX6_15 rfl ((mT_newne (M := m) (c := 20) (n := 2 * LA) (o := 9) (mN m) rfl (by omega)).trans (hL.t9)) (Or.inl rfl) (fun o_ h_ => by cases h_; unfold SC; unfold NN at *; omega) ?_
    skip
    exact L_pf hS ((CZa.grA hS h (by omega))) h3 hst (by omega) (fun _ h_ => h_)

set_option maxHeartbeats 4000000 in
theorem z_pushOption (b : Mem) (P : Nat) (Q : Nat) (L : Nat) (F : Tb) (c : Nat) (n : Int) (may : Int) (hcn : Nat → CEnv → Int) (cl : Nat → Int) (J : SJ) (far : Int) (m : Mem) (st : Int)   (hS : SB b P Q L F c n may hcn cl) (hZ : CZ b m F J) (h3 : 0 ≤ J.1 5 ∧ J.1 5 ≤ 5001) (hst : st = lfC F (J.1 7) far) : Ct μX6_pushOption 2 [vr 9, vi st] m (rv fun m' => CZ b m' F (pushO J far)) := by
  refine Ct_of_V rfl (by decide) rfl (Nat.le_of_ble_eq_true rfl) ?_
  show V μX6_pushOption 2 m _ 0 [(0, vr 9), (1, vi st)] [] m
  refine V_rg (k := 1) (x := st) rfl fun r_st => ?_
  have hL := CZ.lay hS hZ
  obtain ⟨A, B, LA, LB, h⟩ := hZ
  have hZ : CZ b m F J := ⟨A, B, LA, LB, h⟩
  have hla : LA ≤ 65536 ∧ LB ≤ 65536 ∧ 256 ≤ LA ∧ 256 ≤ LB := ⟨h.1.1.2.2.2.2.1, h.1.2.1.2.2.2.2.1, h.1.1.2.2.2.1, h.1.2.1.2.2.2.1⟩
  have hro := hS.1.2.2
  have h59 := hS.1.2.1
  have hbm := h.2.1.1
  have hab : A < mN m ∧ B < mN m := ⟨h.1.1.2.2.1, h.1.2.1.2.2.1⟩
  have hr1 := h.1.2.2.2.1
  have hr2 := h.1.2.2.2.2
  have hlen := h.2.2.2.2.2.2
  refine V_ld (pc := 0) dX6_pushOption_0 (v := vr 9) rfl rfl ?_
  refine V_getIv (pc := 1) dX6_pushOption_1 (v := (J.1 5)) fw_RX6_67 rfl (hL.t9) (CZ.s hZ (k := 5) (by decide)) (fun g1 => ?_)
  refine V_iconst (pc := 4) dX6_pushOption_4 (by unfold I32; omega) ?_
  refine V_imul (pc := 5) dX6_pushOption_5 (by unfold I32 at *; omega) ?_
  refine V_st (pc := 6) dX6_pushOption_6 (ls' := [(2, vi ((J.1 5) * 5)), (0, vr 9), (1, vi st)]) rfl (Nat.le_of_ble_eq_true rfl) rfl ?_
  refine V_ld (pc := 7) dX6_pushOption_7 (v := vi ((J.1 5) * 5)) rfl rfl ?_
  refine V_iconst (pc := 8) dX6_pushOption_8 (by unfold I32; omega) ?_
  refine V_iadd (pc := 9) dX6_pushOption_9 (by unfold I32 at *; omega) ?_
  refine V_ld (pc := 10) dX6_pushOption_10 (v := vr 9) rfl rfl ?_
  refine V_getRv (pc := 11) dX6_pushOption_11 (o' := B) fw_RX6_18 rfl (hL.t9) h.1.2.1.1 ?_
  refine V_alen (pc := 14) dX6_pushOption_14 h.1.2.1.2.1 (by decide) (by omega) ?_
  refine V_icmp_le (pc := 15) dX6_pushOption_15 (tgt := 36) rfl (fun h15 => ?_) (fun h15 => ?_)
  · skip
    skip
    exact L_po hS (h) h3 hst (by omega) (fun _ h_ => h_)
  · skip
    refine V_ld (pc := 18) dX6_pushOption_18 (v := vr 9) rfl rfl ?_
    refine V_ld (pc := 19) dX6_pushOption_19 (v := vr 9) rfl rfl ?_
    refine V_getRv (pc := 20) dX6_pushOption_20 (o' := B) fw_RX6_18 rfl (hL.t9) h.1.2.1.1 ?_
    refine V_iconst (pc := 23) dX6_pushOption_23 (by unfold I32; omega) ?_
    refine V_ld (pc := 24) dX6_pushOption_24 (v := vr 9) rfl rfl ?_
    refine V_getRv (pc := 25) dX6_pushOption_25 (o' := B) fw_RX6_18 rfl (hL.t9) h.1.2.1.1 ?_
    refine V_alen (pc := 28) dX6_pushOption_28 h.1.2.1.2.1 (by decide) (by omega) ?_
    refine V_imul (pc := 29) dX6_pushOption_29 (by unfold I32 at *; omega) ?_
    refine V_callS (pc := 30) dX6_pushOption_30 (F' := 1) (As := [vr B, vi (2 * ((LB : Nat) : Int))]) (st := [vr 9]) cw_RX6_165 rfl rfl (Nat.le_of_ble_eq_true rfl) (by omega) (j_copyG LB (2 * LB) m B (2 * ((LB : Nat) : Int))   h.1.2.1.2.1 (by refine ⟨by omega, by omega, by omega, by omega, by omega, ?_, ?_⟩ <;> omega)) ?_
    rintro _ _ ⟨x30, rfl, rfl, rfl⟩ ok30 le30
    refine V_putR (pc := 33) dX6_pushOption_33 fw_RX6_18 rfl ((mT_newne (M := m) (c := 20) (n := 2 * LB) (o := 9) (mN m) rfl (by omega)).trans (hL.t9)) (Or.inl rfl) (fun o_ h_ => by cases h_; unfold SC; unfold NN at *; omega) ?_
    skip
    exact L_po hS ((CZa.grB hS h (by omega))) h3 hst (by omega) (fun _ h_ => h_)

def frC (F : Tb) (J : SJ) (u w : Nat) : Int := if w = 2 then stC F (J.2.2.1 u 0) (J.2.2.1 u 2) else J.2.2.1 u w
theorem FrA.rd {F : Tb} {m : Mem} {J : SJ} {A : Nat} (h : FrA F m J A) {u w : Int} {k : Nat} (hu : 0 ≤ u ∧ u < J.1 3) (hw : w = (k : Int)) (hk : k < 4) : mI m A (u * 4 + w).toNat = frC F J u.toNat k := by
  have a := h u.toNat (by omega)
  subst hw
  match k, hk with
  | 0, _ => rw [show (u * 4 + ((0 : Nat) : Int)).toNat = 4 * u.toNat from by omega]; exact a.1
  | 1, _ => rw [show (u * 4 + ((1 : Nat) : Int)).toNat = 4 * u.toNat + 1 from by omega]; exact a.2.1
  | 2, _ => rw [show (u * 4 + ((2 : Nat) : Int)).toNat = 4 * u.toNat + 2 from by omega]; exact a.2.2.1
  | 3, _ => rw [show (u * 4 + ((3 : Nat) : Int)).toNat = 4 * u.toNat + 3 from by omega]; exact a.2.2.2

set_option maxHeartbeats 4000000 in
theorem z_frameFact (b : Mem) (P : Nat) (Q : Nat) (L : Nat) (F : Tb) (c : Nat) (n : Int) (may : Int) (hcn : Nat → CEnv → Int) (cl : Nat → Int) (J : SJ) (k : Nat) (m : Mem) (u : Int) (w : Int)   (hS : SB b P Q L F c n may hcn cl) (hZ : CZ b m F J) (hu : 0 ≤ u ∧ u < J.1 3 ∧ J.1 3 ≤ 5006) (hw : w = (k : Int) ∧ k < 4) : Ct μX6_frameFact 0 [vr 9, vi u, vi w] m (ri fun x_ m' => (x_ = frC F J u.toNat k) ∧ m = m') := by
  refine Ct_of_V rfl (by decide) rfl (Nat.le_of_ble_eq_true rfl) ?_
  show V μX6_frameFact 0 m _ 0 [(0, vr 9), (1, vi u), (2, vi w)] [] m
  refine V_rg (k := 1) (x := u) rfl fun r_u => ?_
  refine V_rg (k := 2) (x := w) rfl fun r_w => ?_
  have hL := CZ.lay hS hZ
  obtain ⟨A, B, LA, LB, h⟩ := hZ
  have hZ : CZ b m F J := ⟨A, B, LA, LB, h⟩
  have hla : LA ≤ 65536 := h.1.1.2.2.2.2.1
  have hlen := h.2.2.2.2.2.2
  have hr := FrA.rd h.2.2.2.2.1 ⟨hu.1, hu.2.1⟩ hw.1 hw.2
  refine V_ld (pc := 0) dX6_frameFact_0 (v := vi u) rfl rfl ?_
  refine V_iconst (pc := 1) dX6_frameFact_1 (by unfold I32; omega) ?_
  refine V_imul (pc := 2) dX6_frameFact_2 (by unfold I32 at *; omega) ?_
  refine V_ld (pc := 3) dX6_frameFact_3 (v := vi w) rfl rfl ?_
  refine V_iadd (pc := 4) dX6_frameFact_4 (by unfold I32 at *; omega) ?_
  refine V_st (pc := 5) dX6_frameFact_5 (ls' := [(3, vi ((u * 4) + w)), (0, vr 9), (1, vi u), (2, vi w)]) rfl (Nat.le_of_ble_eq_true rfl) rfl ?_
  refine V_ld (pc := 6) dX6_frameFact_6 (v := vi u) rfl rfl ?_
  refine V_if_lt (pc := 7) dX6_frameFact_7 (tgt := 23) rfl (fun h7 => ?_) (fun h7 => ?_)
  · skip
    refine V_iconst (pc := 23) dX6_frameFact_23 (by unfold I32; omega) ?_
    refine V_goto (pc := 24) dX6_frameFact_24 (tgt := 33) rfl ?_
    refine V_reti (pc := 33) dX6_frameFact_33 trivial ?_
    first | (exfalso; omega) | exact ⟨hr, rfl⟩
  · skip
    refine V_ld (pc := 10) dX6_frameFact_10 (v := vi ((u * 4) + w)) rfl rfl ?_
    refine V_if_lt (pc := 11) dX6_frameFact_11 (tgt := 23) rfl (fun h11 => ?_) (fun h11 => ?_)
    · skip
      refine V_iconst (pc := 23) dX6_frameFact_23 (by unfold I32; omega) ?_
      refine V_goto (pc := 24) dX6_frameFact_24 (tgt := 33) rfl ?_
      refine V_reti (pc := 33) dX6_frameFact_33 trivial ?_
      first | (exfalso; omega) | exact ⟨hr, rfl⟩
    · skip
      refine V_ld (pc := 14) dX6_frameFact_14 (v := vi ((u * 4) + w)) rfl rfl ?_
      refine V_ld (pc := 15) dX6_frameFact_15 (v := vr 9) rfl rfl ?_
      refine V_getRv (pc := 16) dX6_frameFact_16 (o' := A) fw_RX6_15 rfl (hL.t9) h.1.1.1 ?_
      refine V_alen (pc := 19) dX6_frameFact_19 h.1.1.2.1 (by decide) (by omega) ?_
      refine V_icmp_lt (pc := 20) dX6_frameFact_20 (tgt := 27) rfl (fun h20 => ?_) (fun h20 => ?_)
      · skip
        refine V_ld (pc := 27) dX6_frameFact_27 (v := vr 9) rfl rfl ?_
        refine V_getRv (pc := 28) dX6_frameFact_28 (o' := A) fw_RX6_15 rfl (hL.t9) h.1.1.1 ?_
        refine V_ld (pc := 31) dX6_frameFact_31 (v := vi ((u * 4) + w)) rfl rfl ?_
        refine V_ialdv (pc := 32) dX6_frameFact_32 (v := mI m A (((u * 4) + w).toNat)) h.1.1.2.1 (by omega) rfl (fun g32 => ?_)
        refine V_reti (pc := 33) dX6_frameFact_33 trivial ?_
        first | (exfalso; omega) | exact ⟨hr, rfl⟩
      · skip
        refine V_iconst (pc := 23) dX6_frameFact_23 (by unfold I32; omega) ?_
        refine V_goto (pc := 24) dX6_frameFact_24 (tgt := 33) rfl ?_
        refine V_reti (pc := 33) dX6_frameFact_33 trivial ?_
        first | (exfalso; omega) | exact ⟨hr, rfl⟩

set_option maxHeartbeats 4000000 in
theorem z_optionFact (B : Nat) (LB : Nat) (j : Int) (m : Mem) (w : Int)   (T_9 : mT m 9 = (6, 14)) (hRB : mR m 9 4 = some B) (hTB : mT m B = (20, LB)) (hj : mI m 9 5 = j ∧ 0 ≤ j ∧ j ≤ 5001 ∧ 5 * j + 5 ≤ (LB : Int) ∧ LB ≤ 65536) (hw : 0 ≤ w ∧ w < 5) : Ct μX6_optionFact 0 [vr 9, vi w] m (ri fun x_ m' => (x_ = mI m B ((j * 5 + w).toNat)) ∧ m = m') := by
  refine Ct_of_V rfl (by decide) rfl (Nat.le_of_ble_eq_true rfl) ?_
  show V μX6_optionFact 0 m _ 0 [(0, vr 9), (1, vi w)] [] m
  refine V_rg (k := 1) (x := w) rfl fun r_w => ?_
  refine V_ld (pc := 0) dX6_optionFact_0 (v := vr 9) rfl rfl ?_
  refine V_getIv (pc := 1) dX6_optionFact_1 (v := j) fw_RX6_67 rfl T_9 hj.1 (fun g1 => ?_)
  refine V_iconst (pc := 4) dX6_optionFact_4 (by unfold I32; omega) ?_
  refine V_imul (pc := 5) dX6_optionFact_5 (by unfold I32 at *; omega) ?_
  refine V_ld (pc := 6) dX6_optionFact_6 (v := vi w) rfl rfl ?_
  refine V_iadd (pc := 7) dX6_optionFact_7 (by unfold I32 at *; omega) ?_
  refine V_st (pc := 8) dX6_optionFact_8 (ls' := [(2, vi ((j * 5) + w)), (0, vr 9), (1, vi w)]) rfl (Nat.le_of_ble_eq_true rfl) rfl ?_
  refine V_ld (pc := 9) dX6_optionFact_9 (v := vi ((j * 5) + w)) rfl rfl ?_
  refine V_if_lt (pc := 10) dX6_optionFact_10 (tgt := 22) rfl (fun h10 => ?_) (fun h10 => ?_)
  · skip
    refine V_iconst (pc := 22) dX6_optionFact_22 (by unfold I32; omega) ?_
    refine V_goto (pc := 23) dX6_optionFact_23 (tgt := 32) rfl ?_
    refine V_reti (pc := 32) dX6_optionFact_32 trivial ?_
    first | (exfalso; omega) | exact ⟨rfl, rfl⟩
  · skip
    refine V_ld (pc := 13) dX6_optionFact_13 (v := vi ((j * 5) + w)) rfl rfl ?_
    refine V_ld (pc := 14) dX6_optionFact_14 (v := vr 9) rfl rfl ?_
    refine V_getRv (pc := 15) dX6_optionFact_15 (o' := B) fw_RX6_18 rfl T_9 hRB ?_
    refine V_alen (pc := 18) dX6_optionFact_18 hTB (by decide) (by omega) ?_
    refine V_icmp_lt (pc := 19) dX6_optionFact_19 (tgt := 26) rfl (fun h19 => ?_) (fun h19 => ?_)
    · skip
      refine V_ld (pc := 26) dX6_optionFact_26 (v := vr 9) rfl rfl ?_
      refine V_getRv (pc := 27) dX6_optionFact_27 (o' := B) fw_RX6_18 rfl T_9 hRB ?_
      refine V_ld (pc := 30) dX6_optionFact_30 (v := vi ((j * 5) + w)) rfl rfl ?_
      refine V_ialdv (pc := 31) dX6_optionFact_31 (v := mI m B (((j * 5) + w).toNat)) hTB (by omega) rfl (fun g31 => ?_)
      refine V_reti (pc := 32) dX6_optionFact_32 trivial ?_
      first | (exfalso; omega) | exact ⟨rfl, rfl⟩
    · skip
      refine V_iconst (pc := 22) dX6_optionFact_22 (by unfold I32; omega) ?_
      refine V_goto (pc := 23) dX6_optionFact_23 (tgt := 32) rfl ?_
      refine V_reti (pc := 32) dX6_optionFact_32 trivial ?_
      first | (exfalso; omega) | exact ⟨rfl, rfl⟩

set_option maxHeartbeats 4000000 in
theorem z_mayTry (b : Mem) (P : Nat) (Q : Nat) (L : Nat) (F : Tb) (c : Nat) (n : Int) (may : Int) (hcn : Nat → CEnv → Int) (cl : Nat → Int) (J : SJ) (m : Mem)    (hS : SB b P Q L F c n may hcn cl) (hZ : CZ b m F J) (h10 : 0 ≤ J.1 10 ∧ J.1 10 ≤ 5000) : Ct μX6_mayTry 0 [vr 9] m (ri fun x_ m' => (x_ = if may < J.1 10 + 1 then 0 else 1) ∧ CZ b m' F (tryJ J)) := by
  refine Ct_of_V rfl (by decide) rfl (Nat.le_of_ble_eq_true rfl) ?_
  show V μX6_mayTry 0 m _ 0 [(0, vr 9)] [] m
  have hL := CZ.lay hS hZ
  refine V_ld (pc := 0) dX6_mayTry_0 (v := vr 9) rfl rfl ?_
  refine V_dup (pc := 1) dX6_mayTry_1 rfl ?_
  refine V_getIv (pc := 2) dX6_mayTry_2 (v := (J.1 10)) fw_RX6_82 rfl (hL.t9) (CZ.s hZ (k := 10) (by decide)) (fun g2 => ?_)
  refine V_iconst (pc := 5) dX6_mayTry_5 (by unfold I32; omega) ?_
  refine V_iadd (pc := 6) dX6_mayTry_6 (by unfold I32 at *; omega) ?_
  refine V_putI (pc := 7) dX6_mayTry_7 fw_RX6_82 rfl (hL.t9) (Or.inl rfl) (Or.inl rfl) ?_
  refine V_ld (pc := 10) dX6_mayTry_10 (v := vr 9) rfl rfl ?_
  refine V_getIv (pc := 11) dX6_mayTry_11 (v := (J.1 10) + 1) fw_RX6_82 rfl (hL.t9) (by first | rfl | (simp only [mI_setI, up2]; repeat (first | rfl | rw [if_neg (by omega)] | rw [if_pos (by omega)]))) (fun g11 => ?_)
  refine V_ld (pc := 14) dX6_mayTry_14 (v := vr 9) rfl rfl ?_
  refine V_getRv (pc := 15) dX6_mayTry_15 (o' := 1) fw_RX6_21 rfl (hL.t9) (hL.r9_0) ?_
  refine V_getIv (pc := 18) dX6_mayTry_18 (v := may) fw_RX6_103 rfl (hL.t1) (by first | exact (CZ.gm hS hZ) | (simp only [mI_setI, up2]; repeat (first | exact (CZ.gm hS hZ) | rw [if_neg (by omega)]))) (fun g18 => ?_)
  refine V_icmp_gt (pc := 21) dX6_mayTry_21 (tgt := 28) rfl (fun h21 => ?_) (fun h21 => ?_)
  · skip
    refine V_iconst (pc := 28) dX6_mayTry_28 (by unfold I32; omega) ?_
    refine V_reti (pc := 29) dX6_mayTry_29 (show _ = (0 : Int) ∨ _ = (1 : Int) from by first | exact Or.inl rfl | exact Or.inr rfl | omega) ?_
    refine ⟨by omega, ?_⟩
    exact CZ.set hZ (fun e_ => absurd e_ (by decide)) (fun e_ => absurd e_ (by decide))
  · skip
    refine V_iconst (pc := 24) dX6_mayTry_24 (by unfold I32; omega) ?_
    refine V_goto (pc := 25) dX6_mayTry_25 (tgt := 29) rfl ?_
    refine V_reti (pc := 29) dX6_mayTry_29 (show _ = (0 : Int) ∨ _ = (1 : Int) from by first | exact Or.inl rfl | exact Or.inr rfl | omega) ?_
    refine ⟨by omega, ?_⟩
    exact CZ.set hZ (fun e_ => absurd e_ (by decide)) (fun e_ => absurd e_ (by decide))

set_option maxHeartbeats 4000000 in
theorem L_znd {F0 : Nat} {m : Mem} {d r0 inn : Int} (hi : inn ≤ 100) : ∀ (f : Nat) (r : Int), r + (f : Int) = inn ∧ 0 ≤ r → ndF d inn f r = ndA d r0 inn → V μX6_notDone F0 m (ri fun x_ m' => (x_ = ndA d r0 inn) ∧ m = m') 2 [(3, vi r), (0, vi d), (1, vi r0), (2, vi inn)] [] m := by
  intro f
  induction f with
  | zero =>
    intro r hr hv
    have hv' : r = ndA d r0 inn := hv
    refine V_ld (pc := 2) dX6_notDone_2 (v := vi r) rfl rfl ?_
    refine V_ld (pc := 3) dX6_notDone_3 (v := vi inn) rfl rfl ?_
    refine V_icmp_ge (pc := 4) dX6_notDone_4 (tgt := 22) rfl (fun h4 => ?_) (fun h4 => ?_)
    · skip
      refine V_ld (pc := 22) dX6_notDone_22 (v := vi r) rfl rfl ?_
      refine V_reti (pc := 23) dX6_notDone_23 trivial ?_
      first | (exfalso; omega) | exact ⟨hv', rfl⟩
    · skip
      refine V_ld (pc := 7) dX6_notDone_7 (v := vi d) rfl rfl ?_
      refine V_ld (pc := 8) dX6_notDone_8 (v := vi r) rfl rfl ?_
      refine V_ishr (pc := 9) dX6_notDone_9 ?_
      refine V_iconst (pc := 10) dX6_notDone_10 (by unfold I32; omega) ?_
      refine V_iand (pc := 11) dX6_notDone_11 ?_
      refine V_iconst (pc := 12) dX6_notDone_12 (by unfold I32; omega) ?_
      refine V_icmp_ne (pc := 13) dX6_notDone_13 (tgt := 22) rfl (fun h13 => ?_) (fun h13 => ?_)
      · skip
        refine V_ld (pc := 22) dX6_notDone_22 (v := vi r) rfl rfl ?_
        refine V_reti (pc := 23) dX6_notDone_23 trivial ?_
        first | (exfalso; omega) | exact ⟨hv', rfl⟩
      · skip
        refine V_iinc (pc := 16) dX6_notDone_16 (x := r) (ls' := [(3, vi (r + 1)), (0, vi d), (1, vi r0), (2, vi inn)]) rfl (by unfold I32 at *; omega) (Nat.le_of_ble_eq_true rfl) rfl ?_
        refine V_goto (pc := 19) dX6_notDone_19 (tgt := 2) rfl ?_
        exfalso; omega
  | succ f ih =>
    intro r hr hv
    have hv' : (if r < inn ∧ bitA d r = 1 then ndF d inn f (r + 1) else r) = ndA d r0 inn := hv
    refine V_ld (pc := 2) dX6_notDone_2 (v := vi r) rfl rfl ?_
    refine V_ld (pc := 3) dX6_notDone_3 (v := vi inn) rfl rfl ?_
    refine V_icmp_ge (pc := 4) dX6_notDone_4 (tgt := 22) rfl (fun h4 => ?_) (fun h4 => ?_)
    · skip
      refine V_ld (pc := 22) dX6_notDone_22 (v := vi r) rfl rfl ?_
      refine V_reti (pc := 23) dX6_notDone_23 trivial ?_
      first
        | (exfalso; omega)
        | (rw [if_neg (fun e_ => by have e2_ : and32 (shr32 d r) 1 = 1 := e_.2; omega)] at hv'
           exact ⟨hv', rfl⟩)
    · skip
      refine V_ld (pc := 7) dX6_notDone_7 (v := vi d) rfl rfl ?_
      refine V_ld (pc := 8) dX6_notDone_8 (v := vi r) rfl rfl ?_
      refine V_ishr (pc := 9) dX6_notDone_9 ?_
      refine V_iconst (pc := 10) dX6_notDone_10 (by unfold I32; omega) ?_
      refine V_iand (pc := 11) dX6_notDone_11 ?_
      refine V_iconst (pc := 12) dX6_notDone_12 (by unfold I32; omega) ?_
      refine V_icmp_ne (pc := 13) dX6_notDone_13 (tgt := 22) rfl (fun h13 => ?_) (fun h13 => ?_)
      · skip
        refine V_ld (pc := 22) dX6_notDone_22 (v := vi r) rfl rfl ?_
        refine V_reti (pc := 23) dX6_notDone_23 trivial ?_
        first
          | (exfalso; omega)
          | (rw [if_neg (fun e_ => by have e2_ : and32 (shr32 d r) 1 = 1 := e_.2; omega)] at hv'
             exact ⟨hv', rfl⟩)
      · skip
        refine V_iinc (pc := 16) dX6_notDone_16 (x := r) (ls' := [(3, vi (r + 1)), (0, vi d), (1, vi r0), (2, vi inn)]) rfl (by unfold I32 at *; omega) (Nat.le_of_ble_eq_true rfl) rfl ?_
        refine V_goto (pc := 19) dX6_notDone_19 (tgt := 2) rfl ?_
        skip
        rw [if_pos ⟨by omega, by show and32 (shr32 d r) 1 = 1; omega⟩] at hv'
        exact ih (r + 1) (by omega) hv'

set_option maxHeartbeats 4000000 in
theorem z_notDone  (m : Mem) (d : Int) (r0 : Int) (inn : Int)   (hr : 0 ≤ r0 ∧ r0 ≤ inn ∧ inn ≤ 100) : Ct μX6_notDone 0 [vi d, vi r0, vi inn] m (ri fun x_ m' => (x_ = ndA d r0 inn) ∧ m = m') := by
  refine Ct_of_V rfl (by decide) rfl (Nat.le_of_ble_eq_true rfl) ?_
  show V μX6_notDone 0 m _ 0 [(0, vi d), (1, vi r0), (2, vi inn)] [] m
  refine V_rg (k := 0) (x := d) rfl fun r_d => ?_
  refine V_rg (k := 1) (x := r0) rfl fun r_r0 => ?_
  refine V_rg (k := 2) (x := inn) rfl fun r_inn => ?_
  refine V_ld (pc := 0) dX6_notDone_0 (v := vi r0) rfl rfl ?_
  refine V_st (pc := 1) dX6_notDone_1 (ls' := [(3, vi r0), (0, vi d), (1, vi r0), (2, vi inn)]) rfl (Nat.le_of_ble_eq_true rfl) rfl ?_
  skip
  exact L_znd hr.2.2 (inn - r0).toNat r0 (by omega) rfl
