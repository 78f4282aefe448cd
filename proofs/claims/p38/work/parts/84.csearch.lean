/-! the class searches: steps within a part -/
theorem SB.w {b : Mem} {P Q L c : Nat} {F : Tb} {n may : Int} {hcn : Nat → CEnv → Int} {cl : Nat → Int} (h : SB b P Q L F c n may hcn cl) : WfT F 0 c := h.2.2.1.2.2.2.2
theorem stC_3 {F : Tb} {p far : Int} (h : F p.toNat 0 = 3) : stC F p far = kidN F p (far - 1).toNat := if_pos h
theorem stC_n {F : Tb} {p far : Int} (h : ¬ F p.toNat 0 = 3) : stC F p far = far := if_neg h
theorem lfC_4 {F : Tb} {p far : Int} (h : F p.toNat 0 = 4) : lfC F p far = kidN F p far.toNat := if_pos h
theorem lfC_n {F : Tb} {p far : Int} (h : ¬ F p.toNat 0 = 4) : lfC F p far = far := if_neg h
theorem kidN_s {F : Tb} {p far : Int} (h : 0 ≤ far) : F (kidN F p far.toNat).toNat 8 = kidN F p (far + 1).toNat := by
  rw [show (far + 1).toNat = far.toNat + 1 from by omega]; rfl

set_option maxHeartbeats 4000000 in
theorem z_comeWithin (b : Mem) (Q : Nat) (L : Nat) (F : Tb) (c : Nat) (n : Int) (may : Int) (hcn : Nat → CEnv → Int) (cl : Nat → Int) (J : SJ) (far : Int) (m : Mem) (P : Nat) (k : Int)   (hS : SB b P Q L F c n may hcn cl) (hZ : CZ b m F J) (hp : 0 ≤ J.1 3 ∧ J.1 3 ≤ 5006 ∧ 0 ≤ J.1 5 ∧ J.1 5 ≤ 5001 ∧ 0 ≤ J.1 7 ∧ J.1 7 < (c : Int)) (hs : F (J.1 7).toNat 0 = 3 ∧ 0 ≤ far ∧ far < F (J.1 7).toNat 2) (hk : k = kidN F (J.1 7) far.toNat) : Ct μX6_comeWithin 3 [vr 9, vr P, vi k] m (ri fun x_ m' => (x_ = (comeW F J far).1) ∧ CZ b m' F (comeW F J far).2) := by
  refine Ct_of_V rfl (by decide) rfl (Nat.le_of_ble_eq_true rfl) ?_
  show V μX6_comeWithin 3 m _ 0 [(0, vr 9), (1, vr P), (2, vi k)] [] m
  refine V_rg (k := 2) (x := k) rfl fun r_k => ?_
  have hL := CZ.lay hS hZ
  have hW := SB.w hS
  have hIn := inn_kid hW ⟨hp.2.2.2.2.1, hp.2.2.2.2.2⟩ (by omega)
  have hkk := hIn.2.2.2.2.2.2 far.toNat (by omega)
  rw [← hk] at hkk
  refine V_ld (pc := 0) dX6_comeWithin_0 (v := vr P) rfl rfl ?_
  refine V_ld (pc := 1) dX6_comeWithin_1 (v := vi k) rfl rfl ?_
  refine V_bipush (pc := 2) dX6_comeWithin_2 (by unfold I32; omega) (by decide) ?_
  refine V_callV (pc := 4) dX6_comeWithin_4 (F' := 0) (As := [vi k, vi 8]) (st := []) cw_RX6_106 rfl rfl (CZ.tP hS hZ) (by decide) (Nat.le_of_ble_eq_true rfl) (by omega) (c_factT L F c 8 m P k 8 Q  (CZ.tP hS hZ) (CZ.rQ hS hZ) (CZ.tQ hS hZ) (CZ.gc hS hZ) (CZ.tab hS hZ) ⟨hkk.1, hkk.2.1⟩ ⟨by decide, by decide⟩) ?_
  rintro _ _ ⟨x4, rfl, rfl, rfl⟩ ok4 le4
  refine V_if_lt (pc := 7) dX6_comeWithin_7 (tgt := 15) rfl (fun h7 => ?_) (fun h7 => ?_)
  · skip
    refine V_ld (pc := 15) dX6_comeWithin_15 (v := vr 9) rfl rfl ?_
    refine V_ld (pc := 16) dX6_comeWithin_16 (v := vi k) rfl rfl ?_
    refine V_putI (pc := 17) dX6_comeWithin_17 fw_RX6_76 rfl (hL.t9) (Or.inl rfl) (Or.inl rfl) ?_
    refine V_iconst (pc := 20) dX6_comeWithin_20 (by unfold I32; omega) ?_
    refine V_reti (pc := 21) dX6_comeWithin_21 trivial ?_
    refine ⟨rfl, ?_⟩
    show CZ b _ F (setS (if far + 1 < F (J.1 7).toNat 2 then pushF F J (far + 1) else J) 7 (kidN F (J.1 7) far.toNat))
    rw [← hk]
    first
      | (exfalso; omega)
      | (rw [if_pos (by omega)]; exact (CZ.set (k := 7) (v := k) hZ (fun e_ => absurd e_ (by decide)) (fun e_ => absurd e_ (by decide))))
      | (rw [if_neg (by omega)]; exact (CZ.set (k := 7) (v := k) hZ (fun e_ => absurd e_ (by decide)) (fun e_ => absurd e_ (by decide))))
  · skip
    refine V_ld (pc := 10) dX6_comeWithin_10 (v := vr 9) rfl rfl ?_
    refine V_ld (pc := 11) dX6_comeWithin_11 (v := vi k) rfl rfl ?_
    refine V_callV (pc := 12) dX6_comeWithin_12 (F' := 2) (As := [vi k]) (st := []) cw_RX6_154 rfl rfl (hL.t9) (by decide) (Nat.le_of_ble_eq_true rfl) (by omega) (z_pushFrame b P Q L F c n may hcn cl J (far + 1) m k   hS hZ ⟨hp.1, hp.2.1⟩ (by rw [stC_3 hs.1, show far + 1 - 1 = far from by omega]; exact hk)) ?_
    rintro _ m12 ⟨rfl, hm12⟩ ok12 le12
    refine V_ld (pc := 15) dX6_comeWithin_15 (v := vr 9) rfl rfl ?_
    refine V_ld (pc := 16) dX6_comeWithin_16 (v := vi k) rfl rfl ?_
    refine V_putI (pc := 17) dX6_comeWithin_17 fw_RX6_76 rfl (CZ.lay hS hm12).t9 (Or.inl rfl) (Or.inl rfl) ?_
    refine V_iconst (pc := 20) dX6_comeWithin_20 (by unfold I32; omega) ?_
    refine V_reti (pc := 21) dX6_comeWithin_21 trivial ?_
    refine ⟨rfl, ?_⟩
    show CZ b _ F (setS (if far + 1 < F (J.1 7).toNat 2 then pushF F J (far + 1) else J) 7 (kidN F (J.1 7) far.toNat))
    rw [← hk]
    first
      | (exfalso; omega)
      | (rw [if_pos (by omega)]; exact (CZ.set (k := 7) (v := k) hm12 (fun e_ => absurd e_ (by decide)) (fun e_ => absurd e_ (by decide))))
      | (rw [if_neg (by omega)]; exact (CZ.set (k := 7) (v := k) hm12 (fun e_ => absurd e_ (by decide)) (fun e_ => absurd e_ (by decide))))

set_option maxHeartbeats 4000000 in
theorem z_choose (b : Mem) (Q : Nat) (L : Nat) (F : Tb) (c : Nat) (n : Int) (may : Int) (hcn : Nat → CEnv → Int) (cl : Nat → Int) (J : SJ) (far : Int) (m : Mem) (P : Nat) (k : Int)   (hS : SB b P Q L F c n may hcn cl) (hZ : CZ b m F J) (hp : 0 ≤ J.1 3 ∧ J.1 3 ≤ 5006 ∧ 0 ≤ J.1 5 ∧ J.1 5 ≤ 5001 ∧ 0 ≤ J.1 7 ∧ J.1 7 < (c : Int)) (hs : F (J.1 7).toNat 0 = 4 ∧ 0 ≤ far ∧ far < F (J.1 7).toNat 2) (hk : k = kidN F (J.1 7) far.toNat) : Ct μX6_choose 3 [vr 9, vr P, vi k] m (ri fun x_ m' => (x_ = (chooA F J far).1) ∧ CZ b m' F (chooA F J far).2) := by
  refine Ct_of_V rfl (by decide) rfl (Nat.le_of_ble_eq_true rfl) ?_
  show V μX6_choose 3 m _ 0 [(0, vr 9), (1, vr P), (2, vi k)] [] m
  refine V_rg (k := 2) (x := k) rfl fun r_k => ?_
  have hL := CZ.lay hS hZ
  have hW := SB.w hS
  have hIn := inn_kid hW ⟨hp.2.2.2.2.1, hp.2.2.2.2.2⟩ (by omega)
  have hkk := hIn.2.2.2.2.2.2 far.toNat (by omega)
  rw [← hk] at hkk
  refine V_ld (pc := 0) dX6_choose_0 (v := vr P) rfl rfl ?_
  refine V_ld (pc := 1) dX6_choose_1 (v := vi k) rfl rfl ?_
  refine V_bipush (pc := 2) dX6_choose_2 (by unfold I32; omega) (by decide) ?_
  refine V_callV (pc := 4) dX6_choose_4 (F' := 0) (As := [vi k, vi 8]) (st := []) cw_RX6_106 rfl rfl (CZ.tP hS hZ) (by decide) (Nat.le_of_ble_eq_true rfl) (by omega) (c_factT L F c 8 m P k 8 Q  (CZ.tP hS hZ) (CZ.rQ hS hZ) (CZ.tQ hS hZ) (CZ.gc hS hZ) (CZ.tab hS hZ) ⟨hkk.1, hkk.2.1⟩ ⟨by decide, by decide⟩) ?_
  rintro _ _ ⟨x4, rfl, rfl, rfl⟩ ok4 le4
  refine V_st (pc := 7) dX6_choose_7 (ls' := [(3, vi (F k.toNat 8)), (0, vr 9), (1, vr P), (2, vi k)]) rfl (Nat.le_of_ble_eq_true rfl) rfl ?_
  refine V_ld (pc := 8) dX6_choose_8 (v := vi (F k.toNat 8)) rfl rfl ?_
  refine V_if_lt (pc := 9) dX6_choose_9 (tgt := 17) rfl (fun h9 => ?_) (fun h9 => ?_)
  · skip
    refine V_ld (pc := 17) dX6_choose_17 (v := vr 9) rfl rfl ?_
    refine V_ld (pc := 18) dX6_choose_18 (v := vi k) rfl rfl ?_
    refine V_putI (pc := 19) dX6_choose_19 fw_RX6_76 rfl (hL.t9) (Or.inl rfl) (Or.inl rfl) ?_
    refine V_iconst (pc := 22) dX6_choose_22 (by unfold I32; omega) ?_
    refine V_reti (pc := 23) dX6_choose_23 trivial ?_
    refine ⟨rfl, ?_⟩
    show CZ b _ F (setS (if far + 1 < F (J.1 7).toNat 2 then pushO J (far + 1) else J) 7 (kidN F (J.1 7) far.toNat))
    rw [← hk]
    first
      | (exfalso; omega)
      | (rw [if_pos (by omega)]; exact (CZ.set (k := 7) (v := k) hZ (fun e_ => absurd e_ (by decide)) (fun e_ => absurd e_ (by decide))))
      | (rw [if_neg (by omega)]; exact (CZ.set (k := 7) (v := k) hZ (fun e_ => absurd e_ (by decide)) (fun e_ => absurd e_ (by decide))))
  · skip
    refine V_ld (pc := 12) dX6_choose_12 (v := vr 9) rfl rfl ?_
    refine V_ld (pc := 13) dX6_choose_13 (v := vi (F k.toNat 8)) rfl rfl ?_
    refine V_callV (pc := 14) dX6_choose_14 (F' := 2) (As := [vi (F k.toNat 8)]) (st := []) cw_RX6_158 rfl rfl (hL.t9) (by decide) (Nat.le_of_ble_eq_true rfl) (by omega) (z_pushOption b P Q L F c n may hcn cl J (far + 1) m (F k.toNat 8)   hS hZ (by constructor <;> omega) (by rw [lfC_4 hs.1, hk]; exact kidN_s hs.2.1)) ?_
    rintro _ m14 ⟨rfl, hm14⟩ ok14 le14
    refine V_ld (pc := 17) dX6_choose_17 (v := vr 9) rfl rfl ?_
    refine V_ld (pc := 18) dX6_choose_18 (v := vi k) rfl rfl ?_
    refine V_putI (pc := 19) dX6_choose_19 fw_RX6_76 rfl (CZ.lay hS hm14).t9 (Or.inl rfl) (Or.inl rfl) ?_
    refine V_iconst (pc := 22) dX6_choose_22 (by unfold I32; omega) ?_
    refine V_reti (pc := 23) dX6_choose_23 trivial ?_
    refine ⟨rfl, ?_⟩
    show CZ b _ F (setS (if far + 1 < F (J.1 7).toNat 2 then pushO J (far + 1) else J) 7 (kidN F (J.1 7) far.toNat))
    rw [← hk]
    first
      | (exfalso; omega)
      | (rw [if_pos (by omega)]; exact (CZ.set (k := 7) (v := k) hm14 (fun e_ => absurd e_ (by decide)) (fun e_ => absurd e_ (by decide))))
      | (rw [if_neg (by omega)]; exact (CZ.set (k := 7) (v := k) hm14 (fun e_ => absurd e_ (by decide)) (fun e_ => absurd e_ (by decide))))

set_option maxHeartbeats 4000000 in
theorem z_onceMore (b : Mem) (Q : Nat) (L : Nat) (F : Tb) (c : Nat) (n : Int) (may : Int) (hcn : Nat → CEnv → Int) (cl : Nat → Int) (J : SJ) (m : Mem) (P : Nat) (k : Int)   (hS : SB b P Q L F c n may hcn cl) (hZ : CZ b m F J) (hp : 0 ≤ J.1 3 ∧ J.1 3 ≤ 5006 ∧ 0 ≤ J.1 5 ∧ J.1 5 ≤ 5001 ∧ 0 ≤ J.1 7 ∧ J.1 7 < (c : Int)) (hs : F (J.1 7).toNat 0 = 5 ∧ 0 ≤ k ∧ k ≤ 5000) : Ct μX6_onceMore 3 [vr 9, vr P, vi k] m (ri fun x_ m' => (x_ = (onceA F J k).1) ∧ CZ b m' F (onceA F J k).2) := by
  refine Ct_of_V rfl (by decide) rfl (Nat.le_of_ble_eq_true rfl) ?_
  show V μX6_onceMore 3 m _ 0 [(0, vr 9), (1, vr P), (2, vi k)] [] m
  refine V_rg (k := 2) (x := k) rfl fun r_k => ?_
  have hL := CZ.lay hS hZ
  have hW := SB.w hS
  have hIn := inn_kid hW ⟨hp.2.2.2.2.1, hp.2.2.2.2.2⟩ (by omega)
  refine V_ld (pc := 0) dX6_onceMore_0 (v := vr 9) rfl rfl ?_
  refine V_ld (pc := 1) dX6_onceMore_1 (v := vi k) rfl rfl ?_
  refine V_iconst (pc := 2) dX6_onceMore_2 (by unfold I32; omega) ?_
  refine V_iadd (pc := 3) dX6_onceMore_3 (by unfold I32 at *; omega) ?_
  refine V_callV (pc := 4) dX6_onceMore_4 (F' := 2) (As := [vi (k + 1)]) (st := []) cw_RX6_154 rfl rfl (hL.t9) (by decide) (Nat.le_of_ble_eq_true rfl) (by omega) (z_pushFrame b P Q L F c n may hcn cl J (k + 1) m (k + 1)   hS hZ ⟨hp.1, hp.2.1⟩ (stC_n (by omega)).symm) ?_
  rintro _ m4 ⟨rfl, hm4⟩ ok4 le4
  refine V_ld (pc := 7) dX6_onceMore_7 (v := vr 9) rfl rfl ?_
  refine V_ld (pc := 8) dX6_onceMore_8 (v := vr P) rfl rfl ?_
  refine V_ld (pc := 9) dX6_onceMore_9 (v := vr 9) rfl rfl ?_
  refine V_getIv (pc := 10) dX6_onceMore_10 (v := (J.1 7)) fw_RX6_76 rfl (CZ.lay hS hm4).t9 (CZ.s hm4 (k := 7) (by decide)) (fun g10 => ?_)
  refine V_bipush (pc := 13) dX6_onceMore_13 (by unfold I32; omega) (by decide) ?_
  refine V_callV (pc := 15) dX6_onceMore_15 (F' := 0) (As := [vi (J.1 7), vi 7]) (st := [vr 9]) cw_RX6_106 rfl rfl (CZ.tP hS hm4) (by decide) (Nat.le_of_ble_eq_true rfl) (by omega) (c_factT L F c 7 m4 P (J.1 7) 7 Q  (CZ.tP hS hm4) (CZ.rQ hS hm4) (CZ.tQ hS hm4) (CZ.gc hS hm4) (CZ.tab hS hm4) ⟨hp.2.2.2.2.1, hp.2.2.2.2.2⟩ ⟨by decide, by decide⟩) ?_
  rintro _ _ ⟨x15, rfl, rfl, rfl⟩ ok15 le15
  refine V_putI (pc := 18) dX6_onceMore_18 fw_RX6_76 rfl (CZ.lay hS hm4).t9 (Or.inl rfl) (Or.inl rfl) ?_
  refine V_iconst (pc := 21) dX6_onceMore_21 (by unfold I32; omega) ?_
  refine V_reti (pc := 22) dX6_onceMore_22 trivial ?_
  exact ⟨rfl, (CZ.set (k := 7) (v := (F (J.1 7).toNat 7)) hm4 (fun e_ => absurd e_ (by decide)) (fun e_ => absurd e_ (by decide)))⟩

set_option maxHeartbeats 8000000 in
theorem z_repeat (b : Mem) (Q : Nat) (L : Nat) (F : Tb) (c : Nat) (n : Int) (may : Int) (hcn : Nat → CEnv → Int) (cl : Nat → Int) (J : SJ) (m : Mem) (P : Nat) (k : Int) (bg : Int)   (hS : SB b P Q L F c n may hcn cl) (hZ : CZ b m F J) (hp : 0 ≤ J.1 3 ∧ J.1 3 ≤ 5006 ∧ 0 ≤ J.1 5 ∧ J.1 5 ≤ 5001 ∧ 0 ≤ J.1 7 ∧ J.1 7 < (c : Int)) (hs : F (J.1 7).toNat 0 = 5 ∧ 0 ≤ k ∧ k + 1 ≤ 5000 ∧ J.1 5 ≤ 5000) : Ct μX6_repeat 4 [vr 9, vr P, vi k, vi bg] m (ri fun x_ m' => (x_ = (repA F J k bg).1) ∧ CZ b m' F (repA F J k bg).2) := by
  refine Ct_of_V rfl (by decide) rfl (Nat.le_of_ble_eq_true rfl) ?_
  show V μX6_repeat 4 m _ 0 [(0, vr 9), (1, vr P), (2, vi k), (3, vi bg)] [] m
  refine V_rg (k := 2) (x := k) rfl fun r_k => ?_
  refine V_rg (k := 3) (x := bg) rfl fun r_bg => ?_
  have hL := CZ.lay hS hZ
  have hW := SB.w hS
  have hIn := inn_kid hW ⟨hp.2.2.2.2.1, hp.2.2.2.2.2⟩ (by omega)
  refine V_ld (pc := 0) dX6_repeat_0 (v := vr P) rfl rfl ?_
  refine V_ld (pc := 1) dX6_repeat_1 (v := vr 9) rfl rfl ?_
  refine V_getIv (pc := 2) dX6_repeat_2 (v := (J.1 7)) fw_RX6_76 rfl (hL.t9) (CZ.s hZ (k := 7) (by decide)) (fun g2 => ?_)
  refine V_iconst (pc := 5) dX6_repeat_5 (by unfold I32; omega) ?_
  refine V_callV (pc := 6) dX6_repeat_6 (F' := 0) (As := [vi (J.1 7), vi 3]) (st := []) cw_RX6_106 rfl rfl (CZ.tP hS hZ) (by decide) (Nat.le_of_ble_eq_true rfl) (by omega) (c_factT L F c 3 m P (J.1 7) 3 Q  (CZ.tP hS hZ) (CZ.rQ hS hZ) (CZ.tQ hS hZ) (CZ.gc hS hZ) (CZ.tab hS hZ) ⟨hp.2.2.2.2.1, hp.2.2.2.2.2⟩ ⟨by decide, by decide⟩) ?_
  rintro _ _ ⟨x6, rfl, rfl, rfl⟩ ok6 le6
  refine V_st (pc := 9) dX6_repeat_9 (ls' := [(4, vi (F (J.1 7).toNat 3)), (0, vr 9), (1, vr P), (2, vi k), (3, vi bg)]) rfl (Nat.le_of_ble_eq_true rfl) rfl ?_
  refine V_ld (pc := 11) dX6_repeat_11 (v := vr P) rfl rfl ?_
  refine V_ld (pc := 12) dX6_repeat_12 (v := vr 9) rfl rfl ?_
  refine V_getIv (pc := 13) dX6_repeat_13 (v := (J.1 7)) fw_RX6_76 rfl (hL.t9) (CZ.s hZ (k := 7) (by decide)) (fun g13 => ?_)
  refine V_iconst (pc := 16) dX6_repeat_16 (by unfold I32; omega) ?_
  refine V_callV (pc := 17) dX6_repeat_17 (F' := 0) (As := [vi (J.1 7), vi 4]) (st := []) cw_RX6_106 rfl rfl (CZ.tP hS hZ) (by decide) (Nat.le_of_ble_eq_true rfl) (by omega) (c_factT L F c 4 m P (J.1 7) 4 Q  (CZ.tP hS hZ) (CZ.rQ hS hZ) (CZ.tQ hS hZ) (CZ.gc hS hZ) (CZ.tab hS hZ) ⟨hp.2.2.2.2.1, hp.2.2.2.2.2⟩ ⟨by decide, by decide⟩) ?_
  rintro _ _ ⟨x17, rfl, rfl, rfl⟩ ok17 le17
  refine V_st (pc := 20) dX6_repeat_20 (ls' := [(5, vi (F (J.1 7).toNat 4)), (4, vi (F (J.1 7).toNat 3)), (0, vr 9), (1, vr P), (2, vi k), (3, vi bg)]) rfl (Nat.le_of_ble_eq_true rfl) rfl ?_
  refine V_ld (pc := 22) dX6_repeat_22 (v := vi k) rfl rfl ?_
  refine V_ld (pc := 23) dX6_repeat_23 (v := vi (F (J.1 7).toNat 3)) rfl rfl ?_
  refine V_icmp_le (pc := 25) dX6_repeat_25 (tgt := 38) rfl (fun h25 => ?_) (fun h25 => ?_)
  · skip
    refine V_ld (pc := 38) dX6_repeat_38 (v := vi k) rfl rfl ?_
    refine V_ld (pc := 39) dX6_repeat_39 (v := vi (F (J.1 7).toNat 3)) rfl rfl ?_
    refine V_icmp_ge (pc := 41) dX6_repeat_41 (tgt := 51) rfl (fun h41 => ?_) (fun h41 => ?_)
    · skip
      refine V_ld (pc := 51) dX6_repeat_51 (v := vi k) rfl rfl ?_
      refine V_ld (pc := 52) dX6_repeat_52 (v := vi (F (J.1 7).toNat 4)) rfl rfl ?_
      refine V_icmp_ne (pc := 54) dX6_repeat_54 (tgt := 66) rfl (fun h54 => ?_) (fun h54 => ?_)
      · skip
        refine V_ld (pc := 66) dX6_repeat_66 (v := vr 9) rfl rfl ?_
        refine V_ld (pc := 67) dX6_repeat_67 (v := vi k) rfl rfl ?_
        refine V_callV (pc := 68) dX6_repeat_68 (F' := 2) (As := [vi k]) (st := []) cw_RX6_158 rfl rfl (hL.t9) (by decide) (Nat.le_of_ble_eq_true rfl) (by omega) (z_pushOption b P Q L F c n may hcn cl J k m k   hS hZ (by constructor <;> omega) (lfC_n (by omega)).symm) ?_
        rintro _ m68 ⟨rfl, hm68⟩ ok68 le68
        refine V_ld (pc := 71) dX6_repeat_71 (v := vr P) rfl rfl ?_
        refine V_ld (pc := 72) dX6_repeat_72 (v := vr 9) rfl rfl ?_
        refine V_getIv (pc := 73) dX6_repeat_73 (v := (J.1 7)) fw_RX6_76 rfl (CZ.lay hS hm68).t9 (CZ.s hm68 (k := 7) (by decide)) (fun g73 => ?_)
        refine V_iconst (pc := 76) dX6_repeat_76 (by unfold I32; omega) ?_
        refine V_callV (pc := 77) dX6_repeat_77 (F' := 0) (As := [vi (J.1 7), vi 5]) (st := []) cw_RX6_106 rfl rfl (CZ.tP hS hm68) (by decide) (Nat.le_of_ble_eq_true rfl) (by omega) (c_factT L F c 5 m68 P (J.1 7) 5 Q  (CZ.tP hS hm68) (CZ.rQ hS hm68) (CZ.tQ hS hm68) (CZ.gc hS hm68) (CZ.tab hS hm68) ⟨hp.2.2.2.2.1, hp.2.2.2.2.2⟩ ⟨by decide, by decide⟩) ?_
        rintro _ _ ⟨x77, rfl, rfl, rfl⟩ ok77 le77
        refine V_iconst (pc := 80) dX6_repeat_80 (by unfold I32; omega) ?_
        refine V_icmp_ne (pc := 81) dX6_repeat_81 (tgt := 93) rfl (fun h81 => ?_) (fun h81 => ?_)
        · skip
          refine V_iconst (pc := 93) dX6_repeat_93 (by unfold I32; omega) ?_
          refine V_reti (pc := 94) dX6_repeat_94 trivial ?_
          first
            | (exfalso; omega)
            | (have e_ : repA F J k bg = (1, (pushO J k)) := by (unfold repA; repeat (first | rw [if_pos (by omega)] | rw [if_neg (by omega)]))
               rw [e_]
               exact ⟨rfl, hm68⟩)
        · skip
          refine V_ld (pc := 84) dX6_repeat_84 (v := vr 9) rfl rfl ?_
          refine V_ld (pc := 85) dX6_repeat_85 (v := vr P) rfl rfl ?_
          refine V_ld (pc := 86) dX6_repeat_86 (v := vi k) rfl rfl ?_
          refine V_callV (pc := 87) dX6_repeat_87 (F' := 3) (As := [vr P, vi k]) (st := []) cw_RX6_137 rfl rfl (CZ.lay hS hm68).t9 (by decide) (Nat.le_of_ble_eq_true rfl) (by omega) (z_onceMore b Q L F c n may hcn cl (pushO J k) m68 P k   hS hm68 (by first | exact hp | (refine ⟨hp.1, hp.2.1, ?_, ?_, hp.2.2.2.2⟩ <;> first | (show 0 ≤ J.1 5 + 1; omega) | (show J.1 5 + 1 ≤ 5001; omega))) ⟨hs.1, hs.2.1, by omega⟩) ?_
          rintro _ m87 ⟨x87, rfl, hx87, hm87⟩ ok87 le87
          refine V_goto (pc := 90) dX6_repeat_90 (tgt := 94) rfl ?_
          refine V_reti (pc := 94) dX6_repeat_94 trivial ?_
          first
            | (exfalso; omega)
            | (have e_ : repA F J k bg = onceA F (pushO J k) k := by (unfold repA; repeat (first | rw [if_pos (by omega)] | rw [if_neg (by omega)]))
               rw [e_]
               exact ⟨hx87, hm87⟩)
      · skip
        refine V_ld (pc := 57) dX6_repeat_57 (v := vi (F (J.1 7).toNat 4)) rfl rfl ?_
        refine V_bipush (pc := 59) dX6_repeat_59 (by unfold I32; omega) (by decide) ?_
        refine V_icmp_eq (pc := 61) dX6_repeat_61 (tgt := 66) rfl (fun h61 => ?_) (fun h61 => ?_)
        · skip
          refine V_ld (pc := 66) dX6_repeat_66 (v := vr 9) rfl rfl ?_
          refine V_ld (pc := 67) dX6_repeat_67 (v := vi k) rfl rfl ?_
          refine V_callV (pc := 68) dX6_repeat_68 (F' := 2) (As := [vi k]) (st := []) cw_RX6_158 rfl rfl (hL.t9) (by decide) (Nat.le_of_ble_eq_true rfl) (by omega) (z_pushOption b P Q L F c n may hcn cl J k m k   hS hZ (by constructor <;> omega) (lfC_n (by omega)).symm) ?_
          rintro _ m68 ⟨rfl, hm68⟩ ok68 le68
          refine V_ld (pc := 71) dX6_repeat_71 (v := vr P) rfl rfl ?_
          refine V_ld (pc := 72) dX6_repeat_72 (v := vr 9) rfl rfl ?_
          refine V_getIv (pc := 73) dX6_repeat_73 (v := (J.1 7)) fw_RX6_76 rfl (CZ.lay hS hm68).t9 (CZ.s hm68 (k := 7) (by decide)) (fun g73 => ?_)
          refine V_iconst (pc := 76) dX6_repeat_76 (by unfold I32; omega) ?_
          refine V_callV (pc := 77) dX6_repeat_77 (F' := 0) (As := [vi (J.1 7), vi 5]) (st := []) cw_RX6_106 rfl rfl (CZ.tP hS hm68) (by decide) (Nat.le_of_ble_eq_true rfl) (by omega) (c_factT L F c 5 m68 P (J.1 7) 5 Q  (CZ.tP hS hm68) (CZ.rQ hS hm68) (CZ.tQ hS hm68) (CZ.gc hS hm68) (CZ.tab hS hm68) ⟨hp.2.2.2.2.1, hp.2.2.2.2.2⟩ ⟨by decide, by decide⟩) ?_
          rintro _ _ ⟨x77, rfl, rfl, rfl⟩ ok77 le77
          refine V_iconst (pc := 80) dX6_repeat_80 (by unfold I32; omega) ?_
          refine V_icmp_ne (pc := 81) dX6_repeat_81 (tgt := 93) rfl (fun h81 => ?_) (fun h81 => ?_)
          · skip
            refine V_iconst (pc := 93) dX6_repeat_93 (by unfold I32; omega) ?_
            refine V_reti (pc := 94) dX6_repeat_94 trivial ?_
            first
              | (exfalso; omega)
              | (have e_ : repA F J k bg = (1, (pushO J k)) := by (unfold repA; repeat (first | rw [if_pos (by omega)] | rw [if_neg (by omega)]))
                 rw [e_]
                 exact ⟨rfl, hm68⟩)
          · skip
            refine V_ld (pc := 84) dX6_repeat_84 (v := vr 9) rfl rfl ?_
            refine V_ld (pc := 85) dX6_repeat_85 (v := vr P) rfl rfl ?_
            refine V_ld (pc := 86) dX6_repeat_86 (v := vi k) rfl rfl ?_
            refine V_callV (pc := 87) dX6_repeat_87 (F' := 3) (As := [vr P, vi k]) (st := []) cw_RX6_137 rfl rfl (CZ.lay hS hm68).t9 (by decide) (Nat.le_of_ble_eq_true rfl) (by omega) (z_onceMore b Q L F c n may hcn cl (pushO J k) m68 P k   hS hm68 (by first | exact hp | (refine ⟨hp.1, hp.2.1, ?_, ?_, hp.2.2.2.2⟩ <;> first | (show 0 ≤ J.1 5 + 1; omega) | (show J.1 5 + 1 ≤ 5001; omega))) ⟨hs.1, hs.2.1, by omega⟩) ?_
            rintro _ m87 ⟨x87, rfl, hx87, hm87⟩ ok87 le87
            refine V_goto (pc := 90) dX6_repeat_90 (tgt := 94) rfl ?_
            refine V_reti (pc := 94) dX6_repeat_94 trivial ?_
            first
              | (exfalso; omega)
              | (have e_ : repA F J k bg = onceA F (pushO J k) k := by (unfold repA; repeat (first | rw [if_pos (by omega)] | rw [if_neg (by omega)]))
                 rw [e_]
                 exact ⟨hx87, hm87⟩)
        · skip
          refine V_iconst (pc := 64) dX6_repeat_64 (by unfold I32; omega) ?_
          refine V_reti (pc := 65) dX6_repeat_65 trivial ?_
          first
            | (exfalso; omega)
            | (have e_ : repA F J k bg = (1, J) := by (unfold repA; repeat (first | rw [if_pos (by omega)] | rw [if_neg (by omega)]))
               rw [e_]
               exact ⟨rfl, hZ⟩)
    · skip
      refine V_ld (pc := 44) dX6_repeat_44 (v := vr 9) rfl rfl ?_
      refine V_ld (pc := 45) dX6_repeat_45 (v := vr P) rfl rfl ?_
      refine V_ld (pc := 46) dX6_repeat_46 (v := vi k) rfl rfl ?_
      refine V_callV (pc := 47) dX6_repeat_47 (F' := 3) (As := [vr P, vi k]) (st := []) cw_RX6_137 rfl rfl (hL.t9) (by decide) (Nat.le_of_ble_eq_true rfl) (by omega) (z_onceMore b Q L F c n may hcn cl J m P k   hS hZ (by first | exact hp | (refine ⟨hp.1, hp.2.1, ?_, ?_, hp.2.2.2.2⟩ <;> first | (show 0 ≤ J.1 5 + 1; omega) | (show J.1 5 + 1 ≤ 5001; omega))) ⟨hs.1, hs.2.1, by omega⟩) ?_
      rintro _ m47 ⟨x47, rfl, hx47, hm47⟩ ok47 le47
      refine V_reti (pc := 50) dX6_repeat_50 trivial ?_
      first
        | (exfalso; omega)
        | (have e_ : repA F J k bg = onceA F J k := by (unfold repA; repeat (first | rw [if_pos (by omega)] | rw [if_neg (by omega)]))
           rw [e_]
           exact ⟨hx47, hm47⟩)
  · skip
    refine V_ld (pc := 28) dX6_repeat_28 (v := vr 9) rfl rfl ?_
    refine V_getIv (pc := 29) dX6_repeat_29 (v := (J.1 9)) fw_RX6_64 rfl (hL.t9) (CZ.s hZ (k := 9) (by decide)) (fun g29 => ?_)
    refine V_ld (pc := 32) dX6_repeat_32 (v := vi bg) rfl rfl ?_
    refine V_icmp_ne (pc := 33) dX6_repeat_33 (tgt := 38) rfl (fun h33 => ?_) (fun h33 => ?_)
    · skip
      refine V_ld (pc := 38) dX6_repeat_38 (v := vi k) rfl rfl ?_
      refine V_ld (pc := 39) dX6_repeat_39 (v := vi (F (J.1 7).toNat 3)) rfl rfl ?_
      refine V_icmp_ge (pc := 41) dX6_repeat_41 (tgt := 51) rfl (fun h41 => ?_) (fun h41 => ?_)
      · skip
        refine V_ld (pc := 51) dX6_repeat_51 (v := vi k) rfl rfl ?_
        refine V_ld (pc := 52) dX6_repeat_52 (v := vi (F (J.1 7).toNat 4)) rfl rfl ?_
        refine V_icmp_ne (pc := 54) dX6_repeat_54 (tgt := 66) rfl (fun h54 => ?_) (fun h54 => ?_)
        · skip
          refine V_ld (pc := 66) dX6_repeat_66 (v := vr 9) rfl rfl ?_
          refine V_ld (pc := 67) dX6_repeat_67 (v := vi k) rfl rfl ?_
          refine V_callV (pc := 68) dX6_repeat_68 (F' := 2) (As := [vi k]) (st := []) cw_RX6_158 rfl rfl (hL.t9) (by decide) (Nat.le_of_ble_eq_true rfl) (by omega) (z_pushOption b P Q L F c n may hcn cl J k m k   hS hZ (by constructor <;> omega) (lfC_n (by omega)).symm) ?_
          rintro _ m68 ⟨rfl, hm68⟩ ok68 le68
          refine V_ld (pc := 71) dX6_repeat_71 (v := vr P) rfl rfl ?_
          refine V_ld (pc := 72) dX6_repeat_72 (v := vr 9) rfl rfl ?_
          refine V_getIv (pc := 73) dX6_repeat_73 (v := (J.1 7)) fw_RX6_76 rfl (CZ.lay hS hm68).t9 (CZ.s hm68 (k := 7) (by decide)) (fun g73 => ?_)
          refine V_iconst (pc := 76) dX6_repeat_76 (by unfold I32; omega) ?_
          refine V_callV (pc := 77) dX6_repeat_77 (F' := 0) (As := [vi (J.1 7), vi 5]) (st := []) cw_RX6_106 rfl rfl (CZ.tP hS hm68) (by decide) (Nat.le_of_ble_eq_true rfl) (by omega) (c_factT L F c 5 m68 P (J.1 7) 5 Q  (CZ.tP hS hm68) (CZ.rQ hS hm68) (CZ.tQ hS hm68) (CZ.gc hS hm68) (CZ.tab hS hm68) ⟨hp.2.2.2.2.1, hp.2.2.2.2.2⟩ ⟨by decide, by decide⟩) ?_
          rintro _ _ ⟨x77, rfl, rfl, rfl⟩ ok77 le77
          refine V_iconst (pc := 80) dX6_repeat_80 (by unfold I32; omega) ?_
          refine V_icmp_ne (pc := 81) dX6_repeat_81 (tgt := 93) rfl (fun h81 => ?_) (fun h81 => ?_)
          · skip
            refine V_iconst (pc := 93) dX6_repeat_93 (by unfold I32; omega) ?_
            refine V_reti (pc := 94) dX6_repeat_94 trivial ?_
            first
              | (exfalso; omega)
              | (have e_ : repA F J k bg = (1, (pushO J k)) := by (unfold repA; repeat (first | rw [if_pos (by omega)] | rw [if_neg (by omega)]))
                 rw [e_]
                 exact ⟨rfl, hm68⟩)
          · skip
            refine V_ld (pc := 84) dX6_repeat_84 (v := vr 9) rfl rfl ?_
            refine V_ld (pc := 85) dX6_repeat_85 (v := vr P) rfl rfl ?_
            refine V_ld (pc := 86) dX6_repeat_86 (v := vi k) rfl rfl ?_
            refine V_callV (pc := 87) dX6_repeat_87 (F' := 3) (As := [vr P, vi k]) (st := []) cw_RX6_137 rfl rfl (CZ.lay hS hm68).t9 (by decide) (Nat.le_of_ble_eq_true rfl) (by omega) (z_onceMore b Q L F c n may hcn cl (pushO J k) m68 P k   hS hm68 (by first | exact hp | (refine ⟨hp.1, hp.2.1, ?_, ?_, hp.2.2.2.2⟩ <;> first | (show 0 ≤ J.1 5 + 1; omega) | (show J.1 5 + 1 ≤ 5001; omega))) ⟨hs.1, hs.2.1, by omega⟩) ?_
            rintro _ m87 ⟨x87, rfl, hx87, hm87⟩ ok87 le87
            refine V_goto (pc := 90) dX6_repeat_90 (tgt := 94) rfl ?_
            refine V_reti (pc := 94) dX6_repeat_94 trivial ?_
            first
              | (exfalso; omega)
              | (have e_ : repA F J k bg = onceA F (pushO J k) k := by (unfold repA; repeat (first | rw [if_pos (by omega)] | rw [if_neg (by omega)]))
                 rw [e_]
                 exact ⟨hx87, hm87⟩)
        · skip
          refine V_ld (pc := 57) dX6_repeat_57 (v := vi (F (J.1 7).toNat 4)) rfl rfl ?_
          refine V_bipush (pc := 59) dX6_repeat_59 (by unfold I32; omega) (by decide) ?_
          refine V_icmp_eq (pc := 61) dX6_repeat_61 (tgt := 66) rfl (fun h61 => ?_) (fun h61 => ?_)
          · skip
            refine V_ld (pc := 66) dX6_repeat_66 (v := vr 9) rfl rfl ?_
            refine V_ld (pc := 67) dX6_repeat_67 (v := vi k) rfl rfl ?_
            refine V_callV (pc := 68) dX6_repeat_68 (F' := 2) (As := [vi k]) (st := []) cw_RX6_158 rfl rfl (hL.t9) (by decide) (Nat.le_of_ble_eq_true rfl) (by omega) (z_pushOption b P Q L F c n may hcn cl J k m k   hS hZ (by constructor <;> omega) (lfC_n (by omega)).symm) ?_
            rintro _ m68 ⟨rfl, hm68⟩ ok68 le68
            refine V_ld (pc := 71) dX6_repeat_71 (v := vr P) rfl rfl ?_
            refine V_ld (pc := 72) dX6_repeat_72 (v := vr 9) rfl rfl ?_
            refine V_getIv (pc := 73) dX6_repeat_73 (v := (J.1 7)) fw_RX6_76 rfl (CZ.lay hS hm68).t9 (CZ.s hm68 (k := 7) (by decide)) (fun g73 => ?_)
            refine V_iconst (pc := 76) dX6_repeat_76 (by unfold I32; omega) ?_
            refine V_callV (pc := 77) dX6_repeat_77 (F' := 0) (As := [vi (J.1 7), vi 5]) (st := []) cw_RX6_106 rfl rfl (CZ.tP hS hm68) (by decide) (Nat.le_of_ble_eq_true rfl) (by omega) (c_factT L F c 5 m68 P (J.1 7) 5 Q  (CZ.tP hS hm68) (CZ.rQ hS hm68) (CZ.tQ hS hm68) (CZ.gc hS hm68) (CZ.tab hS hm68) ⟨hp.2.2.2.2.1, hp.2.2.2.2.2⟩ ⟨by decide, by decide⟩) ?_
            rintro _ _ ⟨x77, rfl, rfl, rfl⟩ ok77 le77
            refine V_iconst (pc := 80) dX6_repeat_80 (by unfold I32; omega) ?_
            refine V_icmp_ne (pc := 81) dX6_repeat_81 (tgt := 93) rfl (fun h81 => ?_) (fun h81 => ?_)
            · skip
              refine V_iconst (pc := 93) dX6_repeat_93 (by unfold I32; omega) ?_
              refine V_reti (pc := 94) dX6_repeat_94 trivial ?_
              first
                | (exfalso; omega)
                | (have e_ : repA F J k bg = (1, (pushO J k)) := by (unfold repA; repeat (first | rw [if_pos (by omega)] | rw [if_neg (by omega)]))
                   rw [e_]
                   exact ⟨rfl, hm68⟩)
            · skip
              refine V_ld (pc := 84) dX6_repeat_84 (v := vr 9) rfl rfl ?_
              refine V_ld (pc := 85) dX6_repeat_85 (v := vr P) rfl rfl ?_
              refine V_ld (pc := 86) dX6_repeat_86 (v := vi k) rfl rfl ?_
              refine V_callV (pc := 87) dX6_repeat_87 (F' := 3) (As := [vr P, vi k]) (st := []) cw_RX6_137 rfl rfl (CZ.lay hS hm68).t9 (by decide) (Nat.le_of_ble_eq_true rfl) (by omega) (z_onceMore b Q L F c n may hcn cl (pushO J k) m68 P k   hS hm68 (by first | exact hp | (refine ⟨hp.1, hp.2.1, ?_, ?_, hp.2.2.2.2⟩ <;> first | (show 0 ≤ J.1 5 + 1; omega) | (show J.1 5 + 1 ≤ 5001; omega))) ⟨hs.1, hs.2.1, by omega⟩) ?_
              rintro _ m87 ⟨x87, rfl, hx87, hm87⟩ ok87 le87
              refine V_goto (pc := 90) dX6_repeat_90 (tgt := 94) rfl ?_
              refine V_reti (pc := 94) dX6_repeat_94 trivial ?_
              first
                | (exfalso; omega)
                | (have e_ : repA F J k bg = onceA F (pushO J k) k := by (unfold repA; repeat (first | rw [if_pos (by omega)] | rw [if_neg (by omega)]))
                   rw [e_]
                   exact ⟨hx87, hm87⟩)
          · skip
            refine V_iconst (pc := 64) dX6_repeat_64 (by unfold I32; omega) ?_
            refine V_reti (pc := 65) dX6_repeat_65 trivial ?_
            first
              | (exfalso; omega)
              | (have e_ : repA F J k bg = (1, J) := by (unfold repA; repeat (first | rw [if_pos (by omega)] | rw [if_neg (by omega)]))
                 rw [e_]
                 exact ⟨rfl, hZ⟩)
      · skip
        refine V_ld (pc := 44) dX6_repeat_44 (v := vr 9) rfl rfl ?_
        refine V_ld (pc := 45) dX6_repeat_45 (v := vr P) rfl rfl ?_
        refine V_ld (pc := 46) dX6_repeat_46 (v := vi k) rfl rfl ?_
        refine V_callV (pc := 47) dX6_repeat_47 (F' := 3) (As := [vr P, vi k]) (st := []) cw_RX6_137 rfl rfl (hL.t9) (by decide) (Nat.le_of_ble_eq_true rfl) (by omega) (z_onceMore b Q L F c n may hcn cl J m P k   hS hZ (by first | exact hp | (refine ⟨hp.1, hp.2.1, ?_, ?_, hp.2.2.2.2⟩ <;> first | (show 0 ≤ J.1 5 + 1; omega) | (show J.1 5 + 1 ≤ 5001; omega))) ⟨hs.1, hs.2.1, by omega⟩) ?_
        rintro _ m47 ⟨x47, rfl, hx47, hm47⟩ ok47 le47
        refine V_reti (pc := 50) dX6_repeat_50 trivial ?_
        first
          | (exfalso; omega)
          | (have e_ : repA F J k bg = onceA F J k := by (unfold repA; repeat (first | rw [if_pos (by omega)] | rw [if_neg (by omega)]))
             rw [e_]
             exact ⟨hx47, hm47⟩)
    · skip
      refine V_iconst (pc := 36) dX6_repeat_36 (by unfold I32; omega) ?_
      refine V_reti (pc := 37) dX6_repeat_37 trivial ?_
      first
        | (exfalso; omega)
        | (have e_ : repA F J k bg = (2, J) := by (unfold repA; repeat (first | rw [if_pos (by omega)] | rw [if_neg (by omega)]))
           rw [e_]
           exact ⟨rfl, hZ⟩)
