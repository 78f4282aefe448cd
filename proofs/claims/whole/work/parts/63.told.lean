/-! part(): class and reference -/
/-- part(): what is told of a pattern's part -/
def partV (F : Tb) (c : Nat) (p w : Int) : Int := if 0 ≤ p ∧ p < (c : Int) ∧ 0 ≤ w ∧ w ≤ 6 then F p.toNat w.toNat else -1
theorem partV_n {F : Tb} {c : Nat} {p w : Int} (h : ¬ (0 ≤ p ∧ p < (c : Int) ∧ 0 ≤ w ∧ w ≤ 6)) : partV F c p w = -1 := if_neg h
theorem partV_y {F : Tb} {c : Nat} {p w : Int} (h : 0 ≤ p ∧ p < (c : Int) ∧ 0 ≤ w ∧ w ≤ 6) : partV F c p w = F p.toNat w.toNat := if_pos h
theorem RTab.pv {I : Nat → Nat → Int} {F : Tb} {c : Nat} (h : RTab I F c) {p w : Int} (hp : 0 ≤ p ∧ p < (c : Int)) (k : Nat) (hk : w = (k : Int)) (h6 : k ≤ 6) : I (colA k) p.toNat = partV F c p w := by
  rw [partV_y ⟨hp.1, hp.2, by omega, by omega⟩, show w.toNat = k from by omega]
  exact RTab.at h (by omega) (by omega)

set_option maxHeartbeats 4000000 in
theorem c_partN  (m : Mem) (p : Int) (w : Int)   (hL : Lay (mT m) (mR m)) (hq : mR m 1 2 = none) : Ct μX10_part 1 [vr 0, vi p, vi w] m (ri fun x_ m' => (x_ = -1) ∧ m = m') := by
  refine Ct_of_V rfl (by decide) rfl (Nat.le_of_ble_eq_true rfl) ?_
  show V μX10_part 1 m _ 0 [(0, vr 0), (1, vi p), (2, vi w)] [] m
  refine V_rg (k := 1) (x := p) rfl fun r_p => ?_
  refine V_rg (k := 2) (x := w) rfl fun r_w => ?_
  refine V_ld (pc := 0) dX10_part_0 (v := vr 0) rfl rfl ?_
  refine V_getRv (pc := 1) dX10_part_1 (o' := 1) fw_RX10_12 rfl hL.t0 hL.r0_0 ?_
  refine V_getRq (pc := 4) dX10_part_4 (q := none) fw_RX10_103 rfl hL.t1 hq ?_
  refine V_st (pc := 7) dX10_part_7 (ls' := [(3, vq none), (0, vr 0), (1, vi p), (2, vi w)]) rfl (Nat.le_of_ble_eq_true rfl) rfl ?_
  refine V_ld (pc := 8) dX10_part_8 (v := vq none) rfl rfl ?_
  refine V_ifnull (pc := 9) dX10_part_9 (tgt := 34) rfl (fun _ => ?_) (fun _ h_ => by cases h_)
  refine V_iconst (pc := 34) dX10_part_34 (by unfold I32; omega) ?_
  refine V_reti (pc := 35) dX10_part_35 trivial ?_
  exact ⟨rfl, rfl⟩

set_option maxHeartbeats 4000000 in
theorem c_partS (P : Nat) (F : Tb) (c : Nat) (m : Mem) (p : Int) (w : Int)   (hL : Lay (mT m) (mR m)) (hq : mR m 1 2 = some P ∧ HasP m P F c) : Ct μX10_part 1 [vr 0, vi p, vi w] m (ri fun x_ m' => (x_ = partV F c p w) ∧ m = m') := by
  refine Ct_of_V rfl (by decide) rfl (Nat.le_of_ble_eq_true rfl) ?_
  show V μX10_part 1 m _ 0 [(0, vr 0), (1, vi p), (2, vi w)] [] m
  refine V_rg (k := 1) (x := p) rfl fun r_p => ?_
  refine V_rg (k := 2) (x := w) rfl fun r_w => ?_
  obtain ⟨hq0, A, L, hq1, hq2, hq3, hq4, hq5, hq6, hq7, hq8, hq9, hq10, hq11, hq12⟩ := hq
  refine V_ld (pc := 0) dX10_part_0 (v := vr 0) rfl rfl ?_
  refine V_getRv (pc := 1) dX10_part_1 (o' := 1) fw_RX10_12 rfl hL.t0 hL.r0_0 ?_
  refine V_getRv (pc := 4) dX10_part_4 (o' := P) fw_RX10_103 rfl hL.t1 hq0 ?_
  refine V_st (pc := 7) dX10_part_7 (ls' := [(3, vr P), (0, vr 0), (1, vi p), (2, vi w)]) rfl (Nat.le_of_ble_eq_true rfl) rfl ?_
  refine V_ld (pc := 8) dX10_part_8 (v := vr P) rfl rfl ?_
  refine V_ifnull (pc := 9) dX10_part_9 (tgt := 34) rfl (fun h_ => by cases h_) (fun _ _ => ?_)
  refine V_ld (pc := 12) dX10_part_12 (v := vi p) rfl rfl ?_
  refine V_if_lt (pc := 13) dX10_part_13 (tgt := 34) rfl (fun h13 => ?_) (fun h13 => ?_)
  · skip
    refine V_iconst (pc := 34) dX10_part_34 (by unfold I32; omega) ?_
    refine V_reti (pc := 35) dX10_part_35 trivial ?_
    first
      | (exfalso; omega)
      | exact ⟨(partV_n (by omega)).symm, rfl⟩
      | exact ⟨(partV_y (by omega)).symm, rfl⟩
  · skip
    refine V_ld (pc := 16) dX10_part_16 (v := vi p) rfl rfl ?_
    refine V_ld (pc := 17) dX10_part_17 (v := vr P) rfl rfl ?_
    refine V_getIv (pc := 18) dX10_part_18 (v := (c : Int)) fw_RX10_107 rfl hq1 (hq9) (fun g18 => ?_)
    refine V_icmp_ge (pc := 21) dX10_part_21 (tgt := 34) rfl (fun h21 => ?_) (fun h21 => ?_)
    · skip
      refine V_iconst (pc := 34) dX10_part_34 (by unfold I32; omega) ?_
      refine V_reti (pc := 35) dX10_part_35 trivial ?_
      first
        | (exfalso; omega)
        | exact ⟨(partV_n (by omega)).symm, rfl⟩
        | exact ⟨(partV_y (by omega)).symm, rfl⟩
    · skip
      refine V_ld (pc := 24) dX10_part_24 (v := vi w) rfl rfl ?_
      refine V_if_lt (pc := 25) dX10_part_25 (tgt := 34) rfl (fun h25 => ?_) (fun h25 => ?_)
      · skip
        refine V_iconst (pc := 34) dX10_part_34 (by unfold I32; omega) ?_
        refine V_reti (pc := 35) dX10_part_35 trivial ?_
        first
          | (exfalso; omega)
          | exact ⟨(partV_n (by omega)).symm, rfl⟩
          | exact ⟨(partV_y (by omega)).symm, rfl⟩
      · skip
        refine V_ld (pc := 28) dX10_part_28 (v := vi w) rfl rfl ?_
        refine V_bipush (pc := 29) dX10_part_29 (by unfold I32; omega) (by decide) ?_
        refine V_icmp_le (pc := 31) dX10_part_31 (tgt := 36) rfl (fun h31 => ?_) (fun h31 => ?_)
        · skip
          refine V_ld (pc := 36) dX10_part_36 (v := vr P) rfl rfl ?_
          refine V_ld (pc := 37) dX10_part_37 (v := vi p) rfl rfl ?_
          refine V_ld (pc := 38) dX10_part_38 (v := vi w) rfl rfl ?_
          refine V_callV (pc := 39) dX10_part_39 (F' := 0) (As := [vi p, vi w]) (st := []) cw_RX10_126 rfl rfl hq1 (by decide) (Nat.le_of_ble_eq_true rfl) (by omega) (c_factT L F c w.toNat m P p w A  hq1 hq2 hq3 ⟨hq9, by omega, hq11⟩ hq12 ⟨by omega, by omega⟩ ⟨by omega, by omega⟩) ?_
          rintro _ _ ⟨x39, rfl, rfl, rfl⟩ ok39 le39
          refine V_reti (pc := 42) dX10_part_42 trivial ?_
          first
            | (exfalso; omega)
            | exact ⟨(partV_n (by omega)).symm, rfl⟩
            | exact ⟨(partV_y (by omega)).symm, rfl⟩
        · skip
          refine V_iconst (pc := 34) dX10_part_34 (by unfold I32; omega) ?_
          refine V_reti (pc := 35) dX10_part_35 trivial ?_
          first
            | (exfalso; omega)
            | exact ⟨(partV_n (by omega)).symm, rfl⟩
            | exact ⟨(partV_y (by omega)).symm, rfl⟩

set_option maxHeartbeats 4000000 in
theorem r_part (tx : Nat → Int) (n : Nat) (m : Mem) (p : Int) (w : Int)   (hL : Lay (mT m) (mR m)) (ht : mI m 31 65 = (n : Int) ∧ n ≤ 120) (htx : txR (mI m) 31 66 tx n) (hv : n ≠ 0 → PatW tx n) : Ct μX11_part 33 [vr 30, vi p, vi w] m (ri fun x_ m' => ∃ I_ : Nat → Nat → Int, wI m I_ = m' ∧ (x_ = if n = 0 then -1 else partV (altL tx n 5 S0).2.2.2.2 (altL tx n 5 S0).2.2.2.1 p w) ∧ RFq (mI m) I_) := by
  refine Ct_of_V rfl (by decide) rfl (Nat.le_of_ble_eq_true rfl) ?_
  show V μX11_part 33 m _ 0 [(0, vr 30), (1, vi p), (2, vi w)] [] m
  refine V_rg (k := 1) (x := p) rfl fun r_p => ?_
  refine V_rg (k := 2) (x := w) rfl fun r_w => ?_
  refine V_ld (pc := 0) dX11_part_0 (v := vr 30) rfl rfl ?_
  refine V_callV (pc := 1) dX11_part_1 (F' := 32) (As := []) (st := []) cw_RX11_195 rfl rfl hL.t30 (by decide) (Nat.le_of_ble_eq_true rfl) (by omega) (r_isRead tx n m    (by first | assumption | omega) ht htx) ?_
  rintro _ _ ⟨x1, rfl, Ix1, rfl, hx1, hF1, hP1⟩ ok1 le1
  have hcn : 0 < n → mI (wI m Ix1) 30 9 = ((altL tx n 5 S0).2.2.2.1 : Int) ∧ (altL tx n 5 S0).2.2.2.1 ≤ 240 := fun h_ => by
    have hp_ := hP1 h_
    have hw_ : PatW tx n := hv (by omega)
    have h6_ := hp_.2.2.2.2.2.1 hw_.1
    have h7_ := hp_.2.2.2.2.1
    exact ⟨hp_.2.2.2.1, by omega⟩
  have hRT : 0 < n → RTab (mI (wI m Ix1)) (altL tx n 5 S0).2.2.2.2 (altL tx n 5 S0).2.2.2.1 := fun h_ => (hP1 h_).2.2.2.2.2.2.2.2
  refine V_if_eq (pc := 4) dX11_part_4 (tgt := 35) rfl (fun h4 => ?_) (fun h4 => ?_)
  · skip
    refine V_iconst (pc := 35) dX11_part_35 (by unfold I32; omega) ?_
    refine V_reti (pc := 36) dX11_part_36 trivial ?_
    refine ⟨mI (wI m Ix1), rfl, ?_, hF1⟩
    first
      | (exfalso; omega)
      | (rw [if_pos (by omega)])
      | (rw [if_neg (by omega), partV_n (by omega)])
      | (rw [if_neg (by omega)]; exact RTab.pv (hRT (by omega)) (by omega) 0 (by omega) (by decide))
      | (rw [if_neg (by omega)]; exact RTab.pv (hRT (by omega)) (by omega) 1 (by omega) (by decide))
      | (rw [if_neg (by omega)]; exact RTab.pv (hRT (by omega)) (by omega) 2 (by omega) (by decide))
      | (rw [if_neg (by omega)]; exact RTab.pv (hRT (by omega)) (by omega) 3 (by omega) (by decide))
      | (rw [if_neg (by omega)]; exact RTab.pv (hRT (by omega)) (by omega) 4 (by omega) (by decide))
      | (rw [if_neg (by omega)]; exact RTab.pv (hRT (by omega)) (by omega) 5 (by omega) (by decide))
      | (rw [if_neg (by omega)]; exact RTab.pv (hRT (by omega)) (by omega) 6 (by omega) (by decide))
  · skip
    refine V_ld (pc := 7) dX11_part_7 (v := vi p) rfl rfl ?_
    refine V_i2l (pc := 8) dX11_part_8 ?_
    refine V_lconst (pc := 9) dX11_part_9 (x := 0) (by unfold I64; omega) (by decide) ?_
    refine V_ld (pc := 10) dX11_part_10 (v := vr 30) rfl rfl ?_
    refine V_getIv (pc := 11) dX11_part_11 (v := mI (wI m Ix1) 30 9) fw_RX11_139 rfl hL.t30 rfl (fun g11 => ?_)
    refine V_iconst (pc := 14) dX11_part_14 (by unfold I32; omega) ?_
    refine V_isub (pc := 15) dX11_part_15 (by unfold I32 at *; omega) ?_
    refine V_i2l (pc := 16) dX11_part_16 ?_
    refine V_callS (pc := 17) dX11_part_17 (F' := 0) (As := [vl p, vl 0, vl ((mI (wI m Ix1) 30 9) - 1)]) (st := []) cw_RX11_101 rfl rfl (Nat.le_of_ble_eq_true rfl) (by omega) (r_isIn  (wI m Ix1) p 0 ((mI (wI m Ix1) 30 9) - 1)   ) ?_
    rintro _ _ ⟨x17, rfl, hx17, rfl⟩ ok17 le17
    refine V_if_eq (pc := 20) dX11_part_20 (tgt := 35) rfl (fun h20 => ?_) (fun h20 => ?_)
    · skip
      refine V_iconst (pc := 35) dX11_part_35 (by unfold I32; omega) ?_
      refine V_reti (pc := 36) dX11_part_36 trivial ?_
      refine ⟨mI (wI m Ix1), rfl, ?_, hF1⟩
      first
        | (exfalso; omega)
        | (rw [if_pos (by omega)])
        | (rw [if_neg (by omega), partV_n (by omega)])
        | (rw [if_neg (by omega)]; exact RTab.pv (hRT (by omega)) (by omega) 0 (by omega) (by decide))
        | (rw [if_neg (by omega)]; exact RTab.pv (hRT (by omega)) (by omega) 1 (by omega) (by decide))
        | (rw [if_neg (by omega)]; exact RTab.pv (hRT (by omega)) (by omega) 2 (by omega) (by decide))
        | (rw [if_neg (by omega)]; exact RTab.pv (hRT (by omega)) (by omega) 3 (by omega) (by decide))
        | (rw [if_neg (by omega)]; exact RTab.pv (hRT (by omega)) (by omega) 4 (by omega) (by decide))
        | (rw [if_neg (by omega)]; exact RTab.pv (hRT (by omega)) (by omega) 5 (by omega) (by decide))
        | (rw [if_neg (by omega)]; exact RTab.pv (hRT (by omega)) (by omega) 6 (by omega) (by decide))
    · skip
      refine V_ld (pc := 23) dX11_part_23 (v := vi w) rfl rfl ?_
      refine V_i2l (pc := 24) dX11_part_24 ?_
      refine V_lconst (pc := 25) dX11_part_25 (x := 0) (by unfold I64; omega) (by decide) ?_
      refine V_ldc2 (pc := 26) dX11_part_26 (x := 6) kl_RX11_198 (by unfold I64; omega) rfl ?_
      refine V_callS (pc := 29) dX11_part_29 (F' := 0) (As := [vl w, vl 0, vl 6]) (st := []) cw_RX11_101 rfl rfl (Nat.le_of_ble_eq_true rfl) (by omega) (r_isIn  (wI m Ix1) w 0 6   ) ?_
      rintro _ _ ⟨x29, rfl, hx29, rfl⟩ ok29 le29
      refine V_if_ne (pc := 32) dX11_part_32 (tgt := 37) rfl (fun h32 => ?_) (fun h32 => ?_)
      · skip
        refine V_ld (pc := 37) dX11_part_37 (v := vi w) rfl rfl ?_
        refine V_if_ne (pc := 38) dX11_part_38 (tgt := 50) rfl (fun h38 => ?_) (fun h38 => ?_)
        · skip
          refine V_ld (pc := 50) dX11_part_50 (v := vi w) rfl rfl ?_
          refine V_iconst (pc := 51) dX11_part_51 (by unfold I32; omega) ?_
          refine V_icmp_ne (pc := 52) dX11_part_52 (tgt := 64) rfl (fun h52 => ?_) (fun h52 => ?_)
          · skip
            refine V_ld (pc := 64) dX11_part_64 (v := vi w) rfl rfl ?_
            refine V_iconst (pc := 65) dX11_part_65 (by unfold I32; omega) ?_
            refine V_icmp_ne (pc := 66) dX11_part_66 (tgt := 78) rfl (fun h66 => ?_) (fun h66 => ?_)
            · skip
              refine V_ld (pc := 78) dX11_part_78 (v := vi w) rfl rfl ?_
              refine V_iconst (pc := 79) dX11_part_79 (by unfold I32; omega) ?_
              refine V_icmp_ne (pc := 80) dX11_part_80 (tgt := 92) rfl (fun h80 => ?_) (fun h80 => ?_)
              · skip
                refine V_ld (pc := 92) dX11_part_92 (v := vi w) rfl rfl ?_
                refine V_iconst (pc := 93) dX11_part_93 (by unfold I32; omega) ?_
                refine V_icmp_ne (pc := 94) dX11_part_94 (tgt := 106) rfl (fun h94 => ?_) (fun h94 => ?_)
                · skip
                  refine V_ld (pc := 106) dX11_part_106 (v := vi w) rfl rfl ?_
                  refine V_iconst (pc := 107) dX11_part_107 (by unfold I32; omega) ?_
                  refine V_icmp_ne (pc := 108) dX11_part_108 (tgt := 120) rfl (fun h108 => ?_) (fun h108 => ?_)
                  · skip
                    refine V_ld (pc := 120) dX11_part_120 (v := vr 30) rfl rfl ?_
                    refine V_getRv (pc := 121) dX11_part_121 (o' := 43) fw_RX11_48 rfl hL.t30 hL.r30_18 ?_
                    refine V_ld (pc := 124) dX11_part_124 (v := vi p) rfl rfl ?_
                    refine V_ialdv (pc := 125) dX11_part_125 (v := mI (wI m Ix1) 43 p.toNat) hL.t43 (by omega) rfl (fun g125 => ?_)
                    refine V_reti (pc := 126) dX11_part_126 trivial ?_
                    refine ⟨mI (wI m Ix1), rfl, ?_, hF1⟩
                    first
                      | (exfalso; omega)
                      | (rw [if_pos (by omega)])
                      | (rw [if_neg (by omega), partV_n (by omega)])
                      | (rw [if_neg (by omega)]; exact RTab.pv (hRT (by omega)) (by omega) 0 (by omega) (by decide))
                      | (rw [if_neg (by omega)]; exact RTab.pv (hRT (by omega)) (by omega) 1 (by omega) (by decide))
                      | (rw [if_neg (by omega)]; exact RTab.pv (hRT (by omega)) (by omega) 2 (by omega) (by decide))
                      | (rw [if_neg (by omega)]; exact RTab.pv (hRT (by omega)) (by omega) 3 (by omega) (by decide))
                      | (rw [if_neg (by omega)]; exact RTab.pv (hRT (by omega)) (by omega) 4 (by omega) (by decide))
                      | (rw [if_neg (by omega)]; exact RTab.pv (hRT (by omega)) (by omega) 5 (by omega) (by decide))
                      | (rw [if_neg (by omega)]; exact RTab.pv (hRT (by omega)) (by omega) 6 (by omega) (by decide))
                  · skip
                    refine V_ld (pc := 111) dX11_part_111 (v := vr 30) rfl rfl ?_
                    refine V_getRv (pc := 112) dX11_part_112 (o' := 39) fw_RX11_36 rfl hL.t30 hL.r30_14 ?_
                    refine V_ld (pc := 115) dX11_part_115 (v := vi p) rfl rfl ?_
                    refine V_ialdv (pc := 116) dX11_part_116 (v := mI (wI m Ix1) 39 p.toNat) hL.t39 (by omega) rfl (fun g116 => ?_)
                    refine V_goto (pc := 117) dX11_part_117 (tgt := 126) rfl ?_
                    refine V_reti (pc := 126) dX11_part_126 trivial ?_
                    refine ⟨mI (wI m Ix1), rfl, ?_, hF1⟩
                    first
                      | (exfalso; omega)
                      | (rw [if_pos (by omega)])
                      | (rw [if_neg (by omega), partV_n (by omega)])
                      | (rw [if_neg (by omega)]; exact RTab.pv (hRT (by omega)) (by omega) 0 (by omega) (by decide))
                      | (rw [if_neg (by omega)]; exact RTab.pv (hRT (by omega)) (by omega) 1 (by omega) (by decide))
                      | (rw [if_neg (by omega)]; exact RTab.pv (hRT (by omega)) (by omega) 2 (by omega) (by decide))
                      | (rw [if_neg (by omega)]; exact RTab.pv (hRT (by omega)) (by omega) 3 (by omega) (by decide))
                      | (rw [if_neg (by omega)]; exact RTab.pv (hRT (by omega)) (by omega) 4 (by omega) (by decide))
                      | (rw [if_neg (by omega)]; exact RTab.pv (hRT (by omega)) (by omega) 5 (by omega) (by decide))
                      | (rw [if_neg (by omega)]; exact RTab.pv (hRT (by omega)) (by omega) 6 (by omega) (by decide))
                · skip
                  refine V_ld (pc := 97) dX11_part_97 (v := vr 30) rfl rfl ?_
                  refine V_getRv (pc := 98) dX11_part_98 (o' := 38) fw_RX11_33 rfl hL.t30 hL.r30_13 ?_
                  refine V_ld (pc := 101) dX11_part_101 (v := vi p) rfl rfl ?_
                  refine V_ialdv (pc := 102) dX11_part_102 (v := mI (wI m Ix1) 38 p.toNat) hL.t38 (by omega) rfl (fun g102 => ?_)
                  refine V_goto (pc := 103) dX11_part_103 (tgt := 126) rfl ?_
                  refine V_reti (pc := 126) dX11_part_126 trivial ?_
                  refine ⟨mI (wI m Ix1), rfl, ?_, hF1⟩
                  first
                    | (exfalso; omega)
                    | (rw [if_pos (by omega)])
                    | (rw [if_neg (by omega), partV_n (by omega)])
                    | (rw [if_neg (by omega)]; exact RTab.pv (hRT (by omega)) (by omega) 0 (by omega) (by decide))
                    | (rw [if_neg (by omega)]; exact RTab.pv (hRT (by omega)) (by omega) 1 (by omega) (by decide))
                    | (rw [if_neg (by omega)]; exact RTab.pv (hRT (by omega)) (by omega) 2 (by omega) (by decide))
                    | (rw [if_neg (by omega)]; exact RTab.pv (hRT (by omega)) (by omega) 3 (by omega) (by decide))
                    | (rw [if_neg (by omega)]; exact RTab.pv (hRT (by omega)) (by omega) 4 (by omega) (by decide))
                    | (rw [if_neg (by omega)]; exact RTab.pv (hRT (by omega)) (by omega) 5 (by omega) (by decide))
                    | (rw [if_neg (by omega)]; exact RTab.pv (hRT (by omega)) (by omega) 6 (by omega) (by decide))
              · skip
                refine V_ld (pc := 83) dX11_part_83 (v := vr 30) rfl rfl ?_
                refine V_getRv (pc := 84) dX11_part_84 (o' := 37) fw_RX11_30 rfl hL.t30 hL.r30_12 ?_
                refine V_ld (pc := 87) dX11_part_87 (v := vi p) rfl rfl ?_
                refine V_ialdv (pc := 88) dX11_part_88 (v := mI (wI m Ix1) 37 p.toNat) hL.t37 (by omega) rfl (fun g88 => ?_)
                refine V_goto (pc := 89) dX11_part_89 (tgt := 126) rfl ?_
                refine V_reti (pc := 126) dX11_part_126 trivial ?_
                refine ⟨mI (wI m Ix1), rfl, ?_, hF1⟩
                first
                  | (exfalso; omega)
                  | (rw [if_pos (by omega)])
                  | (rw [if_neg (by omega), partV_n (by omega)])
                  | (rw [if_neg (by omega)]; exact RTab.pv (hRT (by omega)) (by omega) 0 (by omega) (by decide))
                  | (rw [if_neg (by omega)]; exact RTab.pv (hRT (by omega)) (by omega) 1 (by omega) (by decide))
                  | (rw [if_neg (by omega)]; exact RTab.pv (hRT (by omega)) (by omega) 2 (by omega) (by decide))
                  | (rw [if_neg (by omega)]; exact RTab.pv (hRT (by omega)) (by omega) 3 (by omega) (by decide))
                  | (rw [if_neg (by omega)]; exact RTab.pv (hRT (by omega)) (by omega) 4 (by omega) (by decide))
                  | (rw [if_neg (by omega)]; exact RTab.pv (hRT (by omega)) (by omega) 5 (by omega) (by decide))
                  | (rw [if_neg (by omega)]; exact RTab.pv (hRT (by omega)) (by omega) 6 (by omega) (by decide))
            · skip
              refine V_ld (pc := 69) dX11_part_69 (v := vr 30) rfl rfl ?_
              refine V_getRv (pc := 70) dX11_part_70 (o' := 40) fw_RX11_39 rfl hL.t30 hL.r30_15 ?_
              refine V_ld (pc := 73) dX11_part_73 (v := vi p) rfl rfl ?_
              refine V_ialdv (pc := 74) dX11_part_74 (v := mI (wI m Ix1) 40 p.toNat) hL.t40 (by omega) rfl (fun g74 => ?_)
              refine V_goto (pc := 75) dX11_part_75 (tgt := 126) rfl ?_
              refine V_reti (pc := 126) dX11_part_126 trivial ?_
              refine ⟨mI (wI m Ix1), rfl, ?_, hF1⟩
              first
                | (exfalso; omega)
                | (rw [if_pos (by omega)])
                | (rw [if_neg (by omega), partV_n (by omega)])
                | (rw [if_neg (by omega)]; exact RTab.pv (hRT (by omega)) (by omega) 0 (by omega) (by decide))
                | (rw [if_neg (by omega)]; exact RTab.pv (hRT (by omega)) (by omega) 1 (by omega) (by decide))
                | (rw [if_neg (by omega)]; exact RTab.pv (hRT (by omega)) (by omega) 2 (by omega) (by decide))
                | (rw [if_neg (by omega)]; exact RTab.pv (hRT (by omega)) (by omega) 3 (by omega) (by decide))
                | (rw [if_neg (by omega)]; exact RTab.pv (hRT (by omega)) (by omega) 4 (by omega) (by decide))
                | (rw [if_neg (by omega)]; exact RTab.pv (hRT (by omega)) (by omega) 5 (by omega) (by decide))
                | (rw [if_neg (by omega)]; exact RTab.pv (hRT (by omega)) (by omega) 6 (by omega) (by decide))
          · skip
            refine V_ld (pc := 55) dX11_part_55 (v := vr 30) rfl rfl ?_
            refine V_getRv (pc := 56) dX11_part_56 (o' := 36) fw_RX11_27 rfl hL.t30 hL.r30_11 ?_
            refine V_ld (pc := 59) dX11_part_59 (v := vi p) rfl rfl ?_
            refine V_ialdv (pc := 60) dX11_part_60 (v := mI (wI m Ix1) 36 p.toNat) hL.t36 (by omega) rfl (fun g60 => ?_)
            refine V_goto (pc := 61) dX11_part_61 (tgt := 126) rfl ?_
            refine V_reti (pc := 126) dX11_part_126 trivial ?_
            refine ⟨mI (wI m Ix1), rfl, ?_, hF1⟩
            first
              | (exfalso; omega)
              | (rw [if_pos (by omega)])
              | (rw [if_neg (by omega), partV_n (by omega)])
              | (rw [if_neg (by omega)]; exact RTab.pv (hRT (by omega)) (by omega) 0 (by omega) (by decide))
              | (rw [if_neg (by omega)]; exact RTab.pv (hRT (by omega)) (by omega) 1 (by omega) (by decide))
              | (rw [if_neg (by omega)]; exact RTab.pv (hRT (by omega)) (by omega) 2 (by omega) (by decide))
              | (rw [if_neg (by omega)]; exact RTab.pv (hRT (by omega)) (by omega) 3 (by omega) (by decide))
              | (rw [if_neg (by omega)]; exact RTab.pv (hRT (by omega)) (by omega) 4 (by omega) (by decide))
              | (rw [if_neg (by omega)]; exact RTab.pv (hRT (by omega)) (by omega) 5 (by omega) (by decide))
              | (rw [if_neg (by omega)]; exact RTab.pv (hRT (by omega)) (by omega) 6 (by omega) (by decide))
        · skip
          refine V_ld (pc := 41) dX11_part_41 (v := vr 30) rfl rfl ?_
          refine V_getRv (pc := 42) dX11_part_42 (o' := 35) fw_RX11_24 rfl hL.t30 hL.r30_10 ?_
          refine V_ld (pc := 45) dX11_part_45 (v := vi p) rfl rfl ?_
          refine V_ialdv (pc := 46) dX11_part_46 (v := mI (wI m Ix1) 35 p.toNat) hL.t35 (by omega) rfl (fun g46 => ?_)
          refine V_goto (pc := 47) dX11_part_47 (tgt := 126) rfl ?_
          refine V_reti (pc := 126) dX11_part_126 trivial ?_
          refine ⟨mI (wI m Ix1), rfl, ?_, hF1⟩
          first
            | (exfalso; omega)
            | (rw [if_pos (by omega)])
            | (rw [if_neg (by omega), partV_n (by omega)])
            | (rw [if_neg (by omega)]; exact RTab.pv (hRT (by omega)) (by omega) 0 (by omega) (by decide))
            | (rw [if_neg (by omega)]; exact RTab.pv (hRT (by omega)) (by omega) 1 (by omega) (by decide))
            | (rw [if_neg (by omega)]; exact RTab.pv (hRT (by omega)) (by omega) 2 (by omega) (by decide))
            | (rw [if_neg (by omega)]; exact RTab.pv (hRT (by omega)) (by omega) 3 (by omega) (by decide))
            | (rw [if_neg (by omega)]; exact RTab.pv (hRT (by omega)) (by omega) 4 (by omega) (by decide))
            | (rw [if_neg (by omega)]; exact RTab.pv (hRT (by omega)) (by omega) 5 (by omega) (by decide))
            | (rw [if_neg (by omega)]; exact RTab.pv (hRT (by omega)) (by omega) 6 (by omega) (by decide))
      · skip
        refine V_iconst (pc := 35) dX11_part_35 (by unfold I32; omega) ?_
        refine V_reti (pc := 36) dX11_part_36 trivial ?_
        refine ⟨mI (wI m Ix1), rfl, ?_, hF1⟩
        first
          | (exfalso; omega)
          | (rw [if_pos (by omega)])
          | (rw [if_neg (by omega), partV_n (by omega)])
          | (rw [if_neg (by omega)]; exact RTab.pv (hRT (by omega)) (by omega) 0 (by omega) (by decide))
          | (rw [if_neg (by omega)]; exact RTab.pv (hRT (by omega)) (by omega) 1 (by omega) (by decide))
          | (rw [if_neg (by omega)]; exact RTab.pv (hRT (by omega)) (by omega) 2 (by omega) (by decide))
          | (rw [if_neg (by omega)]; exact RTab.pv (hRT (by omega)) (by omega) 3 (by omega) (by decide))
          | (rw [if_neg (by omega)]; exact RTab.pv (hRT (by omega)) (by omega) 4 (by omega) (by decide))
          | (rw [if_neg (by omega)]; exact RTab.pv (hRT (by omega)) (by omega) 5 (by omega) (by decide))
          | (rw [if_neg (by omega)]; exact RTab.pv (hRT (by omega)) (by omega) 6 (by omega) (by decide))
