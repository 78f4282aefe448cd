/-! the reference searches: repetitions, parts in any order -/
set_option maxHeartbeats 4000000 in
theorem y_once (I0 : Nat → Nat → Int) (F : Tb) (c : Nat) (n : Int) (may : Int) (hcn : Nat → CEnv → Int) (cl : Nat → Int) (J : SJ) (m : Mem) (k : Int)   (hL : Lay (mT m) (mR m)) (hS : RB I0 F c n may hcn cl) (hZ : RZ I0 (mI m) F J) (hk4 : mI m 30 44 = 0 ∧ mI m 30 45 = 0) (hp : 0 ≤ J.1 3 ∧ J.1 3 < 5030 ∧ 0 ≤ J.1 7 ∧ J.1 7 < (c : Int) ∧ -1 ≤ J.1 8 ∧ J.1 8 ≤ 5030 ∧ 0 ≤ J.1 9 ∧ J.1 9 ≤ 32) (hs : F (J.1 7).toNat 0 = 5 ∧ 0 ≤ k ∧ k ≤ 5000 ∧ c ≤ 240) : Ct μX11_once 1 [vr 30, vi (J.1 7), vi k, vi (J.1 8)] m (rv fun m' => ∃ I_ : Nat → Nat → Int, wI m I_ = m' ∧ RO I0 I_ F (onceA F J k)) := by
  refine Ct_of_V rfl (by decide) rfl (Nat.le_of_ble_eq_true rfl) ?_
  show V μX11_once 1 m _ 0 [(0, vr 30), (1, vi (J.1 7)), (2, vi k), (3, vi (J.1 8))] [] m
  refine V_rg (k := 1) (x := J.1 7) rfl fun r_1 => ?_
  refine V_rg (k := 2) (x := k) rfl fun r_k => ?_
  refine V_rg (k := 3) (x := J.1 8) rfl fun r_3 => ?_
  refine V_ld (pc := 0) dX11_once_0 (v := vr 30) rfl rfl ?_
  refine V_ld (pc := 1) dX11_once_1 (v := vi (J.1 7)) rfl rfl ?_
  refine V_ld (pc := 2) dX11_once_2 (v := vi k) rfl rfl ?_
  refine V_iconst (pc := 3) dX11_once_3 (by unfold I32; omega) ?_
  refine V_iadd (pc := 4) dX11_once_4 (by unfold I32 at *; omega) ?_
  refine V_ld (pc := 5) dX11_once_5 (v := vr 30) rfl rfl ?_
  refine V_getIv (pc := 6) dX11_once_6 (v := (J.1 9)) fw_RX11_279 rfl hL.t30 (hZ).2.1.2.2.2.1 (fun g6 => ?_)
  refine V_ld (pc := 9) dX11_once_9 (v := vi (J.1 8)) rfl rfl ?_
  refine V_callV (pc := 10) dX11_once_10 (F' := 0) (As := [vi (J.1 7), vi (k + 1), vi (J.1 9), vi (J.1 8)]) (st := []) cw_RX11_288 rfl rfl hL.t30 (by decide) (Nat.le_of_ble_eq_true rfl) (by omega) (y_tells (J.1 3) m (J.1 7) (k + 1) (J.1 9) (J.1 8)   (by first | assumption | omega) ⟨(hZ).2.1.1, by omega, by omega⟩ (by omega)) ?_
  rintro _ _ ⟨x10, rfl, hx10, rfl⟩ ok10 le10
  subst hx10
  refine V_st (pc := 13) dX11_once_13 (ls' := [(4, vi (J.1 3)), (0, vr 30), (1, vi (J.1 7)), (2, vi k), (3, vi (J.1 8))]) rfl (Nat.le_of_ble_eq_true rfl) rfl ?_
  refine V_ld (pc := 15) dX11_once_15 (v := vr 30) rfl rfl ?_
  refine V_ld (pc := 16) dX11_once_16 (v := vr 30) rfl rfl ?_
  refine V_getRv (pc := 17) dX11_once_17 (o' := 41) fw_RX11_42 rfl hL.t30 hL.r30_16 ?_
  refine V_ld (pc := 20) dX11_once_20 (v := vi (J.1 7)) rfl rfl ?_
  refine V_ialdv (pc := 21) dX11_once_21 (v := (F (J.1 7).toNat 7)) hL.t41 (by omega) (RFz.at (w := 7) hS (RZ.f (RZ.tl (J := J) (far := (k + 1)) hZ (show 0 ≤ (J.1 3) by omega) ⟨by omega, by omega⟩ (fun _ => rfl) rfl)) ⟨hp.2.2.1, hp.2.2.2.1⟩ (by decide)) (fun g21 => ?_)
  refine V_ld (pc := 22) dX11_once_22 (v := vi (J.1 3)) rfl rfl ?_
  refine V_callV (pc := 24) dX11_once_24 (F' := 0) (As := [vi (F (J.1 7).toNat 7), vi (J.1 3)]) (st := []) cw_RX11_292 rfl rfl hL.t30 (by decide) (Nat.le_of_ble_eq_true rfl) (by omega) (y_goes  (setI (setI (setI m 49 (J.1 3).toNat ((k + 1) * 64 + (J.1 9))) 50 (J.1 3).toNat ((J.1 7) * 8192 + (J.1 8) + 1)) 30 33 ((J.1 3) + 1)) (F (J.1 7).toNat 7) (J.1 3)   (by first | assumption | omega)) ?_
  rintro _ _ ⟨rfl, rfl⟩ ok24 le24
  refine V_retv (pc := 27) dX11_once_27 trivial ?_
  exact ⟨mI (setI (setI (setI (setI (setI m 49 (J.1 3).toNat ((k + 1) * 64 + (J.1 9))) 50 (J.1 3).toNat ((J.1 7) * 8192 + (J.1 8) + 1)) 30 33 ((J.1 3) + 1)) 30 46 (F (J.1 7).toNat 7)) 30 47 (J.1 3)), rfl, RO.cm (RZ.s78 (J := (pushF F J (k + 1))) (k := 7) (v := (F (J.1 7).toNat 7)) (RZ.tl (J := J) (far := (k + 1)) hZ (show 0 ≤ (J.1 3) by omega) ⟨by omega, by omega⟩ (fun _ => rfl) rfl) (Or.inl rfl)) hk4.1 hk4.2 rfl rfl⟩

set_option maxHeartbeats 8000000 in
theorem y_repetition (I0 : Nat → Nat → Int) (F : Tb) (c : Nat) (n : Int) (may : Int) (hcn : Nat → CEnv → Int) (cl : Nat → Int) (J : SJ) (bb : Int) (m : Mem) (k : Int) (bg : Int)   (hL : Lay (mT m) (mR m)) (hS : RB I0 F c n may hcn cl) (hZ : RZ I0 (mI m) F J) (hk4 : mI m 30 44 = 0 ∧ mI m 30 45 = 0) (hp : 0 ≤ J.1 3 ∧ J.1 3 < 5030 ∧ 0 ≤ J.1 7 ∧ J.1 7 < (c : Int) ∧ -1 ≤ J.1 8 ∧ J.1 8 ≤ 5030 ∧ 0 ≤ J.1 9 ∧ J.1 9 ≤ 32) (hs : F (J.1 7).toNat 0 = 5 ∧ 0 ≤ k ∧ k ≤ J.1 10 ∧ 0 ≤ J.1 5 ∧ J.1 5 ≤ J.1 10 ∧ J.1 10 ≤ may ∧ may ≤ 5000 ∧ c ≤ 240) (hb : F (J.1 7).toNat 3 < k → bg = bb) : Ct μX11_repetition 2 [vr 30, vi (J.1 7), vi k, vi bg, vi (J.1 8)] m (rv fun m' => ∃ I_ : Nat → Nat → Int, wI m I_ = m' ∧ RO I0 I_ F (repT F may J k bb)) := by
  refine Ct_of_V rfl (by decide) rfl (Nat.le_of_ble_eq_true rfl) ?_
  show V μX11_repetition 2 m _ 0 [(0, vr 30), (1, vi (J.1 7)), (2, vi k), (3, vi bg), (4, vi (J.1 8))] [] m
  refine V_rg (k := 1) (x := J.1 7) rfl fun r_1 => ?_
  refine V_rg (k := 2) (x := k) rfl fun r_k => ?_
  refine V_rg (k := 3) (x := bg) rfl fun r_bg => ?_
  refine V_rg (k := 4) (x := J.1 8) rfl fun r_4 => ?_
  refine V_ld (pc := 0) dX11_repetition_0 (v := vr 30) rfl rfl ?_
  refine V_callV (pc := 1) dX11_repetition_1 (F' := 0) (As := []) (st := []) cw_RX11_296 rfl rfl hL.t30 (by decide) (Nat.le_of_ble_eq_true rfl) (by omega) (y_isTry (J.1 10) may m    (by first | assumption | omega) ⟨(hZ).2.1.2.2.2.2.1, by omega, by omega⟩ (RFz.gm hS (RZ.f hZ))) ?_
  rintro _ _ ⟨x1, rfl, (⟨hc1, hx1, rfl⟩ | ⟨hc1, hx1, rfl⟩)⟩ ok1 le1
  · skip
    subst hx1
    refine V_if_ne (pc := 4) dX11_repetition_4 (tgt := 8) rfl (fun h_ => absurd h_ (by decide)) (fun _ => ?_)
    refine V_retv (pc := 7) dX11_repetition_7 trivial ?_
    first
      | (exfalso; omega)
      | (refine ⟨mI (setI m 30 44 1), rfl, ?_⟩
         rw [repT_o (by omega)]
         exact RO.ov hZ)
  · skip
    subst hx1
    refine V_if_ne (pc := 4) dX11_repetition_4 (tgt := 8) rfl (fun _ => ?_) (fun h_ => absurd h_ (by decide))
    refine V_ld (pc := 8) dX11_repetition_8 (v := vi k) rfl rfl ?_
    refine V_ld (pc := 9) dX11_repetition_9 (v := vr 30) rfl rfl ?_
    refine V_getRv (pc := 10) dX11_repetition_10 (o' := 37) fw_RX11_30 rfl hL.t30 hL.r30_12 ?_
    refine V_ld (pc := 13) dX11_repetition_13 (v := vi (J.1 7)) rfl rfl ?_
    refine V_ialdv (pc := 14) dX11_repetition_14 (v := (F (J.1 7).toNat 3)) hL.t37 (by omega) (RFz.at (w := 3) hS (RZ.f (RZ.set (J := J) (q := 39) (k := 10) (v := (J.1 10) + 1) hZ (Or.inr ⟨rfl, rfl⟩))) ⟨hp.2.2.1, hp.2.2.2.1⟩ (by decide)) (fun g14 => ?_)
    refine V_icmp_le (pc := 15) dX11_repetition_15 (tgt := 34) rfl (fun h15 => ?_) (fun h15 => ?_)
    · skip
      refine V_ld (pc := 34) dX11_repetition_34 (v := vi k) rfl rfl ?_
      refine V_ld (pc := 35) dX11_repetition_35 (v := vr 30) rfl rfl ?_
      refine V_getRv (pc := 36) dX11_repetition_36 (o' := 37) fw_RX11_30 rfl hL.t30 hL.r30_12 ?_
      refine V_ld (pc := 39) dX11_repetition_39 (v := vi (J.1 7)) rfl rfl ?_
      refine V_ialdv (pc := 40) dX11_repetition_40 (v := (F (J.1 7).toNat 3)) hL.t37 (by omega) (RFz.at (w := 3) hS (RZ.f (RZ.set (J := J) (q := 39) (k := 10) (v := (J.1 10) + 1) hZ (Or.inr ⟨rfl, rfl⟩))) ⟨hp.2.2.1, hp.2.2.2.1⟩ (by decide)) (fun g40 => ?_)
      refine V_icmp_ge (pc := 41) dX11_repetition_41 (tgt := 55) rfl (fun h41 => ?_) (fun h41 => ?_)
      · skip
        refine V_ld (pc := 55) dX11_repetition_55 (v := vi k) rfl rfl ?_
        refine V_ld (pc := 56) dX11_repetition_56 (v := vr 30) rfl rfl ?_
        refine V_getRv (pc := 57) dX11_repetition_57 (o' := 38) fw_RX11_33 rfl hL.t30 hL.r30_13 ?_
        refine V_ld (pc := 60) dX11_repetition_60 (v := vi (J.1 7)) rfl rfl ?_
        refine V_ialdv (pc := 61) dX11_repetition_61 (v := (F (J.1 7).toNat 4)) hL.t38 (by omega) (RFz.at (w := 4) hS (RZ.f (RZ.set (J := J) (q := 39) (k := 10) (v := (J.1 10) + 1) hZ (Or.inr ⟨rfl, rfl⟩))) ⟨hp.2.2.1, hp.2.2.2.1⟩ (by decide)) (fun g61 => ?_)
        refine V_icmp_ne (pc := 62) dX11_repetition_62 (tgt := 86) rfl (fun h62 => ?_) (fun h62 => ?_)
        · skip
          refine V_ld (pc := 86) dX11_repetition_86 (v := vr 30) rfl rfl ?_
          refine V_getRv (pc := 87) dX11_repetition_87 (o' := 39) fw_RX11_36 rfl hL.t30 hL.r30_14 ?_
          refine V_ld (pc := 90) dX11_repetition_90 (v := vi (J.1 7)) rfl rfl ?_
          refine V_ialdv (pc := 91) dX11_repetition_91 (v := (F (J.1 7).toNat 5)) hL.t39 (by omega) (RFz.at (w := 5) hS (RZ.f (RZ.set (J := J) (q := 39) (k := 10) (v := (J.1 10) + 1) hZ (Or.inr ⟨rfl, rfl⟩))) ⟨hp.2.2.1, hp.2.2.2.1⟩ (by decide)) (fun g91 => ?_)
          refine V_iconst (pc := 92) dX11_repetition_92 (by unfold I32; omega) ?_
          refine V_icmp_ne (pc := 93) dX11_repetition_93 (tgt := 115) rfl (fun h93 => ?_) (fun h93 => ?_)
          · skip
            refine V_ld (pc := 115) dX11_repetition_115 (v := vr 30) rfl rfl ?_
            refine V_ld (pc := 116) dX11_repetition_116 (v := vi (J.1 7)) rfl rfl ?_
            refine V_ld (pc := 117) dX11_repetition_117 (v := vi k) rfl rfl ?_
            refine V_ld (pc := 118) dX11_repetition_118 (v := vi (J.1 8)) rfl rfl ?_
            refine V_callV (pc := 120) dX11_repetition_120 (F' := 0) (As := [vi (J.1 7), vi k, vi (J.1 8)]) (st := []) cw_RX11_306 rfl rfl hL.t30 (by decide) (Nat.le_of_ble_eq_true rfl) (by omega) (y_leaves (J.1 3) (J.1 5) (J.1 9) (setI m 30 39 ((J.1 10) + 1)) (J.1 7) k (J.1 8)   (by first | assumption | omega) ⟨((RZ.set (J := J) (q := 39) (k := 10) (v := (J.1 10) + 1) hZ (Or.inr ⟨rfl, rfl⟩))).2.1.1, by omega, by omega⟩ ⟨((RZ.set (J := J) (q := 39) (k := 10) (v := (J.1 10) + 1) hZ (Or.inr ⟨rfl, rfl⟩))).2.1.2.1, by omega, by omega⟩ ((RZ.set (J := J) (q := 39) (k := 10) (v := (J.1 10) + 1) hZ (Or.inr ⟨rfl, rfl⟩))).2.1.2.2.2.1 (by omega)) ?_
            rintro _ _ ⟨rfl, rfl⟩ ok120 le120
            refine V_ld (pc := 123) dX11_repetition_123 (v := vr 30) rfl rfl ?_
            refine V_iconst (pc := 124) dX11_repetition_124 (by unfold I32; omega) ?_
            refine V_ld (pc := 125) dX11_repetition_125 (v := vi (J.1 8)) rfl rfl ?_
            refine V_callV (pc := 127) dX11_repetition_127 (F' := 0) (As := [vi (-1), vi (J.1 8)]) (st := []) cw_RX11_292 rfl rfl hL.t30 (by decide) (Nat.le_of_ble_eq_true rfl) (by omega) (y_goes  (setI (setI (setI (setI (setI (setI m 30 39 ((J.1 10) + 1)) 51 (J.1 5).toNat (J.1 7)) 52 (J.1 5).toNat k) 53 (J.1 5).toNat (((J.1 8) + 1) * 8192 + (J.1 3))) 54 (J.1 5).toNat (J.1 9)) 30 38 ((J.1 5) + 1)) (-1) (J.1 8)   (by first | assumption | omega)) ?_
            rintro _ _ ⟨rfl, rfl⟩ ok127 le127
            refine V_retv (pc := 130) dX11_repetition_130 trivial ?_
            first
              | (exfalso; omega)
              | (refine ⟨mI (setI (setI (setI (setI (setI (setI (setI (setI m 30 39 ((J.1 10) + 1)) 51 (J.1 5).toNat (J.1 7)) 52 (J.1 5).toNat k) 53 (J.1 5).toNat (((J.1 8) + 1) * 8192 + (J.1 3))) 54 (J.1 5).toNat (J.1 9)) 30 38 ((J.1 5) + 1)) 30 46 (-1)) 30 47 (J.1 8)), rfl, ?_⟩
                 rw [repT_l (by omega) (by omega) (by omega)]
                 exact RO.dn (RZ.lv (J := (tryJ J)) (far := k) (RZ.set (J := J) (q := 39) (k := 10) (v := (J.1 10) + 1) hZ (Or.inr ⟨rfl, rfl⟩)) (show 0 ≤ (J.1 5) by omega) (LfR.o (show F (J.1 7).toNat 0 ≠ 6 by omega) rfl)) hk4.1 hk4.2 rfl)
              | (refine ⟨mI (setI (setI (setI (setI (setI (setI (setI (setI m 30 39 ((J.1 10) + 1)) 51 (J.1 5).toNat (J.1 7)) 52 (J.1 5).toNat k) 53 (J.1 5).toNat (((J.1 8) + 1) * 8192 + (J.1 3))) 54 (J.1 5).toNat (J.1 9)) 30 38 ((J.1 5) + 1)) 30 46 (-1)) 30 47 (J.1 8)), rfl, ?_⟩
                 rw [repT_d (by omega) (by omega) (by omega) (by omega)]
                 exact RO.dn (RZ.lv (J := (tryJ J)) (far := k) (RZ.set (J := J) (q := 39) (k := 10) (v := (J.1 10) + 1) hZ (Or.inr ⟨rfl, rfl⟩)) (show 0 ≤ (J.1 5) by omega) (LfR.o (show F (J.1 7).toNat 0 ≠ 6 by omega) rfl)) hk4.1 hk4.2 rfl)
              | (refine ⟨mI (setI (setI (setI (setI (setI (setI (setI (setI m 30 39 ((J.1 10) + 1)) 51 (J.1 5).toNat (J.1 7)) 52 (J.1 5).toNat k) 53 (J.1 5).toNat (((J.1 8) + 1) * 8192 + (J.1 3))) 54 (J.1 5).toNat (J.1 9)) 30 38 ((J.1 5) + 1)) 30 46 (-1)) 30 47 (J.1 8)), rfl, ?_⟩
                 rw [repT_m (by omega) (by omega) (by omega) (by omega) (by omega)]
                 exact RO.dn (RZ.lv (J := (tryJ J)) (far := k) (RZ.set (J := J) (q := 39) (k := 10) (v := (J.1 10) + 1) hZ (Or.inr ⟨rfl, rfl⟩)) (show 0 ≤ (J.1 5) by omega) (LfR.o (show F (J.1 7).toNat 0 ≠ 6 by omega) rfl)) hk4.1 hk4.2 rfl)
              | (refine ⟨mI (setI (setI (setI (setI (setI (setI (setI (setI m 30 39 ((J.1 10) + 1)) 51 (J.1 5).toNat (J.1 7)) 52 (J.1 5).toNat k) 53 (J.1 5).toNat (((J.1 8) + 1) * 8192 + (J.1 3))) 54 (J.1 5).toNat (J.1 9)) 30 38 ((J.1 5) + 1)) 30 46 (-1)) 30 47 (J.1 8)), rfl, ?_⟩
                 rw [repT_s (by omega) (by omega) (by omega) (by omega) (by omega)]
                 exact RO.dn (RZ.lv (J := (tryJ J)) (far := k) (RZ.set (J := J) (q := 39) (k := 10) (v := (J.1 10) + 1) hZ (Or.inr ⟨rfl, rfl⟩)) (show 0 ≤ (J.1 5) by omega) (LfR.o (show F (J.1 7).toNat 0 ≠ 6 by omega) rfl)) hk4.1 hk4.2 rfl)
          · skip
            refine V_ld (pc := 96) dX11_repetition_96 (v := vr 30) rfl rfl ?_
            refine V_ld (pc := 97) dX11_repetition_97 (v := vi (J.1 7)) rfl rfl ?_
            refine V_ld (pc := 98) dX11_repetition_98 (v := vi k) rfl rfl ?_
            refine V_ld (pc := 99) dX11_repetition_99 (v := vi (J.1 8)) rfl rfl ?_
            refine V_callV (pc := 101) dX11_repetition_101 (F' := 0) (As := [vi (J.1 7), vi k, vi (J.1 8)]) (st := []) cw_RX11_306 rfl rfl hL.t30 (by decide) (Nat.le_of_ble_eq_true rfl) (by omega) (y_leaves (J.1 3) (J.1 5) (J.1 9) (setI m 30 39 ((J.1 10) + 1)) (J.1 7) k (J.1 8)   (by first | assumption | omega) ⟨((RZ.set (J := J) (q := 39) (k := 10) (v := (J.1 10) + 1) hZ (Or.inr ⟨rfl, rfl⟩))).2.1.1, by omega, by omega⟩ ⟨((RZ.set (J := J) (q := 39) (k := 10) (v := (J.1 10) + 1) hZ (Or.inr ⟨rfl, rfl⟩))).2.1.2.1, by omega, by omega⟩ ((RZ.set (J := J) (q := 39) (k := 10) (v := (J.1 10) + 1) hZ (Or.inr ⟨rfl, rfl⟩))).2.1.2.2.2.1 (by omega)) ?_
            rintro _ _ ⟨rfl, rfl⟩ ok101 le101
            refine V_ld (pc := 104) dX11_repetition_104 (v := vr 30) rfl rfl ?_
            refine V_ld (pc := 105) dX11_repetition_105 (v := vi (J.1 7)) rfl rfl ?_
            refine V_ld (pc := 106) dX11_repetition_106 (v := vi k) rfl rfl ?_
            refine V_ld (pc := 107) dX11_repetition_107 (v := vi (J.1 8)) rfl rfl ?_
            refine V_callV (pc := 109) dX11_repetition_109 (F' := 1) (As := [vi ((pushO (tryJ J) k).1 7), vi k, vi ((pushO (tryJ J) k).1 8)]) (st := []) cw_RX11_302 rfl rfl hL.t30 (by decide) (Nat.le_of_ble_eq_true rfl) (by omega) (y_once I0 F c n may hcn cl (pushO (tryJ J) k) (setI (setI (setI (setI (setI (setI m 30 39 ((J.1 10) + 1)) 51 (J.1 5).toNat (J.1 7)) 52 (J.1 5).toNat k) 53 (J.1 5).toNat (((J.1 8) + 1) * 8192 + (J.1 3))) 54 (J.1 5).toNat (J.1 9)) 30 38 ((J.1 5) + 1)) k   (by first | assumption | omega) hS (RZ.lv (J := (tryJ J)) (far := k) (RZ.set (J := J) (q := 39) (k := 10) (v := (J.1 10) + 1) hZ (Or.inr ⟨rfl, rfl⟩)) (show 0 ≤ (J.1 5) by omega) (LfR.o (show F (J.1 7).toNat 0 ≠ 6 by omega) rfl)) ⟨hk4.1, hk4.2⟩ (show 0 ≤ J.1 3 ∧ J.1 3 < 5030 ∧ 0 ≤ J.1 7 ∧ J.1 7 < (c : Int) ∧ -1 ≤ J.1 8 ∧ J.1 8 ≤ 5030 ∧ 0 ≤ J.1 9 ∧ J.1 9 ≤ 32 from hp) (show F (J.1 7).toNat 0 = 5 ∧ 0 ≤ k ∧ k ≤ 5000 ∧ c ≤ 240 from by omega)) ?_
            rintro _ _ ⟨rfl, Ix109, rfl, hm109⟩ ok109 le109
            refine V_goto (pc := 112) dX11_repetition_112 (tgt := 130) rfl ?_
            refine V_retv (pc := 130) dX11_repetition_130 trivial ?_
            first
              | (exfalso; omega)
              | (refine ⟨mI (wI (setI (setI (setI (setI (setI (setI m 30 39 ((J.1 10) + 1)) 51 (J.1 5).toNat (J.1 7)) 52 (J.1 5).toNat k) 53 (J.1 5).toNat (((J.1 8) + 1) * 8192 + (J.1 3))) 54 (J.1 5).toNat (J.1 9)) 30 38 ((J.1 5) + 1)) Ix109), rfl, ?_⟩
                 rw [repT_l (by omega) (by omega) (by omega)]
                 exact hm109)
              | (refine ⟨mI (wI (setI (setI (setI (setI (setI (setI m 30 39 ((J.1 10) + 1)) 51 (J.1 5).toNat (J.1 7)) 52 (J.1 5).toNat k) 53 (J.1 5).toNat (((J.1 8) + 1) * 8192 + (J.1 3))) 54 (J.1 5).toNat (J.1 9)) 30 38 ((J.1 5) + 1)) Ix109), rfl, ?_⟩
                 rw [repT_d (by omega) (by omega) (by omega) (by omega)]
                 exact hm109)
              | (refine ⟨mI (wI (setI (setI (setI (setI (setI (setI m 30 39 ((J.1 10) + 1)) 51 (J.1 5).toNat (J.1 7)) 52 (J.1 5).toNat k) 53 (J.1 5).toNat (((J.1 8) + 1) * 8192 + (J.1 3))) 54 (J.1 5).toNat (J.1 9)) 30 38 ((J.1 5) + 1)) Ix109), rfl, ?_⟩
                 rw [repT_m (by omega) (by omega) (by omega) (by omega) (by omega)]
                 exact hm109)
              | (refine ⟨mI (wI (setI (setI (setI (setI (setI (setI m 30 39 ((J.1 10) + 1)) 51 (J.1 5).toNat (J.1 7)) 52 (J.1 5).toNat k) 53 (J.1 5).toNat (((J.1 8) + 1) * 8192 + (J.1 3))) 54 (J.1 5).toNat (J.1 9)) 30 38 ((J.1 5) + 1)) Ix109), rfl, ?_⟩
                 rw [repT_s (by omega) (by omega) (by omega) (by omega) (by omega)]
                 exact hm109)
        · skip
          refine V_ld (pc := 65) dX11_repetition_65 (v := vr 30) rfl rfl ?_
          refine V_getRv (pc := 66) dX11_repetition_66 (o' := 38) fw_RX11_33 rfl hL.t30 hL.r30_13 ?_
          refine V_ld (pc := 69) dX11_repetition_69 (v := vi (J.1 7)) rfl rfl ?_
          refine V_ialdv (pc := 70) dX11_repetition_70 (v := (F (J.1 7).toNat 4)) hL.t38 (by omega) (RFz.at (w := 4) hS (RZ.f (RZ.set (J := J) (q := 39) (k := 10) (v := (J.1 10) + 1) hZ (Or.inr ⟨rfl, rfl⟩))) ⟨hp.2.2.1, hp.2.2.2.1⟩ (by decide)) (fun g70 => ?_)
          refine V_bipush (pc := 71) dX11_repetition_71 (by unfold I32; omega) (by decide) ?_
          refine V_icmp_eq (pc := 73) dX11_repetition_73 (tgt := 86) rfl (fun h73 => ?_) (fun h73 => ?_)
          · skip
            refine V_ld (pc := 86) dX11_repetition_86 (v := vr 30) rfl rfl ?_
            refine V_getRv (pc := 87) dX11_repetition_87 (o' := 39) fw_RX11_36 rfl hL.t30 hL.r30_14 ?_
            refine V_ld (pc := 90) dX11_repetition_90 (v := vi (J.1 7)) rfl rfl ?_
            refine V_ialdv (pc := 91) dX11_repetition_91 (v := (F (J.1 7).toNat 5)) hL.t39 (by omega) (RFz.at (w := 5) hS (RZ.f (RZ.set (J := J) (q := 39) (k := 10) (v := (J.1 10) + 1) hZ (Or.inr ⟨rfl, rfl⟩))) ⟨hp.2.2.1, hp.2.2.2.1⟩ (by decide)) (fun g91 => ?_)
            refine V_iconst (pc := 92) dX11_repetition_92 (by unfold I32; omega) ?_
            refine V_icmp_ne (pc := 93) dX11_repetition_93 (tgt := 115) rfl (fun h93 => ?_) (fun h93 => ?_)
            · skip
              refine V_ld (pc := 115) dX11_repetition_115 (v := vr 30) rfl rfl ?_
              refine V_ld (pc := 116) dX11_repetition_116 (v := vi (J.1 7)) rfl rfl ?_
              refine V_ld (pc := 117) dX11_repetition_117 (v := vi k) rfl rfl ?_
              refine V_ld (pc := 118) dX11_repetition_118 (v := vi (J.1 8)) rfl rfl ?_
              refine V_callV (pc := 120) dX11_repetition_120 (F' := 0) (As := [vi (J.1 7), vi k, vi (J.1 8)]) (st := []) cw_RX11_306 rfl rfl hL.t30 (by decide) (Nat.le_of_ble_eq_true rfl) (by omega) (y_leaves (J.1 3) (J.1 5) (J.1 9) (setI m 30 39 ((J.1 10) + 1)) (J.1 7) k (J.1 8)   (by first | assumption | omega) ⟨((RZ.set (J := J) (q := 39) (k := 10) (v := (J.1 10) + 1) hZ (Or.inr ⟨rfl, rfl⟩))).2.1.1, by omega, by omega⟩ ⟨((RZ.set (J := J) (q := 39) (k := 10) (v := (J.1 10) + 1) hZ (Or.inr ⟨rfl, rfl⟩))).2.1.2.1, by omega, by omega⟩ ((RZ.set (J := J) (q := 39) (k := 10) (v := (J.1 10) + 1) hZ (Or.inr ⟨rfl, rfl⟩))).2.1.2.2.2.1 (by omega)) ?_
              rintro _ _ ⟨rfl, rfl⟩ ok120 le120
              refine V_ld (pc := 123) dX11_repetition_123 (v := vr 30) rfl rfl ?_
              refine V_iconst (pc := 124) dX11_repetition_124 (by unfold I32; omega) ?_
              refine V_ld (pc := 125) dX11_repetition_125 (v := vi (J.1 8)) rfl rfl ?_
              refine V_callV (pc := 127) dX11_repetition_127 (F' := 0) (As := [vi (-1), vi (J.1 8)]) (st := []) cw_RX11_292 rfl rfl hL.t30 (by decide) (Nat.le_of_ble_eq_true rfl) (by omega) (y_goes  (setI (setI (setI (setI (setI (setI m 30 39 ((J.1 10) + 1)) 51 (J.1 5).toNat (J.1 7)) 52 (J.1 5).toNat k) 53 (J.1 5).toNat (((J.1 8) + 1) * 8192 + (J.1 3))) 54 (J.1 5).toNat (J.1 9)) 30 38 ((J.1 5) + 1)) (-1) (J.1 8)   (by first | assumption | omega)) ?_
              rintro _ _ ⟨rfl, rfl⟩ ok127 le127
              refine V_retv (pc := 130) dX11_repetition_130 trivial ?_
              first
                | (exfalso; omega)
                | (refine ⟨mI (setI (setI (setI (setI (setI (setI (setI (setI m 30 39 ((J.1 10) + 1)) 51 (J.1 5).toNat (J.1 7)) 52 (J.1 5).toNat k) 53 (J.1 5).toNat (((J.1 8) + 1) * 8192 + (J.1 3))) 54 (J.1 5).toNat (J.1 9)) 30 38 ((J.1 5) + 1)) 30 46 (-1)) 30 47 (J.1 8)), rfl, ?_⟩
                   rw [repT_l (by omega) (by omega) (by omega)]
                   exact RO.dn (RZ.lv (J := (tryJ J)) (far := k) (RZ.set (J := J) (q := 39) (k := 10) (v := (J.1 10) + 1) hZ (Or.inr ⟨rfl, rfl⟩)) (show 0 ≤ (J.1 5) by omega) (LfR.o (show F (J.1 7).toNat 0 ≠ 6 by omega) rfl)) hk4.1 hk4.2 rfl)
                | (refine ⟨mI (setI (setI (setI (setI (setI (setI (setI (setI m 30 39 ((J.1 10) + 1)) 51 (J.1 5).toNat (J.1 7)) 52 (J.1 5).toNat k) 53 (J.1 5).toNat (((J.1 8) + 1) * 8192 + (J.1 3))) 54 (J.1 5).toNat (J.1 9)) 30 38 ((J.1 5) + 1)) 30 46 (-1)) 30 47 (J.1 8)), rfl, ?_⟩
                   rw [repT_d (by omega) (by omega) (by omega) (by omega)]
                   exact RO.dn (RZ.lv (J := (tryJ J)) (far := k) (RZ.set (J := J) (q := 39) (k := 10) (v := (J.1 10) + 1) hZ (Or.inr ⟨rfl, rfl⟩)) (show 0 ≤ (J.1 5) by omega) (LfR.o (show F (J.1 7).toNat 0 ≠ 6 by omega) rfl)) hk4.1 hk4.2 rfl)
                | (refine ⟨mI (setI (setI (setI (setI (setI (setI (setI (setI m 30 39 ((J.1 10) + 1)) 51 (J.1 5).toNat (J.1 7)) 52 (J.1 5).toNat k) 53 (J.1 5).toNat (((J.1 8) + 1) * 8192 + (J.1 3))) 54 (J.1 5).toNat (J.1 9)) 30 38 ((J.1 5) + 1)) 30 46 (-1)) 30 47 (J.1 8)), rfl, ?_⟩
                   rw [repT_m (by omega) (by omega) (by omega) (by omega) (by omega)]
                   exact RO.dn (RZ.lv (J := (tryJ J)) (far := k) (RZ.set (J := J) (q := 39) (k := 10) (v := (J.1 10) + 1) hZ (Or.inr ⟨rfl, rfl⟩)) (show 0 ≤ (J.1 5) by omega) (LfR.o (show F (J.1 7).toNat 0 ≠ 6 by omega) rfl)) hk4.1 hk4.2 rfl)
                | (refine ⟨mI (setI (setI (setI (setI (setI (setI (setI (setI m 30 39 ((J.1 10) + 1)) 51 (J.1 5).toNat (J.1 7)) 52 (J.1 5).toNat k) 53 (J.1 5).toNat (((J.1 8) + 1) * 8192 + (J.1 3))) 54 (J.1 5).toNat (J.1 9)) 30 38 ((J.1 5) + 1)) 30 46 (-1)) 30 47 (J.1 8)), rfl, ?_⟩
                   rw [repT_s (by omega) (by omega) (by omega) (by omega) (by omega)]
                   exact RO.dn (RZ.lv (J := (tryJ J)) (far := k) (RZ.set (J := J) (q := 39) (k := 10) (v := (J.1 10) + 1) hZ (Or.inr ⟨rfl, rfl⟩)) (show 0 ≤ (J.1 5) by omega) (LfR.o (show F (J.1 7).toNat 0 ≠ 6 by omega) rfl)) hk4.1 hk4.2 rfl)
            · skip
              refine V_ld (pc := 96) dX11_repetition_96 (v := vr 30) rfl rfl ?_
              refine V_ld (pc := 97) dX11_repetition_97 (v := vi (J.1 7)) rfl rfl ?_
              refine V_ld (pc := 98) dX11_repetition_98 (v := vi k) rfl rfl ?_
              refine V_ld (pc := 99) dX11_repetition_99 (v := vi (J.1 8)) rfl rfl ?_
              refine V_callV (pc := 101) dX11_repetition_101 (F' := 0) (As := [vi (J.1 7), vi k, vi (J.1 8)]) (st := []) cw_RX11_306 rfl rfl hL.t30 (by decide) (Nat.le_of_ble_eq_true rfl) (by omega) (y_leaves (J.1 3) (J.1 5) (J.1 9) (setI m 30 39 ((J.1 10) + 1)) (J.1 7) k (J.1 8)   (by first | assumption | omega) ⟨((RZ.set (J := J) (q := 39) (k := 10) (v := (J.1 10) + 1) hZ (Or.inr ⟨rfl, rfl⟩))).2.1.1, by omega, by omega⟩ ⟨((RZ.set (J := J) (q := 39) (k := 10) (v := (J.1 10) + 1) hZ (Or.inr ⟨rfl, rfl⟩))).2.1.2.1, by omega, by omega⟩ ((RZ.set (J := J) (q := 39) (k := 10) (v := (J.1 10) + 1) hZ (Or.inr ⟨rfl, rfl⟩))).2.1.2.2.2.1 (by omega)) ?_
              rintro _ _ ⟨rfl, rfl⟩ ok101 le101
              refine V_ld (pc := 104) dX11_repetition_104 (v := vr 30) rfl rfl ?_
              refine V_ld (pc := 105) dX11_repetition_105 (v := vi (J.1 7)) rfl rfl ?_
              refine V_ld (pc := 106) dX11_repetition_106 (v := vi k) rfl rfl ?_
              refine V_ld (pc := 107) dX11_repetition_107 (v := vi (J.1 8)) rfl rfl ?_
              refine V_callV (pc := 109) dX11_repetition_109 (F' := 1) (As := [vi ((pushO (tryJ J) k).1 7), vi k, vi ((pushO (tryJ J) k).1 8)]) (st := []) cw_RX11_302 rfl rfl hL.t30 (by decide) (Nat.le_of_ble_eq_true rfl) (by omega) (y_once I0 F c n may hcn cl (pushO (tryJ J) k) (setI (setI (setI (setI (setI (setI m 30 39 ((J.1 10) + 1)) 51 (J.1 5).toNat (J.1 7)) 52 (J.1 5).toNat k) 53 (J.1 5).toNat (((J.1 8) + 1) * 8192 + (J.1 3))) 54 (J.1 5).toNat (J.1 9)) 30 38 ((J.1 5) + 1)) k   (by first | assumption | omega) hS (RZ.lv (J := (tryJ J)) (far := k) (RZ.set (J := J) (q := 39) (k := 10) (v := (J.1 10) + 1) hZ (Or.inr ⟨rfl, rfl⟩)) (show 0 ≤ (J.1 5) by omega) (LfR.o (show F (J.1 7).toNat 0 ≠ 6 by omega) rfl)) ⟨hk4.1, hk4.2⟩ (show 0 ≤ J.1 3 ∧ J.1 3 < 5030 ∧ 0 ≤ J.1 7 ∧ J.1 7 < (c : Int) ∧ -1 ≤ J.1 8 ∧ J.1 8 ≤ 5030 ∧ 0 ≤ J.1 9 ∧ J.1 9 ≤ 32 from hp) (show F (J.1 7).toNat 0 = 5 ∧ 0 ≤ k ∧ k ≤ 5000 ∧ c ≤ 240 from by omega)) ?_
              rintro _ _ ⟨rfl, Ix109, rfl, hm109⟩ ok109 le109
              refine V_goto (pc := 112) dX11_repetition_112 (tgt := 130) rfl ?_
              refine V_retv (pc := 130) dX11_repetition_130 trivial ?_
              first
                | (exfalso; omega)
                | (refine ⟨mI (wI (setI (setI (setI (setI (setI (setI m 30 39 ((J.1 10) + 1)) 51 (J.1 5).toNat (J.1 7)) 52 (J.1 5).toNat k) 53 (J.1 5).toNat (((J.1 8) + 1) * 8192 + (J.1 3))) 54 (J.1 5).toNat (J.1 9)) 30 38 ((J.1 5) + 1)) Ix109), rfl, ?_⟩
                   rw [repT_l (by omega) (by omega) (by omega)]
                   exact hm109)
                | (refine ⟨mI (wI (setI (setI (setI (setI (setI (setI m 30 39 ((J.1 10) + 1)) 51 (J.1 5).toNat (J.1 7)) 52 (J.1 5).toNat k) 53 (J.1 5).toNat (((J.1 8) + 1) * 8192 + (J.1 3))) 54 (J.1 5).toNat (J.1 9)) 30 38 ((J.1 5) + 1)) Ix109), rfl, ?_⟩
                   rw [repT_d (by omega) (by omega) (by omega) (by omega)]
                   exact hm109)
                | (refine ⟨mI (wI (setI (setI (setI (setI (setI (setI m 30 39 ((J.1 10) + 1)) 51 (J.1 5).toNat (J.1 7)) 52 (J.1 5).toNat k) 53 (J.1 5).toNat (((J.1 8) + 1) * 8192 + (J.1 3))) 54 (J.1 5).toNat (J.1 9)) 30 38 ((J.1 5) + 1)) Ix109), rfl, ?_⟩
                   rw [repT_m (by omega) (by omega) (by omega) (by omega) (by omega)]
                   exact hm109)
                | (refine ⟨mI (wI (setI (setI (setI (setI (setI (setI m 30 39 ((J.1 10) + 1)) 51 (J.1 5).toNat (J.1 7)) 52 (J.1 5).toNat k) 53 (J.1 5).toNat (((J.1 8) + 1) * 8192 + (J.1 3))) 54 (J.1 5).toNat (J.1 9)) 30 38 ((J.1 5) + 1)) Ix109), rfl, ?_⟩
                   rw [repT_s (by omega) (by omega) (by omega) (by omega) (by omega)]
                   exact hm109)
          · skip
            refine V_ld (pc := 76) dX11_repetition_76 (v := vr 30) rfl rfl ?_
            refine V_iconst (pc := 77) dX11_repetition_77 (by unfold I32; omega) ?_
            refine V_ld (pc := 78) dX11_repetition_78 (v := vi (J.1 8)) rfl rfl ?_
            refine V_callV (pc := 80) dX11_repetition_80 (F' := 0) (As := [vi (-1), vi (J.1 8)]) (st := []) cw_RX11_292 rfl rfl hL.t30 (by decide) (Nat.le_of_ble_eq_true rfl) (by omega) (y_goes  (setI m 30 39 ((J.1 10) + 1)) (-1) (J.1 8)   (by first | assumption | omega)) ?_
            rintro _ _ ⟨rfl, rfl⟩ ok80 le80
            refine V_goto (pc := 83) dX11_repetition_83 (tgt := 130) rfl ?_
            refine V_retv (pc := 130) dX11_repetition_130 trivial ?_
            first
              | (exfalso; omega)
              | (refine ⟨mI (setI (setI (setI m 30 39 ((J.1 10) + 1)) 30 46 (-1)) 30 47 (J.1 8)), rfl, ?_⟩
                 rw [repT_l (by omega) (by omega) (by omega)]
                 exact RO.dn (RZ.set (J := J) (q := 39) (k := 10) (v := (J.1 10) + 1) hZ (Or.inr ⟨rfl, rfl⟩)) hk4.1 hk4.2 rfl)
              | (refine ⟨mI (setI (setI (setI m 30 39 ((J.1 10) + 1)) 30 46 (-1)) 30 47 (J.1 8)), rfl, ?_⟩
                 rw [repT_d (by omega) (by omega) (by omega) (by omega)]
                 exact RO.dn (RZ.set (J := J) (q := 39) (k := 10) (v := (J.1 10) + 1) hZ (Or.inr ⟨rfl, rfl⟩)) hk4.1 hk4.2 rfl)
              | (refine ⟨mI (setI (setI (setI m 30 39 ((J.1 10) + 1)) 30 46 (-1)) 30 47 (J.1 8)), rfl, ?_⟩
                 rw [repT_m (by omega) (by omega) (by omega) (by omega) (by omega)]
                 exact RO.dn (RZ.set (J := J) (q := 39) (k := 10) (v := (J.1 10) + 1) hZ (Or.inr ⟨rfl, rfl⟩)) hk4.1 hk4.2 rfl)
              | (refine ⟨mI (setI (setI (setI m 30 39 ((J.1 10) + 1)) 30 46 (-1)) 30 47 (J.1 8)), rfl, ?_⟩
                 rw [repT_s (by omega) (by omega) (by omega) (by omega) (by omega)]
                 exact RO.dn (RZ.set (J := J) (q := 39) (k := 10) (v := (J.1 10) + 1) hZ (Or.inr ⟨rfl, rfl⟩)) hk4.1 hk4.2 rfl)
      · skip
        refine V_ld (pc := 44) dX11_repetition_44 (v := vr 30) rfl rfl ?_
        refine V_ld (pc := 45) dX11_repetition_45 (v := vi (J.1 7)) rfl rfl ?_
        refine V_ld (pc := 46) dX11_repetition_46 (v := vi k) rfl rfl ?_
        refine V_ld (pc := 47) dX11_repetition_47 (v := vi (J.1 8)) rfl rfl ?_
        refine V_callV (pc := 49) dX11_repetition_49 (F' := 1) (As := [vi ((tryJ J).1 7), vi k, vi ((tryJ J).1 8)]) (st := []) cw_RX11_302 rfl rfl hL.t30 (by decide) (Nat.le_of_ble_eq_true rfl) (by omega) (y_once I0 F c n may hcn cl (tryJ J) (setI m 30 39 ((J.1 10) + 1)) k   (by first | assumption | omega) hS (RZ.set (J := J) (q := 39) (k := 10) (v := (J.1 10) + 1) hZ (Or.inr ⟨rfl, rfl⟩)) ⟨hk4.1, hk4.2⟩ (show 0 ≤ J.1 3 ∧ J.1 3 < 5030 ∧ 0 ≤ J.1 7 ∧ J.1 7 < (c : Int) ∧ -1 ≤ J.1 8 ∧ J.1 8 ≤ 5030 ∧ 0 ≤ J.1 9 ∧ J.1 9 ≤ 32 from hp) (show F (J.1 7).toNat 0 = 5 ∧ 0 ≤ k ∧ k ≤ 5000 ∧ c ≤ 240 from by omega)) ?_
        rintro _ _ ⟨rfl, Ix49, rfl, hm49⟩ ok49 le49
        refine V_goto (pc := 52) dX11_repetition_52 (tgt := 130) rfl ?_
        refine V_retv (pc := 130) dX11_repetition_130 trivial ?_
        first
          | (exfalso; omega)
          | (refine ⟨mI (wI (setI m 30 39 ((J.1 10) + 1)) Ix49), rfl, ?_⟩
             rw [repT_l (by omega) (by omega) (by omega)]
             exact hm49)
          | (refine ⟨mI (wI (setI m 30 39 ((J.1 10) + 1)) Ix49), rfl, ?_⟩
             rw [repT_d (by omega) (by omega) (by omega) (by omega)]
             exact hm49)
          | (refine ⟨mI (wI (setI m 30 39 ((J.1 10) + 1)) Ix49), rfl, ?_⟩
             rw [repT_m (by omega) (by omega) (by omega) (by omega) (by omega)]
             exact hm49)
          | (refine ⟨mI (wI (setI m 30 39 ((J.1 10) + 1)) Ix49), rfl, ?_⟩
             rw [repT_s (by omega) (by omega) (by omega) (by omega) (by omega)]
             exact hm49)
    · skip
      refine V_ld (pc := 18) dX11_repetition_18 (v := vr 30) rfl rfl ?_
      refine V_getIv (pc := 19) dX11_repetition_19 (v := (J.1 9)) fw_RX11_279 rfl hL.t30 ((RZ.set (J := J) (q := 39) (k := 10) (v := (J.1 10) + 1) hZ (Or.inr ⟨rfl, rfl⟩))).2.1.2.2.2.1 (fun g19 => ?_)
      refine V_ld (pc := 22) dX11_repetition_22 (v := vi bg) rfl rfl ?_
      refine V_icmp_ne (pc := 23) dX11_repetition_23 (tgt := 34) rfl (fun h23 => ?_) (fun h23 => ?_)
      · skip
        refine V_ld (pc := 34) dX11_repetition_34 (v := vi k) rfl rfl ?_
        refine V_ld (pc := 35) dX11_repetition_35 (v := vr 30) rfl rfl ?_
        refine V_getRv (pc := 36) dX11_repetition_36 (o' := 37) fw_RX11_30 rfl hL.t30 hL.r30_12 ?_
        refine V_ld (pc := 39) dX11_repetition_39 (v := vi (J.1 7)) rfl rfl ?_
        refine V_ialdv (pc := 40) dX11_repetition_40 (v := (F (J.1 7).toNat 3)) hL.t37 (by omega) (RFz.at (w := 3) hS (RZ.f (RZ.set (J := J) (q := 39) (k := 10) (v := (J.1 10) + 1) hZ (Or.inr ⟨rfl, rfl⟩))) ⟨hp.2.2.1, hp.2.2.2.1⟩ (by decide)) (fun g40 => ?_)
        refine V_icmp_ge (pc := 41) dX11_repetition_41 (tgt := 55) rfl (fun h41 => ?_) (fun h41 => ?_)
        · skip
          refine V_ld (pc := 55) dX11_repetition_55 (v := vi k) rfl rfl ?_
          refine V_ld (pc := 56) dX11_repetition_56 (v := vr 30) rfl rfl ?_
          refine V_getRv (pc := 57) dX11_repetition_57 (o' := 38) fw_RX11_33 rfl hL.t30 hL.r30_13 ?_
          refine V_ld (pc := 60) dX11_repetition_60 (v := vi (J.1 7)) rfl rfl ?_
          refine V_ialdv (pc := 61) dX11_repetition_61 (v := (F (J.1 7).toNat 4)) hL.t38 (by omega) (RFz.at (w := 4) hS (RZ.f (RZ.set (J := J) (q := 39) (k := 10) (v := (J.1 10) + 1) hZ (Or.inr ⟨rfl, rfl⟩))) ⟨hp.2.2.1, hp.2.2.2.1⟩ (by decide)) (fun g61 => ?_)
          refine V_icmp_ne (pc := 62) dX11_repetition_62 (tgt := 86) rfl (fun h62 => ?_) (fun h62 => ?_)
          · skip
            refine V_ld (pc := 86) dX11_repetition_86 (v := vr 30) rfl rfl ?_
            refine V_getRv (pc := 87) dX11_repetition_87 (o' := 39) fw_RX11_36 rfl hL.t30 hL.r30_14 ?_
            refine V_ld (pc := 90) dX11_repetition_90 (v := vi (J.1 7)) rfl rfl ?_
            refine V_ialdv (pc := 91) dX11_repetition_91 (v := (F (J.1 7).toNat 5)) hL.t39 (by omega) (RFz.at (w := 5) hS (RZ.f (RZ.set (J := J) (q := 39) (k := 10) (v := (J.1 10) + 1) hZ (Or.inr ⟨rfl, rfl⟩))) ⟨hp.2.2.1, hp.2.2.2.1⟩ (by decide)) (fun g91 => ?_)
            refine V_iconst (pc := 92) dX11_repetition_92 (by unfold I32; omega) ?_
            refine V_icmp_ne (pc := 93) dX11_repetition_93 (tgt := 115) rfl (fun h93 => ?_) (fun h93 => ?_)
            · skip
              refine V_ld (pc := 115) dX11_repetition_115 (v := vr 30) rfl rfl ?_
              refine V_ld (pc := 116) dX11_repetition_116 (v := vi (J.1 7)) rfl rfl ?_
              refine V_ld (pc := 117) dX11_repetition_117 (v := vi k) rfl rfl ?_
              refine V_ld (pc := 118) dX11_repetition_118 (v := vi (J.1 8)) rfl rfl ?_
              refine V_callV (pc := 120) dX11_repetition_120 (F' := 0) (As := [vi (J.1 7), vi k, vi (J.1 8)]) (st := []) cw_RX11_306 rfl rfl hL.t30 (by decide) (Nat.le_of_ble_eq_true rfl) (by omega) (y_leaves (J.1 3) (J.1 5) (J.1 9) (setI m 30 39 ((J.1 10) + 1)) (J.1 7) k (J.1 8)   (by first | assumption | omega) ⟨((RZ.set (J := J) (q := 39) (k := 10) (v := (J.1 10) + 1) hZ (Or.inr ⟨rfl, rfl⟩))).2.1.1, by omega, by omega⟩ ⟨((RZ.set (J := J) (q := 39) (k := 10) (v := (J.1 10) + 1) hZ (Or.inr ⟨rfl, rfl⟩))).2.1.2.1, by omega, by omega⟩ ((RZ.set (J := J) (q := 39) (k := 10) (v := (J.1 10) + 1) hZ (Or.inr ⟨rfl, rfl⟩))).2.1.2.2.2.1 (by omega)) ?_
              rintro _ _ ⟨rfl, rfl⟩ ok120 le120
              refine V_ld (pc := 123) dX11_repetition_123 (v := vr 30) rfl rfl ?_
              refine V_iconst (pc := 124) dX11_repetition_124 (by unfold I32; omega) ?_
              refine V_ld (pc := 125) dX11_repetition_125 (v := vi (J.1 8)) rfl rfl ?_
              refine V_callV (pc := 127) dX11_repetition_127 (F' := 0) (As := [vi (-1), vi (J.1 8)]) (st := []) cw_RX11_292 rfl rfl hL.t30 (by decide) (Nat.le_of_ble_eq_true rfl) (by omega) (y_goes  (setI (setI (setI (setI (setI (setI m 30 39 ((J.1 10) + 1)) 51 (J.1 5).toNat (J.1 7)) 52 (J.1 5).toNat k) 53 (J.1 5).toNat (((J.1 8) + 1) * 8192 + (J.1 3))) 54 (J.1 5).toNat (J.1 9)) 30 38 ((J.1 5) + 1)) (-1) (J.1 8)   (by first | assumption | omega)) ?_
              rintro _ _ ⟨rfl, rfl⟩ ok127 le127
              refine V_retv (pc := 130) dX11_repetition_130 trivial ?_
              first
                | (exfalso; omega)
                | (refine ⟨mI (setI (setI (setI (setI (setI (setI (setI (setI m 30 39 ((J.1 10) + 1)) 51 (J.1 5).toNat (J.1 7)) 52 (J.1 5).toNat k) 53 (J.1 5).toNat (((J.1 8) + 1) * 8192 + (J.1 3))) 54 (J.1 5).toNat (J.1 9)) 30 38 ((J.1 5) + 1)) 30 46 (-1)) 30 47 (J.1 8)), rfl, ?_⟩
                   rw [repT_l (by omega) (by omega) (by omega)]
                   exact RO.dn (RZ.lv (J := (tryJ J)) (far := k) (RZ.set (J := J) (q := 39) (k := 10) (v := (J.1 10) + 1) hZ (Or.inr ⟨rfl, rfl⟩)) (show 0 ≤ (J.1 5) by omega) (LfR.o (show F (J.1 7).toNat 0 ≠ 6 by omega) rfl)) hk4.1 hk4.2 rfl)
                | (refine ⟨mI (setI (setI (setI (setI (setI (setI (setI (setI m 30 39 ((J.1 10) + 1)) 51 (J.1 5).toNat (J.1 7)) 52 (J.1 5).toNat k) 53 (J.1 5).toNat (((J.1 8) + 1) * 8192 + (J.1 3))) 54 (J.1 5).toNat (J.1 9)) 30 38 ((J.1 5) + 1)) 30 46 (-1)) 30 47 (J.1 8)), rfl, ?_⟩
                   rw [repT_d (by omega) (by omega) (by omega) (by omega)]
                   exact RO.dn (RZ.lv (J := (tryJ J)) (far := k) (RZ.set (J := J) (q := 39) (k := 10) (v := (J.1 10) + 1) hZ (Or.inr ⟨rfl, rfl⟩)) (show 0 ≤ (J.1 5) by omega) (LfR.o (show F (J.1 7).toNat 0 ≠ 6 by omega) rfl)) hk4.1 hk4.2 rfl)
                | (refine ⟨mI (setI (setI (setI (setI (setI (setI (setI (setI m 30 39 ((J.1 10) + 1)) 51 (J.1 5).toNat (J.1 7)) 52 (J.1 5).toNat k) 53 (J.1 5).toNat (((J.1 8) + 1) * 8192 + (J.1 3))) 54 (J.1 5).toNat (J.1 9)) 30 38 ((J.1 5) + 1)) 30 46 (-1)) 30 47 (J.1 8)), rfl, ?_⟩
                   rw [repT_m (by omega) (by omega) (by omega) (by omega) (by omega)]
                   exact RO.dn (RZ.lv (J := (tryJ J)) (far := k) (RZ.set (J := J) (q := 39) (k := 10) (v := (J.1 10) + 1) hZ (Or.inr ⟨rfl, rfl⟩)) (show 0 ≤ (J.1 5) by omega) (LfR.o (show F (J.1 7).toNat 0 ≠ 6 by omega) rfl)) hk4.1 hk4.2 rfl)
                | (refine ⟨mI (setI (setI (setI (setI (setI (setI (setI (setI m 30 39 ((J.1 10) + 1)) 51 (J.1 5).toNat (J.1 7)) 52 (J.1 5).toNat k) 53 (J.1 5).toNat (((J.1 8) + 1) * 8192 + (J.1 3))) 54 (J.1 5).toNat (J.1 9)) 30 38 ((J.1 5) + 1)) 30 46 (-1)) 30 47 (J.1 8)), rfl, ?_⟩
                   rw [repT_s (by omega) (by omega) (by omega) (by omega) (by omega)]
                   exact RO.dn (RZ.lv (J := (tryJ J)) (far := k) (RZ.set (J := J) (q := 39) (k := 10) (v := (J.1 10) + 1) hZ (Or.inr ⟨rfl, rfl⟩)) (show 0 ≤ (J.1 5) by omega) (LfR.o (show F (J.1 7).toNat 0 ≠ 6 by omega) rfl)) hk4.1 hk4.2 rfl)
            · skip
              refine V_ld (pc := 96) dX11_repetition_96 (v := vr 30) rfl rfl ?_
              refine V_ld (pc := 97) dX11_repetition_97 (v := vi (J.1 7)) rfl rfl ?_
              refine V_ld (pc := 98) dX11_repetition_98 (v := vi k) rfl rfl ?_
              refine V_ld (pc := 99) dX11_repetition_99 (v := vi (J.1 8)) rfl rfl ?_
              refine V_callV (pc := 101) dX11_repetition_101 (F' := 0) (As := [vi (J.1 7), vi k, vi (J.1 8)]) (st := []) cw_RX11_306 rfl rfl hL.t30 (by decide) (Nat.le_of_ble_eq_true rfl) (by omega) (y_leaves (J.1 3) (J.1 5) (J.1 9) (setI m 30 39 ((J.1 10) + 1)) (J.1 7) k (J.1 8)   (by first | assumption | omega) ⟨((RZ.set (J := J) (q := 39) (k := 10) (v := (J.1 10) + 1) hZ (Or.inr ⟨rfl, rfl⟩))).2.1.1, by omega, by omega⟩ ⟨((RZ.set (J := J) (q := 39) (k := 10) (v := (J.1 10) + 1) hZ (Or.inr ⟨rfl, rfl⟩))).2.1.2.1, by omega, by omega⟩ ((RZ.set (J := J) (q := 39) (k := 10) (v := (J.1 10) + 1) hZ (Or.inr ⟨rfl, rfl⟩))).2.1.2.2.2.1 (by omega)) ?_
              rintro _ _ ⟨rfl, rfl⟩ ok101 le101
              refine V_ld (pc := 104) dX11_repetition_104 (v := vr 30) rfl rfl ?_
              refine V_ld (pc := 105) dX11_repetition_105 (v := vi (J.1 7)) rfl rfl ?_
              refine V_ld (pc := 106) dX11_repetition_106 (v := vi k) rfl rfl ?_
              refine V_ld (pc := 107) dX11_repetition_107 (v := vi (J.1 8)) rfl rfl ?_
              refine V_callV (pc := 109) dX11_repetition_109 (F' := 1) (As := [vi ((pushO (tryJ J) k).1 7), vi k, vi ((pushO (tryJ J) k).1 8)]) (st := []) cw_RX11_302 rfl rfl hL.t30 (by decide) (Nat.le_of_ble_eq_true rfl) (by omega) (y_once I0 F c n may hcn cl (pushO (tryJ J) k) (setI (setI (setI (setI (setI (setI m 30 39 ((J.1 10) + 1)) 51 (J.1 5).toNat (J.1 7)) 52 (J.1 5).toNat k) 53 (J.1 5).toNat (((J.1 8) + 1) * 8192 + (J.1 3))) 54 (J.1 5).toNat (J.1 9)) 30 38 ((J.1 5) + 1)) k   (by first | assumption | omega) hS (RZ.lv (J := (tryJ J)) (far := k) (RZ.set (J := J) (q := 39) (k := 10) (v := (J.1 10) + 1) hZ (Or.inr ⟨rfl, rfl⟩)) (show 0 ≤ (J.1 5) by omega) (LfR.o (show F (J.1 7).toNat 0 ≠ 6 by omega) rfl)) ⟨hk4.1, hk4.2⟩ (show 0 ≤ J.1 3 ∧ J.1 3 < 5030 ∧ 0 ≤ J.1 7 ∧ J.1 7 < (c : Int) ∧ -1 ≤ J.1 8 ∧ J.1 8 ≤ 5030 ∧ 0 ≤ J.1 9 ∧ J.1 9 ≤ 32 from hp) (show F (J.1 7).toNat 0 = 5 ∧ 0 ≤ k ∧ k ≤ 5000 ∧ c ≤ 240 from by omega)) ?_
              rintro _ _ ⟨rfl, Ix109, rfl, hm109⟩ ok109 le109
              refine V_goto (pc := 112) dX11_repetition_112 (tgt := 130) rfl ?_
              refine V_retv (pc := 130) dX11_repetition_130 trivial ?_
              first
                | (exfalso; omega)
                | (refine ⟨mI (wI (setI (setI (setI (setI (setI (setI m 30 39 ((J.1 10) + 1)) 51 (J.1 5).toNat (J.1 7)) 52 (J.1 5).toNat k) 53 (J.1 5).toNat (((J.1 8) + 1) * 8192 + (J.1 3))) 54 (J.1 5).toNat (J.1 9)) 30 38 ((J.1 5) + 1)) Ix109), rfl, ?_⟩
                   rw [repT_l (by omega) (by omega) (by omega)]
                   exact hm109)
                | (refine ⟨mI (wI (setI (setI (setI (setI (setI (setI m 30 39 ((J.1 10) + 1)) 51 (J.1 5).toNat (J.1 7)) 52 (J.1 5).toNat k) 53 (J.1 5).toNat (((J.1 8) + 1) * 8192 + (J.1 3))) 54 (J.1 5).toNat (J.1 9)) 30 38 ((J.1 5) + 1)) Ix109), rfl, ?_⟩
                   rw [repT_d (by omega) (by omega) (by omega) (by omega)]
                   exact hm109)
                | (refine ⟨mI (wI (setI (setI (setI (setI (setI (setI m 30 39 ((J.1 10) + 1)) 51 (J.1 5).toNat (J.1 7)) 52 (J.1 5).toNat k) 53 (J.1 5).toNat (((J.1 8) + 1) * 8192 + (J.1 3))) 54 (J.1 5).toNat (J.1 9)) 30 38 ((J.1 5) + 1)) Ix109), rfl, ?_⟩
                   rw [repT_m (by omega) (by omega) (by omega) (by omega) (by omega)]
                   exact hm109)
                | (refine ⟨mI (wI (setI (setI (setI (setI (setI (setI m 30 39 ((J.1 10) + 1)) 51 (J.1 5).toNat (J.1 7)) 52 (J.1 5).toNat k) 53 (J.1 5).toNat (((J.1 8) + 1) * 8192 + (J.1 3))) 54 (J.1 5).toNat (J.1 9)) 30 38 ((J.1 5) + 1)) Ix109), rfl, ?_⟩
                   rw [repT_s (by omega) (by omega) (by omega) (by omega) (by omega)]
                   exact hm109)
          · skip
            refine V_ld (pc := 65) dX11_repetition_65 (v := vr 30) rfl rfl ?_
            refine V_getRv (pc := 66) dX11_repetition_66 (o' := 38) fw_RX11_33 rfl hL.t30 hL.r30_13 ?_
            refine V_ld (pc := 69) dX11_repetition_69 (v := vi (J.1 7)) rfl rfl ?_
            refine V_ialdv (pc := 70) dX11_repetition_70 (v := (F (J.1 7).toNat 4)) hL.t38 (by omega) (RFz.at (w := 4) hS (RZ.f (RZ.set (J := J) (q := 39) (k := 10) (v := (J.1 10) + 1) hZ (Or.inr ⟨rfl, rfl⟩))) ⟨hp.2.2.1, hp.2.2.2.1⟩ (by decide)) (fun g70 => ?_)
            refine V_bipush (pc := 71) dX11_repetition_71 (by unfold I32; omega) (by decide) ?_
            refine V_icmp_eq (pc := 73) dX11_repetition_73 (tgt := 86) rfl (fun h73 => ?_) (fun h73 => ?_)
            · skip
              refine V_ld (pc := 86) dX11_repetition_86 (v := vr 30) rfl rfl ?_
              refine V_getRv (pc := 87) dX11_repetition_87 (o' := 39) fw_RX11_36 rfl hL.t30 hL.r30_14 ?_
              refine V_ld (pc := 90) dX11_repetition_90 (v := vi (J.1 7)) rfl rfl ?_
              refine V_ialdv (pc := 91) dX11_repetition_91 (v := (F (J.1 7).toNat 5)) hL.t39 (by omega) (RFz.at (w := 5) hS (RZ.f (RZ.set (J := J) (q := 39) (k := 10) (v := (J.1 10) + 1) hZ (Or.inr ⟨rfl, rfl⟩))) ⟨hp.2.2.1, hp.2.2.2.1⟩ (by decide)) (fun g91 => ?_)
              refine V_iconst (pc := 92) dX11_repetition_92 (by unfold I32; omega) ?_
              refine V_icmp_ne (pc := 93) dX11_repetition_93 (tgt := 115) rfl (fun h93 => ?_) (fun h93 => ?_)
              · skip
                refine V_ld (pc := 115) dX11_repetition_115 (v := vr 30) rfl rfl ?_
                refine V_ld (pc := 116) dX11_repetition_116 (v := vi (J.1 7)) rfl rfl ?_
                refine V_ld (pc := 117) dX11_repetition_117 (v := vi k) rfl rfl ?_
                refine V_ld (pc := 118) dX11_repetition_118 (v := vi (J.1 8)) rfl rfl ?_
                refine V_callV (pc := 120) dX11_repetition_120 (F' := 0) (As := [vi (J.1 7), vi k, vi (J.1 8)]) (st := []) cw_RX11_306 rfl rfl hL.t30 (by decide) (Nat.le_of_ble_eq_true rfl) (by omega) (y_leaves (J.1 3) (J.1 5) (J.1 9) (setI m 30 39 ((J.1 10) + 1)) (J.1 7) k (J.1 8)   (by first | assumption | omega) ⟨((RZ.set (J := J) (q := 39) (k := 10) (v := (J.1 10) + 1) hZ (Or.inr ⟨rfl, rfl⟩))).2.1.1, by omega, by omega⟩ ⟨((RZ.set (J := J) (q := 39) (k := 10) (v := (J.1 10) + 1) hZ (Or.inr ⟨rfl, rfl⟩))).2.1.2.1, by omega, by omega⟩ ((RZ.set (J := J) (q := 39) (k := 10) (v := (J.1 10) + 1) hZ (Or.inr ⟨rfl, rfl⟩))).2.1.2.2.2.1 (by omega)) ?_
                rintro _ _ ⟨rfl, rfl⟩ ok120 le120
                refine V_ld (pc := 123) dX11_repetition_123 (v := vr 30) rfl rfl ?_
                refine V_iconst (pc := 124) dX11_repetition_124 (by unfold I32; omega) ?_
                refine V_ld (pc := 125) dX11_repetition_125 (v := vi (J.1 8)) rfl rfl ?_
                refine V_callV (pc := 127) dX11_repetition_127 (F' := 0) (As := [vi (-1), vi (J.1 8)]) (st := []) cw_RX11_292 rfl rfl hL.t30 (by decide) (Nat.le_of_ble_eq_true rfl) (by omega) (y_goes  (setI (setI (setI (setI (setI (setI m 30 39 ((J.1 10) + 1)) 51 (J.1 5).toNat (J.1 7)) 52 (J.1 5).toNat k) 53 (J.1 5).toNat (((J.1 8) + 1) * 8192 + (J.1 3))) 54 (J.1 5).toNat (J.1 9)) 30 38 ((J.1 5) + 1)) (-1) (J.1 8)   (by first | assumption | omega)) ?_
                rintro _ _ ⟨rfl, rfl⟩ ok127 le127
                refine V_retv (pc := 130) dX11_repetition_130 trivial ?_
                first
                  | (exfalso; omega)
                  | (refine ⟨mI (setI (setI (setI (setI (setI (setI (setI (setI m 30 39 ((J.1 10) + 1)) 51 (J.1 5).toNat (J.1 7)) 52 (J.1 5).toNat k) 53 (J.1 5).toNat (((J.1 8) + 1) * 8192 + (J.1 3))) 54 (J.1 5).toNat (J.1 9)) 30 38 ((J.1 5) + 1)) 30 46 (-1)) 30 47 (J.1 8)), rfl, ?_⟩
                     rw [repT_l (by omega) (by omega) (by omega)]
                     exact RO.dn (RZ.lv (J := (tryJ J)) (far := k) (RZ.set (J := J) (q := 39) (k := 10) (v := (J.1 10) + 1) hZ (Or.inr ⟨rfl, rfl⟩)) (show 0 ≤ (J.1 5) by omega) (LfR.o (show F (J.1 7).toNat 0 ≠ 6 by omega) rfl)) hk4.1 hk4.2 rfl)
                  | (refine ⟨mI (setI (setI (setI (setI (setI (setI (setI (setI m 30 39 ((J.1 10) + 1)) 51 (J.1 5).toNat (J.1 7)) 52 (J.1 5).toNat k) 53 (J.1 5).toNat (((J.1 8) + 1) * 8192 + (J.1 3))) 54 (J.1 5).toNat (J.1 9)) 30 38 ((J.1 5) + 1)) 30 46 (-1)) 30 47 (J.1 8)), rfl, ?_⟩
                     rw [repT_d (by omega) (by omega) (by omega) (by omega)]
                     exact RO.dn (RZ.lv (J := (tryJ J)) (far := k) (RZ.set (J := J) (q := 39) (k := 10) (v := (J.1 10) + 1) hZ (Or.inr ⟨rfl, rfl⟩)) (show 0 ≤ (J.1 5) by omega) (LfR.o (show F (J.1 7).toNat 0 ≠ 6 by omega) rfl)) hk4.1 hk4.2 rfl)
                  | (refine ⟨mI (setI (setI (setI (setI (setI (setI (setI (setI m 30 39 ((J.1 10) + 1)) 51 (J.1 5).toNat (J.1 7)) 52 (J.1 5).toNat k) 53 (J.1 5).toNat (((J.1 8) + 1) * 8192 + (J.1 3))) 54 (J.1 5).toNat (J.1 9)) 30 38 ((J.1 5) + 1)) 30 46 (-1)) 30 47 (J.1 8)), rfl, ?_⟩
                     rw [repT_m (by omega) (by omega) (by omega) (by omega) (by omega)]
                     exact RO.dn (RZ.lv (J := (tryJ J)) (far := k) (RZ.set (J := J) (q := 39) (k := 10) (v := (J.1 10) + 1) hZ (Or.inr ⟨rfl, rfl⟩)) (show 0 ≤ (J.1 5) by omega) (LfR.o (show F (J.1 7).toNat 0 ≠ 6 by omega) rfl)) hk4.1 hk4.2 rfl)
                  | (refine ⟨mI (setI (setI (setI (setI (setI (setI (setI (setI m 30 39 ((J.1 10) + 1)) 51 (J.1 5).toNat (J.1 7)) 52 (J.1 5).toNat k) 53 (J.1 5).toNat (((J.1 8) + 1) * 8192 + (J.1 3))) 54 (J.1 5).toNat (J.1 9)) 30 38 ((J.1 5) + 1)) 30 46 (-1)) 30 47 (J.1 8)), rfl, ?_⟩
                     rw [repT_s (by omega) (by omega) (by omega) (by omega) (by omega)]
                     exact RO.dn (RZ.lv (J := (tryJ J)) (far := k) (RZ.set (J := J) (q := 39) (k := 10) (v := (J.1 10) + 1) hZ (Or.inr ⟨rfl, rfl⟩)) (show 0 ≤ (J.1 5) by omega) (LfR.o (show F (J.1 7).toNat 0 ≠ 6 by omega) rfl)) hk4.1 hk4.2 rfl)
              · skip
                refine V_ld (pc := 96) dX11_repetition_96 (v := vr 30) rfl rfl ?_
                refine V_ld (pc := 97) dX11_repetition_97 (v := vi (J.1 7)) rfl rfl ?_
                refine V_ld (pc := 98) dX11_repetition_98 (v := vi k) rfl rfl ?_
                refine V_ld (pc := 99) dX11_repetition_99 (v := vi (J.1 8)) rfl rfl ?_
                refine V_callV (pc := 101) dX11_repetition_101 (F' := 0) (As := [vi (J.1 7), vi k, vi (J.1 8)]) (st := []) cw_RX11_306 rfl rfl hL.t30 (by decide) (Nat.le_of_ble_eq_true rfl) (by omega) (y_leaves (J.1 3) (J.1 5) (J.1 9) (setI m 30 39 ((J.1 10) + 1)) (J.1 7) k (J.1 8)   (by first | assumption | omega) ⟨((RZ.set (J := J) (q := 39) (k := 10) (v := (J.1 10) + 1) hZ (Or.inr ⟨rfl, rfl⟩))).2.1.1, by omega, by omega⟩ ⟨((RZ.set (J := J) (q := 39) (k := 10) (v := (J.1 10) + 1) hZ (Or.inr ⟨rfl, rfl⟩))).2.1.2.1, by omega, by omega⟩ ((RZ.set (J := J) (q := 39) (k := 10) (v := (J.1 10) + 1) hZ (Or.inr ⟨rfl, rfl⟩))).2.1.2.2.2.1 (by omega)) ?_
                rintro _ _ ⟨rfl, rfl⟩ ok101 le101
                refine V_ld (pc := 104) dX11_repetition_104 (v := vr 30) rfl rfl ?_
                refine V_ld (pc := 105) dX11_repetition_105 (v := vi (J.1 7)) rfl rfl ?_
                refine V_ld (pc := 106) dX11_repetition_106 (v := vi k) rfl rfl ?_
                refine V_ld (pc := 107) dX11_repetition_107 (v := vi (J.1 8)) rfl rfl ?_
                refine V_callV (pc := 109) dX11_repetition_109 (F' := 1) (As := [vi ((pushO (tryJ J) k).1 7), vi k, vi ((pushO (tryJ J) k).1 8)]) (st := []) cw_RX11_302 rfl rfl hL.t30 (by decide) (Nat.le_of_ble_eq_true rfl) (by omega) (y_once I0 F c n may hcn cl (pushO (tryJ J) k) (setI (setI (setI (setI (setI (setI m 30 39 ((J.1 10) + 1)) 51 (J.1 5).toNat (J.1 7)) 52 (J.1 5).toNat k) 53 (J.1 5).toNat (((J.1 8) + 1) * 8192 + (J.1 3))) 54 (J.1 5).toNat (J.1 9)) 30 38 ((J.1 5) + 1)) k   (by first | assumption | omega) hS (RZ.lv (J := (tryJ J)) (far := k) (RZ.set (J := J) (q := 39) (k := 10) (v := (J.1 10) + 1) hZ (Or.inr ⟨rfl, rfl⟩)) (show 0 ≤ (J.1 5) by omega) (LfR.o (show F (J.1 7).toNat 0 ≠ 6 by omega) rfl)) ⟨hk4.1, hk4.2⟩ (show 0 ≤ J.1 3 ∧ J.1 3 < 5030 ∧ 0 ≤ J.1 7 ∧ J.1 7 < (c : Int) ∧ -1 ≤ J.1 8 ∧ J.1 8 ≤ 5030 ∧ 0 ≤ J.1 9 ∧ J.1 9 ≤ 32 from hp) (show F (J.1 7).toNat 0 = 5 ∧ 0 ≤ k ∧ k ≤ 5000 ∧ c ≤ 240 from by omega)) ?_
                rintro _ _ ⟨rfl, Ix109, rfl, hm109⟩ ok109 le109
                refine V_goto (pc := 112) dX11_repetition_112 (tgt := 130) rfl ?_
                refine V_retv (pc := 130) dX11_repetition_130 trivial ?_
                first
                  | (exfalso; omega)
                  | (refine ⟨mI (wI (setI (setI (setI (setI (setI (setI m 30 39 ((J.1 10) + 1)) 51 (J.1 5).toNat (J.1 7)) 52 (J.1 5).toNat k) 53 (J.1 5).toNat (((J.1 8) + 1) * 8192 + (J.1 3))) 54 (J.1 5).toNat (J.1 9)) 30 38 ((J.1 5) + 1)) Ix109), rfl, ?_⟩
                     rw [repT_l (by omega) (by omega) (by omega)]
                     exact hm109)
                  | (refine ⟨mI (wI (setI (setI (setI (setI (setI (setI m 30 39 ((J.1 10) + 1)) 51 (J.1 5).toNat (J.1 7)) 52 (J.1 5).toNat k) 53 (J.1 5).toNat (((J.1 8) + 1) * 8192 + (J.1 3))) 54 (J.1 5).toNat (J.1 9)) 30 38 ((J.1 5) + 1)) Ix109), rfl, ?_⟩
                     rw [repT_d (by omega) (by omega) (by omega) (by omega)]
                     exact hm109)
                  | (refine ⟨mI (wI (setI (setI (setI (setI (setI (setI m 30 39 ((J.1 10) + 1)) 51 (J.1 5).toNat (J.1 7)) 52 (J.1 5).toNat k) 53 (J.1 5).toNat (((J.1 8) + 1) * 8192 + (J.1 3))) 54 (J.1 5).toNat (J.1 9)) 30 38 ((J.1 5) + 1)) Ix109), rfl, ?_⟩
                     rw [repT_m (by omega) (by omega) (by omega) (by omega) (by omega)]
                     exact hm109)
                  | (refine ⟨mI (wI (setI (setI (setI (setI (setI (setI m 30 39 ((J.1 10) + 1)) 51 (J.1 5).toNat (J.1 7)) 52 (J.1 5).toNat k) 53 (J.1 5).toNat (((J.1 8) + 1) * 8192 + (J.1 3))) 54 (J.1 5).toNat (J.1 9)) 30 38 ((J.1 5) + 1)) Ix109), rfl, ?_⟩
                     rw [repT_s (by omega) (by omega) (by omega) (by omega) (by omega)]
                     exact hm109)
            · skip
              refine V_ld (pc := 76) dX11_repetition_76 (v := vr 30) rfl rfl ?_
              refine V_iconst (pc := 77) dX11_repetition_77 (by unfold I32; omega) ?_
              refine V_ld (pc := 78) dX11_repetition_78 (v := vi (J.1 8)) rfl rfl ?_
              refine V_callV (pc := 80) dX11_repetition_80 (F' := 0) (As := [vi (-1), vi (J.1 8)]) (st := []) cw_RX11_292 rfl rfl hL.t30 (by decide) (Nat.le_of_ble_eq_true rfl) (by omega) (y_goes  (setI m 30 39 ((J.1 10) + 1)) (-1) (J.1 8)   (by first | assumption | omega)) ?_
              rintro _ _ ⟨rfl, rfl⟩ ok80 le80
              refine V_goto (pc := 83) dX11_repetition_83 (tgt := 130) rfl ?_
              refine V_retv (pc := 130) dX11_repetition_130 trivial ?_
              first
                | (exfalso; omega)
                | (refine ⟨mI (setI (setI (setI m 30 39 ((J.1 10) + 1)) 30 46 (-1)) 30 47 (J.1 8)), rfl, ?_⟩
                   rw [repT_l (by omega) (by omega) (by omega)]
                   exact RO.dn (RZ.set (J := J) (q := 39) (k := 10) (v := (J.1 10) + 1) hZ (Or.inr ⟨rfl, rfl⟩)) hk4.1 hk4.2 rfl)
                | (refine ⟨mI (setI (setI (setI m 30 39 ((J.1 10) + 1)) 30 46 (-1)) 30 47 (J.1 8)), rfl, ?_⟩
                   rw [repT_d (by omega) (by omega) (by omega) (by omega)]
                   exact RO.dn (RZ.set (J := J) (q := 39) (k := 10) (v := (J.1 10) + 1) hZ (Or.inr ⟨rfl, rfl⟩)) hk4.1 hk4.2 rfl)
                | (refine ⟨mI (setI (setI (setI m 30 39 ((J.1 10) + 1)) 30 46 (-1)) 30 47 (J.1 8)), rfl, ?_⟩
                   rw [repT_m (by omega) (by omega) (by omega) (by omega) (by omega)]
                   exact RO.dn (RZ.set (J := J) (q := 39) (k := 10) (v := (J.1 10) + 1) hZ (Or.inr ⟨rfl, rfl⟩)) hk4.1 hk4.2 rfl)
                | (refine ⟨mI (setI (setI (setI m 30 39 ((J.1 10) + 1)) 30 46 (-1)) 30 47 (J.1 8)), rfl, ?_⟩
                   rw [repT_s (by omega) (by omega) (by omega) (by omega) (by omega)]
                   exact RO.dn (RZ.set (J := J) (q := 39) (k := 10) (v := (J.1 10) + 1) hZ (Or.inr ⟨rfl, rfl⟩)) hk4.1 hk4.2 rfl)
        · skip
          refine V_ld (pc := 44) dX11_repetition_44 (v := vr 30) rfl rfl ?_
          refine V_ld (pc := 45) dX11_repetition_45 (v := vi (J.1 7)) rfl rfl ?_
          refine V_ld (pc := 46) dX11_repetition_46 (v := vi k) rfl rfl ?_
          refine V_ld (pc := 47) dX11_repetition_47 (v := vi (J.1 8)) rfl rfl ?_
          refine V_callV (pc := 49) dX11_repetition_49 (F' := 1) (As := [vi ((tryJ J).1 7), vi k, vi ((tryJ J).1 8)]) (st := []) cw_RX11_302 rfl rfl hL.t30 (by decide) (Nat.le_of_ble_eq_true rfl) (by omega) (y_once I0 F c n may hcn cl (tryJ J) (setI m 30 39 ((J.1 10) + 1)) k   (by first | assumption | omega) hS (RZ.set (J := J) (q := 39) (k := 10) (v := (J.1 10) + 1) hZ (Or.inr ⟨rfl, rfl⟩)) ⟨hk4.1, hk4.2⟩ (show 0 ≤ J.1 3 ∧ J.1 3 < 5030 ∧ 0 ≤ J.1 7 ∧ J.1 7 < (c : Int) ∧ -1 ≤ J.1 8 ∧ J.1 8 ≤ 5030 ∧ 0 ≤ J.1 9 ∧ J.1 9 ≤ 32 from hp) (show F (J.1 7).toNat 0 = 5 ∧ 0 ≤ k ∧ k ≤ 5000 ∧ c ≤ 240 from by omega)) ?_
          rintro _ _ ⟨rfl, Ix49, rfl, hm49⟩ ok49 le49
          refine V_goto (pc := 52) dX11_repetition_52 (tgt := 130) rfl ?_
          refine V_retv (pc := 130) dX11_repetition_130 trivial ?_
          first
            | (exfalso; omega)
            | (refine ⟨mI (wI (setI m 30 39 ((J.1 10) + 1)) Ix49), rfl, ?_⟩
               rw [repT_l (by omega) (by omega) (by omega)]
               exact hm49)
            | (refine ⟨mI (wI (setI m 30 39 ((J.1 10) + 1)) Ix49), rfl, ?_⟩
               rw [repT_d (by omega) (by omega) (by omega) (by omega)]
               exact hm49)
            | (refine ⟨mI (wI (setI m 30 39 ((J.1 10) + 1)) Ix49), rfl, ?_⟩
               rw [repT_m (by omega) (by omega) (by omega) (by omega) (by omega)]
               exact hm49)
            | (refine ⟨mI (wI (setI m 30 39 ((J.1 10) + 1)) Ix49), rfl, ?_⟩
               rw [repT_s (by omega) (by omega) (by omega) (by omega) (by omega)]
               exact hm49)
      · skip
        refine V_ld (pc := 26) dX11_repetition_26 (v := vr 30) rfl rfl ?_
        refine V_iconst (pc := 27) dX11_repetition_27 (by unfold I32; omega) ?_
        refine V_putI (pc := 28) dX11_repetition_28 fw_RX11_299 rfl hL.t30 (Or.inl rfl) (Or.inr ⟨rfl, by first | exact Or.inl rfl | exact Or.inr rfl | omega⟩) ?_
        refine V_goto (pc := 31) dX11_repetition_31 (tgt := 130) rfl ?_
        refine V_retv (pc := 130) dX11_repetition_130 trivial ?_
        first
          | (exfalso; omega)
          | (refine ⟨mI (setI (setI m 30 39 ((J.1 10) + 1)) 30 45 1), rfl, ?_⟩
             rw [repT_b (by omega) (by omega)]
             exact RO.fl (RZ.set (J := J) (q := 39) (k := 10) (v := (J.1 10) + 1) hZ (Or.inr ⟨rfl, rfl⟩)) hk4.1)

set_option maxHeartbeats 8000000 in
theorem y_anyOf (I0 : Nat → Nat → Int) (F : Tb) (c : Nat) (n : Int) (may : Int) (hcn : Nat → CEnv → Int) (cl : Nat → Int) (J : SJ) (r0 : Int) (m : Mem) (d : Int) (r : Int)   (hL : Lay (mT m) (mR m)) (hS : RB I0 F c n may hcn cl) (hZ : RZ I0 (mI m) F J) (hk4 : mI m 30 44 = 0 ∧ mI m 30 45 = 0) (hp : 0 ≤ J.1 3 ∧ J.1 3 < 5030 ∧ 0 ≤ J.1 7 ∧ J.1 7 < (c : Int) ∧ -1 ≤ J.1 8 ∧ J.1 8 ≤ 5030 ∧ 0 ≤ J.1 9 ∧ J.1 9 ≤ 32) (hs : F (J.1 7).toNat 0 = 6 ∧ 0 ≤ d ∧ d < 16 ∧ 0 ≤ r ∧ r ≤ F (J.1 7).toNat 2 ∧ 0 ≤ J.1 5 ∧ J.1 5 < 5010 ∧ c ≤ 240 ∧ WfT F 0 c) (hn : ndA d r (F (J.1 7).toNat 2) = ndA d r0 (F (J.1 7).toNat 2) ∧ ndA d r (F (J.1 7).toNat 2) < F (J.1 7).toNat 2) : Ct μX11_anyOf 1 [vr 30, vi (J.1 7), vi d, vi r, vi (J.1 8)] m (rv fun m' => ∃ I_ : Nat → Nat → Int, wI m I_ = m' ∧ RO I0 I_ F (ordA F J d r0)) := by
  refine Ct_of_V rfl (by decide) rfl (Nat.le_of_ble_eq_true rfl) ?_
  show V μX11_anyOf 1 m _ 0 [(0, vr 30), (1, vi (J.1 7)), (2, vi d), (3, vi r), (4, vi (J.1 8))] [] m
  refine V_rg (k := 1) (x := J.1 7) rfl fun r_1 => ?_
  refine V_rg (k := 2) (x := d) rfl fun r_d => ?_
  refine V_rg (k := 3) (x := r) rfl fun r_r => ?_
  refine V_rg (k := 4) (x := J.1 8) rfl fun r_4 => ?_
  have hIn := inn_kid (p := J.1 7) hs.2.2.2.2.2.2.2.2 ⟨hp.2.2.1, hp.2.2.2.1⟩ (by omega)
  have hq4 := hIn.2.2.2.1 hs.1
  have hb1 := ndA_b (d := d) (r := r) (inn := (F (J.1 7).toNat 2)) hs.2.2.2.2.1
  have hb2 := ndA_b (d := d) (r := (ndA d r (F (J.1 7).toNat 2)) + 1) (inn := (F (J.1 7).toNat 2)) (by omega)
  have h16 := or16 ⟨hs.2.1, hs.2.2.1⟩ (r := (ndA d r (F (J.1 7).toNat 2))) (by omega)
  have hkk := fun (i_ : Nat) (hi_ : (i_ : Int) < (ndA d r (F (J.1 7).toNat 2))) => hIn.2.2.2.2.2.2 i_ (by omega)
  clear hIn
  refine V_ld (pc := 0) dX11_anyOf_0 (v := vr 30) rfl rfl ?_
  refine V_ld (pc := 1) dX11_anyOf_1 (v := vi (J.1 7)) rfl rfl ?_
  refine V_ld (pc := 2) dX11_anyOf_2 (v := vi d) rfl rfl ?_
  refine V_ld (pc := 3) dX11_anyOf_3 (v := vi r) rfl rfl ?_
  refine V_callV (pc := 4) dX11_anyOf_4 (F' := 0) (As := [vi (J.1 7), vi d, vi r]) (st := []) cw_RX11_309 rfl rfl hL.t30 (by decide) (Nat.le_of_ble_eq_true rfl) (by omega) (y_undone (F (J.1 7).toNat 2) m (J.1 7) d r   (by first | assumption | omega) ⟨RFz.at (w := 2) hS (RZ.f hZ) ⟨hp.2.2.1, hp.2.2.2.1⟩ (by decide), by omega, by omega⟩ (by omega)) ?_
  rintro _ _ ⟨x4, rfl, hx4, rfl⟩ ok4 le4
  subst hx4
  refine V_st (pc := 7) dX11_anyOf_7 (ls' := [(5, vi (ndA d r (F (J.1 7).toNat 2))), (0, vr 30), (1, vi (J.1 7)), (2, vi d), (3, vi r), (4, vi (J.1 8))]) rfl (Nat.le_of_ble_eq_true rfl) rfl ?_
  refine V_ld (pc := 9) dX11_anyOf_9 (v := vr 30) rfl rfl ?_
  refine V_ld (pc := 10) dX11_anyOf_10 (v := vi (J.1 7)) rfl rfl ?_
  refine V_ld (pc := 11) dX11_anyOf_11 (v := vi d) rfl rfl ?_
  refine V_ld (pc := 12) dX11_anyOf_12 (v := vi (ndA d r (F (J.1 7).toNat 2))) rfl rfl ?_
  refine V_iconst (pc := 14) dX11_anyOf_14 (by unfold I32; omega) ?_
  refine V_iadd (pc := 15) dX11_anyOf_15 (by unfold I32 at *; omega) ?_
  refine V_callV (pc := 16) dX11_anyOf_16 (F' := 0) (As := [vi (J.1 7), vi d, vi ((ndA d r (F (J.1 7).toNat 2)) + 1)]) (st := []) cw_RX11_309 rfl rfl hL.t30 (by decide) (Nat.le_of_ble_eq_true rfl) (by omega) (y_undone (F (J.1 7).toNat 2) m (J.1 7) d ((ndA d r (F (J.1 7).toNat 2)) + 1)   (by first | assumption | omega) ⟨RFz.at (w := 2) hS (RZ.f hZ) ⟨hp.2.2.1, hp.2.2.2.1⟩ (by decide), by omega, by omega⟩ (by omega)) ?_
  rintro _ _ ⟨x16, rfl, hx16, rfl⟩ ok16 le16
  subst hx16
  refine V_ld (pc := 19) dX11_anyOf_19 (v := vr 30) rfl rfl ?_
  refine V_getRv (pc := 20) dX11_anyOf_20 (o' := 40) fw_RX11_39 rfl hL.t30 hL.r30_15 ?_
  refine V_ld (pc := 23) dX11_anyOf_23 (v := vi (J.1 7)) rfl rfl ?_
  refine V_ialdv (pc := 24) dX11_anyOf_24 (v := (F (J.1 7).toNat 2)) hL.t40 (by omega) (RFz.at (w := 2) hS (RZ.f hZ) ⟨hp.2.2.1, hp.2.2.2.1⟩ (by decide)) (fun g24 => ?_)
  refine V_icmp_ge (pc := 25) dX11_anyOf_25 (tgt := 44) rfl (fun h25 => ?_) (fun h25 => ?_)
  · skip
    refine V_ld (pc := 44) dX11_anyOf_44 (v := vr 30) rfl rfl ?_
    refine V_ld (pc := 45) dX11_anyOf_45 (v := vi (J.1 7)) rfl rfl ?_
    refine V_ld (pc := 46) dX11_anyOf_46 (v := vi d) rfl rfl ?_
    refine V_iconst (pc := 47) dX11_anyOf_47 (by unfold I32; omega) ?_
    refine V_ld (pc := 48) dX11_anyOf_48 (v := vi (ndA d r (F (J.1 7).toNat 2))) rfl rfl ?_
    refine V_ishl (pc := 50) dX11_anyOf_50 ?_
    refine V_ior (pc := 51) dX11_anyOf_51 ?_
    refine V_iconst (pc := 52) dX11_anyOf_52 (by unfold I32; omega) ?_
    refine V_ld (pc := 53) dX11_anyOf_53 (v := vi (J.1 8)) rfl rfl ?_
    refine V_callV (pc := 55) dX11_anyOf_55 (F' := 0) (As := [vi (J.1 7), vi (or32 d (shl32 1 (ndA d r (F (J.1 7).toNat 2)))), vi 0, vi (J.1 8)]) (st := []) cw_RX11_288 rfl rfl hL.t30 (by decide) (Nat.le_of_ble_eq_true rfl) (by omega) (y_tells (J.1 3) m (J.1 7) (or32 d (shl32 1 (ndA d r (F (J.1 7).toNat 2)))) 0 (J.1 8)   (by first | assumption | omega) ⟨(hZ).2.1.1, by omega, by omega⟩ (by omega)) ?_
    rintro _ _ ⟨x55, rfl, hx55, rfl⟩ ok55 le55
    subst hx55
    refine V_st (pc := 58) dX11_anyOf_58 (ls' := [(6, vi (J.1 3)), (5, vi (ndA d r (F (J.1 7).toNat 2))), (0, vr 30), (1, vi (J.1 7)), (2, vi d), (3, vi r), (4, vi (J.1 8))]) rfl (Nat.le_of_ble_eq_true rfl) rfl ?_
    refine V_ld (pc := 60) dX11_anyOf_60 (v := vr 30) rfl rfl ?_
    refine V_ld (pc := 61) dX11_anyOf_61 (v := vr 30) rfl rfl ?_
    refine V_ld (pc := 62) dX11_anyOf_62 (v := vi (J.1 7)) rfl rfl ?_
    refine V_ld (pc := 63) dX11_anyOf_63 (v := vi (ndA d r (F (J.1 7).toNat 2))) rfl rfl ?_
    refine V_callV (pc := 65) dX11_anyOf_65 (F' := 0) (As := [vi (J.1 7), vi (ndA d r (F (J.1 7).toNat 2))]) (st := [vr 30]) cw_RX11_312 rfl rfl hL.t30 (by decide) (Nat.le_of_ble_eq_true rfl) (by omega) (y_kid F c (setI (setI (setI m 49 (J.1 3).toNat ((or32 d (shl32 1 (ndA d r (F (J.1 7).toNat 2)))) * 64 + 0)) 50 (J.1 3).toNat ((J.1 7) * 8192 + (J.1 8) + 1)) 30 33 ((J.1 3) + 1)) (J.1 7) (ndA d r (F (J.1 7).toNat 2))   (by first | assumption | omega) ⟨RFz.tab hS (RZ.f (RZ.tl (J := J) (far := (or32 d (shl32 1 (ndA d r (F (J.1 7).toNat 2))))) hZ (show 0 ≤ (J.1 3) by omega) ⟨by omega, by omega⟩ (fun h_ => absurd (show F (J.1 7).toNat 0 = 5 from h_) (by omega)) rfl)), by omega, by omega, by omega⟩ (fun i_ hi_ => by have h_ := hkk i_ hi_; exact ⟨h_.1, h_.2.1⟩) (by omega)) ?_
    rintro _ _ ⟨x65, rfl, hx65, rfl⟩ ok65 le65
    subst hx65
    refine V_ld (pc := 68) dX11_anyOf_68 (v := vi (J.1 3)) rfl rfl ?_
    refine V_callV (pc := 70) dX11_anyOf_70 (F' := 0) (As := [vi (kidN F (J.1 7) (ndA d r (F (J.1 7).toNat 2)).toNat), vi (J.1 3)]) (st := []) cw_RX11_292 rfl rfl hL.t30 (by decide) (Nat.le_of_ble_eq_true rfl) (by omega) (y_goes  (setI (setI (setI m 49 (J.1 3).toNat ((or32 d (shl32 1 (ndA d r (F (J.1 7).toNat 2)))) * 64 + 0)) 50 (J.1 3).toNat ((J.1 7) * 8192 + (J.1 8) + 1)) 30 33 ((J.1 3) + 1)) (kidN F (J.1 7) (ndA d r (F (J.1 7).toNat 2)).toNat) (J.1 3)   (by first | assumption | omega)) ?_
    rintro _ _ ⟨rfl, rfl⟩ ok70 le70
    refine V_retv (pc := 73) dX11_anyOf_73 trivial ?_
    first
      | (exfalso; omega)
      | (refine ⟨mI (setI (setI (setI (setI (setI m 49 (J.1 3).toNat ((or32 d (shl32 1 (ndA d r (F (J.1 7).toNat 2)))) * 64 + 0)) 50 (J.1 3).toNat ((J.1 7) * 8192 + (J.1 8) + 1)) 30 33 ((J.1 3) + 1)) 30 46 (kidN F (J.1 7) (ndA d r (F (J.1 7).toNat 2)).toNat)) 30 47 (J.1 3)), rfl, ?_⟩
         rw [ordA_y (x := (ndA d r (F (J.1 7).toNat 2))) hn.1.symm (by omega) (by omega)]
         exact RO.cm (RZ.s78 (J := (pushF F J (or32 d (shl32 1 (ndA d r (F (J.1 7).toNat 2)))))) (k := 7) (v := (kidN F (J.1 7) (ndA d r (F (J.1 7).toNat 2)).toNat)) (RZ.tl (J := J) (far := (or32 d (shl32 1 (ndA d r (F (J.1 7).toNat 2))))) hZ (show 0 ≤ (J.1 3) by omega) ⟨by omega, by omega⟩ (fun h_ => absurd (show F (J.1 7).toNat 0 = 5 from h_) (by omega)) rfl) (Or.inl rfl)) hk4.1 hk4.2 rfl rfl)
      | (refine ⟨mI (setI (setI (setI (setI (setI m 49 (J.1 3).toNat ((or32 d (shl32 1 (ndA d r (F (J.1 7).toNat 2)))) * 64 + 0)) 50 (J.1 3).toNat ((J.1 7) * 8192 + (J.1 8) + 1)) 30 33 ((J.1 3) + 1)) 30 46 (kidN F (J.1 7) (ndA d r (F (J.1 7).toNat 2)).toNat)) 30 47 (J.1 3)), rfl, ?_⟩
         rw [ordA_n (x := (ndA d r (F (J.1 7).toNat 2))) hn.1.symm (by omega) (by omega)]
         exact RO.cm (RZ.s78 (J := (pushF F J (or32 d (shl32 1 (ndA d r (F (J.1 7).toNat 2)))))) (k := 7) (v := (kidN F (J.1 7) (ndA d r (F (J.1 7).toNat 2)).toNat)) (RZ.tl (J := J) (far := (or32 d (shl32 1 (ndA d r (F (J.1 7).toNat 2))))) hZ (show 0 ≤ (J.1 3) by omega) ⟨by omega, by omega⟩ (fun h_ => absurd (show F (J.1 7).toNat 0 = 5 from h_) (by omega)) rfl) (Or.inl rfl)) hk4.1 hk4.2 rfl rfl)
  · skip
    refine V_ld (pc := 28) dX11_anyOf_28 (v := vr 30) rfl rfl ?_
    refine V_ld (pc := 29) dX11_anyOf_29 (v := vi (J.1 7)) rfl rfl ?_
    refine V_ld (pc := 30) dX11_anyOf_30 (v := vi d) rfl rfl ?_
    refine V_bipush (pc := 31) dX11_anyOf_31 (by unfold I32; omega) (by decide) ?_
    refine V_imul (pc := 33) dX11_anyOf_33 (by unfold I32 at *; omega) ?_
    refine V_ld (pc := 34) dX11_anyOf_34 (v := vi (ndA d r (F (J.1 7).toNat 2))) rfl rfl ?_
    refine V_iadd (pc := 36) dX11_anyOf_36 (by unfold I32 at *; omega) ?_
    refine V_iconst (pc := 37) dX11_anyOf_37 (by unfold I32; omega) ?_
    refine V_iadd (pc := 38) dX11_anyOf_38 (by unfold I32 at *; omega) ?_
    refine V_ld (pc := 39) dX11_anyOf_39 (v := vi (J.1 8)) rfl rfl ?_
    refine V_callV (pc := 41) dX11_anyOf_41 (F' := 0) (As := [vi (J.1 7), vi (((d * 8) + (ndA d r (F (J.1 7).toNat 2))) + 1), vi (J.1 8)]) (st := []) cw_RX11_306 rfl rfl hL.t30 (by decide) (Nat.le_of_ble_eq_true rfl) (by omega) (y_leaves (J.1 3) (J.1 5) (J.1 9) m (J.1 7) (((d * 8) + (ndA d r (F (J.1 7).toNat 2))) + 1) (J.1 8)   (by first | assumption | omega) ⟨(hZ).2.1.1, by omega, by omega⟩ ⟨(hZ).2.1.2.1, by omega, by omega⟩ (hZ).2.1.2.2.2.1 (by omega)) ?_
    rintro _ _ ⟨rfl, rfl⟩ ok41 le41
    refine V_ld (pc := 44) dX11_anyOf_44 (v := vr 30) rfl rfl ?_
    refine V_ld (pc := 45) dX11_anyOf_45 (v := vi (J.1 7)) rfl rfl ?_
    refine V_ld (pc := 46) dX11_anyOf_46 (v := vi d) rfl rfl ?_
    refine V_iconst (pc := 47) dX11_anyOf_47 (by unfold I32; omega) ?_
    refine V_ld (pc := 48) dX11_anyOf_48 (v := vi (ndA d r (F (J.1 7).toNat 2))) rfl rfl ?_
    refine V_ishl (pc := 50) dX11_anyOf_50 ?_
    refine V_ior (pc := 51) dX11_anyOf_51 ?_
    refine V_iconst (pc := 52) dX11_anyOf_52 (by unfold I32; omega) ?_
    refine V_ld (pc := 53) dX11_anyOf_53 (v := vi (J.1 8)) rfl rfl ?_
    refine V_callV (pc := 55) dX11_anyOf_55 (F' := 0) (As := [vi (J.1 7), vi (or32 d (shl32 1 (ndA d r (F (J.1 7).toNat 2)))), vi 0, vi (J.1 8)]) (st := []) cw_RX11_288 rfl rfl hL.t30 (by decide) (Nat.le_of_ble_eq_true rfl) (by omega) (y_tells (J.1 3) (setI (setI (setI (setI (setI m 51 (J.1 5).toNat (J.1 7)) 52 (J.1 5).toNat (((d * 8) + (ndA d r (F (J.1 7).toNat 2))) + 1)) 53 (J.1 5).toNat (((J.1 8) + 1) * 8192 + (J.1 3))) 54 (J.1 5).toNat (J.1 9)) 30 38 ((J.1 5) + 1)) (J.1 7) (or32 d (shl32 1 (ndA d r (F (J.1 7).toNat 2)))) 0 (J.1 8)   (by first | assumption | omega) ⟨((RZ.lv (J := J) (far := (d * 8 + (ndA d ((ndA d r (F (J.1 7).toNat 2)) + 1) (F (J.1 7).toNat 2)))) hZ (show 0 ≤ (J.1 5) by omega) (LfR.a hs.1 ⟨hs.2.1, hs.2.2.1⟩ ⟨by omega, by omega⟩ hq4 (by omega)))).2.1.1, by omega, by omega⟩ (by omega)) ?_
    rintro _ _ ⟨x55, rfl, hx55, rfl⟩ ok55 le55
    subst hx55
    refine V_st (pc := 58) dX11_anyOf_58 (ls' := [(6, vi (J.1 3)), (5, vi (ndA d r (F (J.1 7).toNat 2))), (0, vr 30), (1, vi (J.1 7)), (2, vi d), (3, vi r), (4, vi (J.1 8))]) rfl (Nat.le_of_ble_eq_true rfl) rfl ?_
    refine V_ld (pc := 60) dX11_anyOf_60 (v := vr 30) rfl rfl ?_
    refine V_ld (pc := 61) dX11_anyOf_61 (v := vr 30) rfl rfl ?_
    refine V_ld (pc := 62) dX11_anyOf_62 (v := vi (J.1 7)) rfl rfl ?_
    refine V_ld (pc := 63) dX11_anyOf_63 (v := vi (ndA d r (F (J.1 7).toNat 2))) rfl rfl ?_
    refine V_callV (pc := 65) dX11_anyOf_65 (F' := 0) (As := [vi (J.1 7), vi (ndA d r (F (J.1 7).toNat 2))]) (st := [vr 30]) cw_RX11_312 rfl rfl hL.t30 (by decide) (Nat.le_of_ble_eq_true rfl) (by omega) (y_kid F c (setI (setI (setI (setI (setI (setI (setI (setI m 51 (J.1 5).toNat (J.1 7)) 52 (J.1 5).toNat (((d * 8) + (ndA d r (F (J.1 7).toNat 2))) + 1)) 53 (J.1 5).toNat (((J.1 8) + 1) * 8192 + (J.1 3))) 54 (J.1 5).toNat (J.1 9)) 30 38 ((J.1 5) + 1)) 49 (J.1 3).toNat ((or32 d (shl32 1 (ndA d r (F (J.1 7).toNat 2)))) * 64 + 0)) 50 (J.1 3).toNat ((J.1 7) * 8192 + (J.1 8) + 1)) 30 33 ((J.1 3) + 1)) (J.1 7) (ndA d r (F (J.1 7).toNat 2))   (by first | assumption | omega) ⟨RFz.tab hS (RZ.f (RZ.tl (J := (pushO J (d * 8 + (ndA d ((ndA d r (F (J.1 7).toNat 2)) + 1) (F (J.1 7).toNat 2))))) (far := (or32 d (shl32 1 (ndA d r (F (J.1 7).toNat 2))))) (RZ.lv (J := J) (far := (d * 8 + (ndA d ((ndA d r (F (J.1 7).toNat 2)) + 1) (F (J.1 7).toNat 2)))) hZ (show 0 ≤ (J.1 5) by omega) (LfR.a hs.1 ⟨hs.2.1, hs.2.2.1⟩ ⟨by omega, by omega⟩ hq4 (by omega))) (show 0 ≤ (J.1 3) by omega) ⟨by omega, by omega⟩ (fun h_ => absurd (show F (J.1 7).toNat 0 = 5 from h_) (by omega)) rfl)), by omega, by omega, by omega⟩ (fun i_ hi_ => by have h_ := hkk i_ hi_; exact ⟨h_.1, h_.2.1⟩) (by omega)) ?_
    rintro _ _ ⟨x65, rfl, hx65, rfl⟩ ok65 le65
    subst hx65
    refine V_ld (pc := 68) dX11_anyOf_68 (v := vi (J.1 3)) rfl rfl ?_
    refine V_callV (pc := 70) dX11_anyOf_70 (F' := 0) (As := [vi (kidN F (J.1 7) (ndA d r (F (J.1 7).toNat 2)).toNat), vi (J.1 3)]) (st := []) cw_RX11_292 rfl rfl hL.t30 (by decide) (Nat.le_of_ble_eq_true rfl) (by omega) (y_goes  (setI (setI (setI (setI (setI (setI (setI (setI m 51 (J.1 5).toNat (J.1 7)) 52 (J.1 5).toNat (((d * 8) + (ndA d r (F (J.1 7).toNat 2))) + 1)) 53 (J.1 5).toNat (((J.1 8) + 1) * 8192 + (J.1 3))) 54 (J.1 5).toNat (J.1 9)) 30 38 ((J.1 5) + 1)) 49 (J.1 3).toNat ((or32 d (shl32 1 (ndA d r (F (J.1 7).toNat 2)))) * 64 + 0)) 50 (J.1 3).toNat ((J.1 7) * 8192 + (J.1 8) + 1)) 30 33 ((J.1 3) + 1)) (kidN F (J.1 7) (ndA d r (F (J.1 7).toNat 2)).toNat) (J.1 3)   (by first | assumption | omega)) ?_
    rintro _ _ ⟨rfl, rfl⟩ ok70 le70
    refine V_retv (pc := 73) dX11_anyOf_73 trivial ?_
    first
      | (exfalso; omega)
      | (refine ⟨mI (setI (setI (setI (setI (setI (setI (setI (setI (setI (setI m 51 (J.1 5).toNat (J.1 7)) 52 (J.1 5).toNat (((d * 8) + (ndA d r (F (J.1 7).toNat 2))) + 1)) 53 (J.1 5).toNat (((J.1 8) + 1) * 8192 + (J.1 3))) 54 (J.1 5).toNat (J.1 9)) 30 38 ((J.1 5) + 1)) 49 (J.1 3).toNat ((or32 d (shl32 1 (ndA d r (F (J.1 7).toNat 2)))) * 64 + 0)) 50 (J.1 3).toNat ((J.1 7) * 8192 + (J.1 8) + 1)) 30 33 ((J.1 3) + 1)) 30 46 (kidN F (J.1 7) (ndA d r (F (J.1 7).toNat 2)).toNat)) 30 47 (J.1 3)), rfl, ?_⟩
         rw [ordA_y (x := (ndA d r (F (J.1 7).toNat 2))) hn.1.symm (by omega) (by omega)]
         exact RO.cm (RZ.s78 (J := (pushF F (pushO J (d * 8 + (ndA d ((ndA d r (F (J.1 7).toNat 2)) + 1) (F (J.1 7).toNat 2)))) (or32 d (shl32 1 (ndA d r (F (J.1 7).toNat 2)))))) (k := 7) (v := (kidN F (J.1 7) (ndA d r (F (J.1 7).toNat 2)).toNat)) (RZ.tl (J := (pushO J (d * 8 + (ndA d ((ndA d r (F (J.1 7).toNat 2)) + 1) (F (J.1 7).toNat 2))))) (far := (or32 d (shl32 1 (ndA d r (F (J.1 7).toNat 2))))) (RZ.lv (J := J) (far := (d * 8 + (ndA d ((ndA d r (F (J.1 7).toNat 2)) + 1) (F (J.1 7).toNat 2)))) hZ (show 0 ≤ (J.1 5) by omega) (LfR.a hs.1 ⟨hs.2.1, hs.2.2.1⟩ ⟨by omega, by omega⟩ hq4 (by omega))) (show 0 ≤ (J.1 3) by omega) ⟨by omega, by omega⟩ (fun h_ => absurd (show F (J.1 7).toNat 0 = 5 from h_) (by omega)) rfl) (Or.inl rfl)) hk4.1 hk4.2 rfl rfl)
      | (refine ⟨mI (setI (setI (setI (setI (setI (setI (setI (setI (setI (setI m 51 (J.1 5).toNat (J.1 7)) 52 (J.1 5).toNat (((d * 8) + (ndA d r (F (J.1 7).toNat 2))) + 1)) 53 (J.1 5).toNat (((J.1 8) + 1) * 8192 + (J.1 3))) 54 (J.1 5).toNat (J.1 9)) 30 38 ((J.1 5) + 1)) 49 (J.1 3).toNat ((or32 d (shl32 1 (ndA d r (F (J.1 7).toNat 2)))) * 64 + 0)) 50 (J.1 3).toNat ((J.1 7) * 8192 + (J.1 8) + 1)) 30 33 ((J.1 3) + 1)) 30 46 (kidN F (J.1 7) (ndA d r (F (J.1 7).toNat 2)).toNat)) 30 47 (J.1 3)), rfl, ?_⟩
         rw [ordA_n (x := (ndA d r (F (J.1 7).toNat 2))) hn.1.symm (by omega) (by omega)]
         exact RO.cm (RZ.s78 (J := (pushF F (pushO J (d * 8 + (ndA d ((ndA d r (F (J.1 7).toNat 2)) + 1) (F (J.1 7).toNat 2)))) (or32 d (shl32 1 (ndA d r (F (J.1 7).toNat 2)))))) (k := 7) (v := (kidN F (J.1 7) (ndA d r (F (J.1 7).toNat 2)).toNat)) (RZ.tl (J := (pushO J (d * 8 + (ndA d ((ndA d r (F (J.1 7).toNat 2)) + 1) (F (J.1 7).toNat 2))))) (far := (or32 d (shl32 1 (ndA d r (F (J.1 7).toNat 2))))) (RZ.lv (J := J) (far := (d * 8 + (ndA d ((ndA d r (F (J.1 7).toNat 2)) + 1) (F (J.1 7).toNat 2)))) hZ (show 0 ≤ (J.1 5) by omega) (LfR.a hs.1 ⟨hs.2.1, hs.2.2.1⟩ ⟨by omega, by omega⟩ hq4 (by omega))) (show 0 ≤ (J.1 3) by omega) ⟨by omega, by omega⟩ (fun h_ => absurd (show F (J.1 7).toNat 0 = 5 from h_) (by omega)) rfl) (Or.inl rfl)) hk4.1 hk4.2 rfl rfl)

set_option maxHeartbeats 8000000 in
theorem y_order (I0 : Nat → Nat → Int) (F : Tb) (c : Nat) (n : Int) (may : Int) (hcn : Nat → CEnv → Int) (cl : Nat → Int) (J : SJ) (m : Mem) (d : Int)   (hL : Lay (mT m) (mR m)) (hS : RB I0 F c n may hcn cl) (hZ : RZ I0 (mI m) F J) (hk4 : mI m 30 44 = 0 ∧ mI m 30 45 = 0) (hp : 0 ≤ J.1 3 ∧ J.1 3 < 5030 ∧ 0 ≤ J.1 7 ∧ J.1 7 < (c : Int) ∧ -1 ≤ J.1 8 ∧ J.1 8 ≤ 5030 ∧ 0 ≤ J.1 9 ∧ J.1 9 ≤ 32) (hs : F (J.1 7).toNat 0 = 6 ∧ 0 ≤ d ∧ d < 16 ∧ 0 ≤ J.1 5 ∧ J.1 5 ≤ J.1 10 ∧ J.1 10 ≤ may ∧ may ≤ 5000 ∧ c ≤ 240 ∧ WfT F 0 c) : Ct μX11_order 2 [vr 30, vi (J.1 7), vi d, vi (J.1 8)] m (rv fun m' => ∃ I_ : Nat → Nat → Int, wI m I_ = m' ∧ RO I0 I_ F (ordT F may J d)) := by
  refine Ct_of_V rfl (by decide) rfl (Nat.le_of_ble_eq_true rfl) ?_
  show V μX11_order 2 m _ 0 [(0, vr 30), (1, vi (J.1 7)), (2, vi d), (3, vi (J.1 8))] [] m
  refine V_rg (k := 1) (x := J.1 7) rfl fun r_1 => ?_
  refine V_rg (k := 2) (x := d) rfl fun r_d => ?_
  refine V_rg (k := 3) (x := J.1 8) rfl fun r_3 => ?_
  have hIn := inn_kid (p := J.1 7) hs.2.2.2.2.2.2.2.2 ⟨hp.2.2.1, hp.2.2.2.1⟩ (by omega)
  have hq4 := hIn.2.2.2.1 hs.1
  have hq1 := hIn.1
  clear hIn
  have hb1 := ndA_b (d := d) (r := 0) (inn := (F (J.1 7).toNat 2)) (by omega)
  refine V_ld (pc := 0) dX11_order_0 (v := vr 30) rfl rfl ?_
  refine V_callV (pc := 1) dX11_order_1 (F' := 0) (As := []) (st := []) cw_RX11_296 rfl rfl hL.t30 (by decide) (Nat.le_of_ble_eq_true rfl) (by omega) (y_isTry (J.1 10) may m    (by first | assumption | omega) ⟨(hZ).2.1.2.2.2.2.1, by omega, by omega⟩ (RFz.gm hS (RZ.f hZ))) ?_
  rintro _ _ ⟨x1, rfl, (⟨hc1, hx1, rfl⟩ | ⟨hc1, hx1, rfl⟩)⟩ ok1 le1
  · skip
    subst hx1
    refine V_if_ne (pc := 4) dX11_order_4 (tgt := 8) rfl (fun h_ => absurd h_ (by decide)) (fun _ => ?_)
    refine V_retv (pc := 7) dX11_order_7 trivial ?_
    first
      | (exfalso; omega)
      | (refine ⟨mI (setI m 30 44 1), rfl, ?_⟩
         rw [ordT_o (by omega)]
         exact RO.ov hZ)
  · skip
    subst hx1
    refine V_if_ne (pc := 4) dX11_order_4 (tgt := 8) rfl (fun _ => ?_) (fun h_ => absurd h_ (by decide))
    refine V_ld (pc := 8) dX11_order_8 (v := vr 30) rfl rfl ?_
    refine V_ld (pc := 9) dX11_order_9 (v := vi (J.1 7)) rfl rfl ?_
    refine V_ld (pc := 10) dX11_order_10 (v := vi d) rfl rfl ?_
    refine V_iconst (pc := 11) dX11_order_11 (by unfold I32; omega) ?_
    refine V_callV (pc := 12) dX11_order_12 (F' := 0) (As := [vi (J.1 7), vi d, vi 0]) (st := []) cw_RX11_309 rfl rfl hL.t30 (by decide) (Nat.le_of_ble_eq_true rfl) (by omega) (y_undone (F (J.1 7).toNat 2) (setI m 30 39 ((J.1 10) + 1)) (J.1 7) d 0   (by first | assumption | omega) ⟨RFz.at (w := 2) hS (RZ.f (RZ.set (J := J) (q := 39) (k := 10) (v := (J.1 10) + 1) hZ (Or.inr ⟨rfl, rfl⟩))) ⟨hp.2.2.1, hp.2.2.2.1⟩ (by decide), by omega, by omega⟩ (by omega)) ?_
    rintro _ _ ⟨x12, rfl, hx12, rfl⟩ ok12 le12
    subst hx12
    refine V_ld (pc := 15) dX11_order_15 (v := vr 30) rfl rfl ?_
    refine V_getRv (pc := 16) dX11_order_16 (o' := 40) fw_RX11_39 rfl hL.t30 hL.r30_15 ?_
    refine V_ld (pc := 19) dX11_order_19 (v := vi (J.1 7)) rfl rfl ?_
    refine V_ialdv (pc := 20) dX11_order_20 (v := (F (J.1 7).toNat 2)) hL.t40 (by omega) (RFz.at (w := 2) hS (RZ.f (RZ.set (J := J) (q := 39) (k := 10) (v := (J.1 10) + 1) hZ (Or.inr ⟨rfl, rfl⟩))) ⟨hp.2.2.1, hp.2.2.2.1⟩ (by decide)) (fun g20 => ?_)
    refine V_icmp_ne (pc := 21) dX11_order_21 (tgt := 33) rfl (fun h21 => ?_) (fun h21 => ?_)
    · skip
      refine V_ld (pc := 33) dX11_order_33 (v := vr 30) rfl rfl ?_
      refine V_ld (pc := 34) dX11_order_34 (v := vi (J.1 7)) rfl rfl ?_
      refine V_ld (pc := 35) dX11_order_35 (v := vi d) rfl rfl ?_
      refine V_iconst (pc := 36) dX11_order_36 (by unfold I32; omega) ?_
      refine V_ld (pc := 37) dX11_order_37 (v := vi (J.1 8)) rfl rfl ?_
      refine V_callV (pc := 38) dX11_order_38 (F' := 1) (As := [vi ((tryJ J).1 7), vi d, vi 0, vi ((tryJ J).1 8)]) (st := []) cw_RX11_316 rfl rfl hL.t30 (by decide) (Nat.le_of_ble_eq_true rfl) (by omega) (y_anyOf I0 F c n may hcn cl (tryJ J) 0 (setI m 30 39 ((J.1 10) + 1)) d 0   (by first | assumption | omega) hS (RZ.set (J := J) (q := 39) (k := 10) (v := (J.1 10) + 1) hZ (Or.inr ⟨rfl, rfl⟩)) ⟨hk4.1, hk4.2⟩ (show 0 ≤ J.1 3 ∧ J.1 3 < 5030 ∧ 0 ≤ J.1 7 ∧ J.1 7 < (c : Int) ∧ -1 ≤ J.1 8 ∧ J.1 8 ≤ 5030 ∧ 0 ≤ J.1 9 ∧ J.1 9 ≤ 32 from hp) (show F (J.1 7).toNat 0 = 6 ∧ 0 ≤ d ∧ d < 16 ∧ (0 : Int) ≤ 0 ∧ 0 ≤ F (J.1 7).toNat 2 ∧ 0 ≤ J.1 5 ∧ J.1 5 < 5010 ∧ c ≤ 240 ∧ WfT F 0 c from ⟨hs.1, hs.2.1, hs.2.2.1, Int.le_refl _, by omega, by omega, by omega, by omega, hs.2.2.2.2.2.2.2.2⟩) (show (ndA d 0 (F (J.1 7).toNat 2)) = (ndA d 0 (F (J.1 7).toNat 2)) ∧ (ndA d 0 (F (J.1 7).toNat 2)) < (F (J.1 7).toNat 2) from ⟨rfl, by omega⟩)) ?_
      rintro _ _ ⟨rfl, Ix38, rfl, hm38⟩ ok38 le38
      refine V_retv (pc := 41) dX11_order_41 trivial ?_
      first
        | (exfalso; omega)
        | (refine ⟨mI (wI (setI m 30 39 ((J.1 10) + 1)) Ix38), rfl, ?_⟩
           rw [ordT_d (by omega) (by omega)]
           exact hm38)
        | (refine ⟨mI (wI (setI m 30 39 ((J.1 10) + 1)) Ix38), rfl, ?_⟩
           rw [ordT_t (by omega)]
           exact hm38)
    · skip
      refine V_ld (pc := 24) dX11_order_24 (v := vr 30) rfl rfl ?_
      refine V_iconst (pc := 25) dX11_order_25 (by unfold I32; omega) ?_
      refine V_ld (pc := 26) dX11_order_26 (v := vi (J.1 8)) rfl rfl ?_
      refine V_callV (pc := 27) dX11_order_27 (F' := 0) (As := [vi (-1), vi (J.1 8)]) (st := []) cw_RX11_292 rfl rfl hL.t30 (by decide) (Nat.le_of_ble_eq_true rfl) (by omega) (y_goes  (setI m 30 39 ((J.1 10) + 1)) (-1) (J.1 8)   (by first | assumption | omega)) ?_
      rintro _ _ ⟨rfl, rfl⟩ ok27 le27
      refine V_goto (pc := 30) dX11_order_30 (tgt := 41) rfl ?_
      refine V_retv (pc := 41) dX11_order_41 trivial ?_
      first
        | (exfalso; omega)
        | (refine ⟨mI (setI (setI (setI m 30 39 ((J.1 10) + 1)) 30 46 (-1)) 30 47 (J.1 8)), rfl, ?_⟩
           rw [ordT_d (by omega) (by omega)]
           exact RO.dn (RZ.set (J := J) (q := 39) (k := 10) (v := (J.1 10) + 1) hZ (Or.inr ⟨rfl, rfl⟩)) hk4.1 hk4.2 rfl)
        | (refine ⟨mI (setI (setI (setI m 30 39 ((J.1 10) + 1)) 30 46 (-1)) 30 47 (J.1 8)), rfl, ?_⟩
           rw [ordT_t (by omega)]
           exact RO.dn (RZ.set (J := J) (q := 39) (k := 10) (v := (J.1 10) + 1) hZ (Or.inr ⟨rfl, rfl⟩)) hk4.1 hk4.2 rfl)
