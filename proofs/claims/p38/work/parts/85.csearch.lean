/-! the class searches: parts in any order, letters -/
set_option maxHeartbeats 4000000 in
theorem L_zkid {F0 : Nat} {m0 m : Mem} {post : Option AV → Mem → Prop} {P Q L c : Nat} {F : Tb} {p rk inn lt d r : Int} (hL : Lay (mT m) (mR m)) (TP : mT m P = (4, 2)) (RP_ : mR m P 0 = some Q) (TQ : mT m Q = (20, L)) (hcc : mI m P 1 = (c : Int) ∧ c * 9 ≤ L ∧ L ≤ 2160) (hT : CTab (mI m) Q F c) (hF : 0 < F0) (hk : ∀ i : Nat, (i : Int) < rk → 0 ≤ kidN F p i ∧ kidN F p i < (c : Int)) (hr : 0 ≤ rk ∧ rk ≤ 100) (kx : V μX6_order F0 m0 post 97 [(8, vi rk), (7, vi (kidN F p rk.toNat)), (6, vi lt), (5, vi rk), (4, vi inn), (0, vr 9), (1, vr P), (2, vi d), (3, vi r)] [] m) : ∀ (dd i : Nat), (dd : Int) + (i : Int) = rk → V μX6_order F0 m0 post 74 [(8, vi (i : Int)), (7, vi (kidN F p i)), (6, vi lt), (5, vi rk), (4, vi inn), (0, vr 9), (1, vr P), (2, vi d), (3, vi r)] [] m := by
  intro dd
  induction dd with
  | zero =>
    intro i hi
    have hi' : rk.toNat = i := by omega
    rw [hi'] at kx
    obtain rfl : rk = (i : Int) := by omega
    refine V_ld (pc := 74) dX6_order_74 (v := vi (i : Int)) rfl rfl ?_
    refine V_ld (pc := 76) dX6_order_76 (v := vi (i : Int)) rfl rfl ?_
    refine V_icmp_ge (pc := 78) dX6_order_78 (tgt := 97) rfl (fun h78 => ?_) (fun h78 => ?_)
    · skip
      first | exact kx | (skip; exact kx)
    · skip
      exfalso; omega
  | succ dd ih =>
    intro i hi
    have hki := hk i (by omega)
    refine V_ld (pc := 74) dX6_order_74 (v := vi (i : Int)) rfl rfl ?_
    refine V_ld (pc := 76) dX6_order_76 (v := vi rk) rfl rfl ?_
    refine V_icmp_ge (pc := 78) dX6_order_78 (tgt := 97) rfl (fun h78 => ?_) (fun h78 => ?_)
    · skip
      exfalso; omega
    · skip
      refine V_ld (pc := 81) dX6_order_81 (v := vr P) rfl rfl ?_
      refine V_ld (pc := 82) dX6_order_82 (v := vi (kidN F p i)) rfl rfl ?_
      refine V_bipush (pc := 84) dX6_order_84 (by unfold I32; omega) (by decide) ?_
      refine V_callV (pc := 86) dX6_order_86 (F' := 0) (As := [vi (kidN F p i), vi 8]) (st := []) cw_RX6_106 rfl rfl TP (by decide) (Nat.le_of_ble_eq_true rfl) hF (c_factT L F c 8 m P (kidN F p i) 8 Q  TP RP_ TQ hcc hT ⟨hki.1, hki.2⟩ ⟨by decide, by decide⟩) ?_
      rintro _ _ ⟨x86, rfl, rfl, rfl⟩ ok86 le86
      refine V_st (pc := 89) dX6_order_89 (ls' := [(7, vi (kidN F p (i + 1))), (8, vi (i : Int)), (6, vi lt), (5, vi rk), (4, vi inn), (0, vr 9), (1, vr P), (2, vi d), (3, vi r)]) rfl (Nat.le_of_ble_eq_true rfl) rfl ?_
      refine V_iinc (pc := 91) dX6_order_91 (x := (i : Int)) (ls' := [(8, vi ((i : Int) + 1)), (7, vi (kidN F p (i + 1))), (6, vi lt), (5, vi rk), (4, vi inn), (0, vr 9), (1, vr P), (2, vi d), (3, vi r)]) rfl (by unfold I32 at *; omega) (Nat.le_of_ble_eq_true rfl) rfl ?_
      refine V_goto (pc := 94) dX6_order_94 (tgt := 74) rfl ?_
      skip
      exact ih (i + 1) (by omega)

set_option maxHeartbeats 16000000 in
theorem z_order (b : Mem) (Q : Nat) (L : Nat) (F : Tb) (c : Nat) (n : Int) (may : Int) (hcn : Nat → CEnv → Int) (cl : Nat → Int) (J : SJ) (m : Mem) (P : Nat) (d : Int) (r : Int)   (hS : SB b P Q L F c n may hcn cl) (hZ : CZ b m F J) (hp : 0 ≤ J.1 3 ∧ J.1 3 ≤ 5006 ∧ 0 ≤ J.1 5 ∧ J.1 5 ≤ 5001 ∧ 0 ≤ J.1 7 ∧ J.1 7 < (c : Int)) (hs : F (J.1 7).toNat 0 = 6 ∧ 0 ≤ d ∧ d < 16 ∧ 0 ≤ r ∧ r ≤ F (J.1 7).toNat 2 ∧ J.1 5 ≤ 5000) : Ct μX6_order 4 [vr 9, vr P, vi d, vi r] m (ri fun x_ m' => (x_ = (ordA F J d r).1) ∧ CZ b m' F (ordA F J d r).2) := by
  refine Ct_of_V rfl (by decide) rfl (Nat.le_of_ble_eq_true rfl) ?_
  show V μX6_order 4 m _ 0 [(0, vr 9), (1, vr P), (2, vi d), (3, vi r)] [] m
  refine V_rg (k := 2) (x := d) rfl fun r_d => ?_
  refine V_rg (k := 3) (x := r) rfl fun r_r => ?_
  have hL := CZ.lay hS hZ
  have hW := SB.w hS
  have hIn := inn_kid hW ⟨hp.2.2.2.2.1, hp.2.2.2.2.2⟩ (by omega)
  have hq4 := hIn.2.2.2.1 hs.1
  have hb1 := ndA_b (d := d) (r := r) (inn := (F (J.1 7).toNat 2)) hs.2.2.2.2.1
  refine V_ld (pc := 0) dX6_order_0 (v := vr P) rfl rfl ?_
  refine V_ld (pc := 1) dX6_order_1 (v := vr 9) rfl rfl ?_
  refine V_getIv (pc := 2) dX6_order_2 (v := (J.1 7)) fw_RX6_76 rfl (hL.t9) (CZ.s hZ (k := 7) (by decide)) (fun g2 => ?_)
  refine V_iconst (pc := 5) dX6_order_5 (by unfold I32; omega) ?_
  refine V_callV (pc := 6) dX6_order_6 (F' := 0) (As := [vi (J.1 7), vi 2]) (st := []) cw_RX6_106 rfl rfl (CZ.tP hS hZ) (by decide) (Nat.le_of_ble_eq_true rfl) (by omega) (c_factT L F c 2 m P (J.1 7) 2 Q  (CZ.tP hS hZ) (CZ.rQ hS hZ) (CZ.tQ hS hZ) (CZ.gc hS hZ) (CZ.tab hS hZ) ⟨hp.2.2.2.2.1, hp.2.2.2.2.2⟩ ⟨by decide, by decide⟩) ?_
  rintro _ _ ⟨x6, rfl, rfl, rfl⟩ ok6 le6
  refine V_st (pc := 9) dX6_order_9 (ls' := [(4, vi (F (J.1 7).toNat 2)), (0, vr 9), (1, vr P), (2, vi d), (3, vi r)]) rfl (Nat.le_of_ble_eq_true rfl) rfl ?_
  refine V_ld (pc := 11) dX6_order_11 (v := vi d) rfl rfl ?_
  refine V_ld (pc := 12) dX6_order_12 (v := vi r) rfl rfl ?_
  refine V_ld (pc := 13) dX6_order_13 (v := vi (F (J.1 7).toNat 2)) rfl rfl ?_
  refine V_callS (pc := 15) dX6_order_15 (F' := 0) (As := [vi d, vi r, vi (F (J.1 7).toNat 2)]) (st := []) cw_RX6_161 rfl rfl (Nat.le_of_ble_eq_true rfl) (by omega) (z_notDone  m d r (F (J.1 7).toNat 2)   (by omega)) ?_
  rintro _ _ ⟨x15, rfl, rfl, rfl⟩ ok15 le15
  refine V_st (pc := 18) dX6_order_18 (ls' := [(5, vi (ndA d r (F (J.1 7).toNat 2))), (4, vi (F (J.1 7).toNat 2)), (0, vr 9), (1, vr P), (2, vi d), (3, vi r)]) rfl (Nat.le_of_ble_eq_true rfl) rfl ?_
  refine V_ld (pc := 20) dX6_order_20 (v := vi (ndA d r (F (J.1 7).toNat 2))) rfl rfl ?_
  refine V_ld (pc := 22) dX6_order_22 (v := vi (F (J.1 7).toNat 2)) rfl rfl ?_
  refine V_icmp_lt (pc := 24) dX6_order_24 (tgt := 29) rfl (fun h24 => ?_) (fun h24 => ?_)
  · skip
    refine V_ld (pc := 29) dX6_order_29 (v := vi d) rfl rfl ?_
    refine V_ld (pc := 30) dX6_order_30 (v := vi (ndA d r (F (J.1 7).toNat 2))) rfl rfl ?_
    refine V_iconst (pc := 32) dX6_order_32 (by unfold I32; omega) ?_
    refine V_iadd (pc := 33) dX6_order_33 (by unfold I32 at *; omega) ?_
    refine V_ld (pc := 34) dX6_order_34 (v := vi (F (J.1 7).toNat 2)) rfl rfl ?_
    refine V_callS (pc := 36) dX6_order_36 (F' := 0) (As := [vi d, vi ((ndA d r (F (J.1 7).toNat 2)) + 1), vi (F (J.1 7).toNat 2)]) (st := []) cw_RX6_161 rfl rfl (Nat.le_of_ble_eq_true rfl) (by omega) (z_notDone  m d ((ndA d r (F (J.1 7).toNat 2)) + 1) (F (J.1 7).toNat 2)   (by omega)) ?_
    rintro _ _ ⟨x36, rfl, rfl, rfl⟩ ok36 le36
    refine V_st (pc := 39) dX6_order_39 (ls' := [(6, vi (ndA d ((ndA d r (F (J.1 7).toNat 2)) + 1) (F (J.1 7).toNat 2))), (5, vi (ndA d r (F (J.1 7).toNat 2))), (4, vi (F (J.1 7).toNat 2)), (0, vr 9), (1, vr P), (2, vi d), (3, vi r)]) rfl (Nat.le_of_ble_eq_true rfl) rfl ?_
    have hb2 := ndA_b (d := d) (r := (ndA d r (F (J.1 7).toNat 2)) + 1) (inn := (F (J.1 7).toNat 2)) (by omega)
    refine V_ld (pc := 41) dX6_order_41 (v := vi (ndA d ((ndA d r (F (J.1 7).toNat 2)) + 1) (F (J.1 7).toNat 2))) rfl rfl ?_
    refine V_ld (pc := 43) dX6_order_43 (v := vi (F (J.1 7).toNat 2)) rfl rfl ?_
    refine V_icmp_ge (pc := 45) dX6_order_45 (tgt := 59) rfl (fun h45 => ?_) (fun h45 => ?_)
    · skip
      refine V_ld (pc := 59) dX6_order_59 (v := vr P) rfl rfl ?_
      refine V_ld (pc := 60) dX6_order_60 (v := vr 9) rfl rfl ?_
      refine V_getIv (pc := 61) dX6_order_61 (v := (J.1 7)) fw_RX6_76 rfl (hL.t9) (CZ.s hZ (k := 7) (by decide)) (fun g61 => ?_)
      refine V_bipush (pc := 64) dX6_order_64 (by unfold I32; omega) (by decide) ?_
      refine V_callV (pc := 66) dX6_order_66 (F' := 0) (As := [vi (J.1 7), vi 7]) (st := []) cw_RX6_106 rfl rfl (CZ.tP hS hZ) (by decide) (Nat.le_of_ble_eq_true rfl) (by omega) (c_factT L F c 7 m P (J.1 7) 7 Q  (CZ.tP hS hZ) (CZ.rQ hS hZ) (CZ.tQ hS hZ) (CZ.gc hS hZ) (CZ.tab hS hZ) ⟨hp.2.2.2.2.1, hp.2.2.2.2.2⟩ ⟨by decide, by decide⟩) ?_
      rintro _ _ ⟨x66, rfl, rfl, rfl⟩ ok66 le66
      refine V_st (pc := 69) dX6_order_69 (ls' := [(7, vi (F (J.1 7).toNat 7)), (6, vi (ndA d ((ndA d r (F (J.1 7).toNat 2)) + 1) (F (J.1 7).toNat 2))), (5, vi (ndA d r (F (J.1 7).toNat 2))), (4, vi (F (J.1 7).toNat 2)), (0, vr 9), (1, vr P), (2, vi d), (3, vi r)]) rfl (Nat.le_of_ble_eq_true rfl) rfl ?_
      refine V_iconst (pc := 71) dX6_order_71 (by unfold I32; omega) ?_
      refine V_st (pc := 72) dX6_order_72 (ls' := [(8, vi 0), (7, vi (F (J.1 7).toNat 7)), (6, vi (ndA d ((ndA d r (F (J.1 7).toNat 2)) + 1) (F (J.1 7).toNat 2))), (5, vi (ndA d r (F (J.1 7).toNat 2))), (4, vi (F (J.1 7).toNat 2)), (0, vr 9), (1, vr P), (2, vi d), (3, vi r)]) rfl (Nat.le_of_ble_eq_true rfl) rfl ?_
      refine V_ls (ls' := [(8, vi 0), (7, vi (F (J.1 7).toNat 7)), (6, vi (ndA d ((ndA d r (F (J.1 7).toNat 2)) + 1) (F (J.1 7).toNat 2))), (5, vi (ndA d r (F (J.1 7).toNat 2))), (4, vi (F (J.1 7).toNat 2)), (0, vr 9), (1, vr P), (2, vi d), (3, vi r)]) (by intro q_ h_; simp only [List.mem_cons, List.not_mem_nil, or_false] at h_ ⊢; rcases h_ with rfl | rfl | rfl | rfl | rfl | rfl | rfl | rfl | rfl <;> simp) ?_
      refine L_zkid (m := m) (P := P) (Q := Q) (L := L) (c := c) (F := F) (p := J.1 7) (rk := (ndA d r (F (J.1 7).toNat 2))) (inn := (F (J.1 7).toNat 2)) (lt := (ndA d ((ndA d r (F (J.1 7).toNat 2)) + 1) (F (J.1 7).toNat 2))) (d := d) (r := r) (CZ.lay hS hZ) (CZ.tP hS hZ) (CZ.rQ hS hZ) (CZ.tQ hS hZ) (CZ.gc hS hZ) (CZ.tab hS hZ) (by omega) (fun i_ hi_ => by have h_ := hIn.2.2.2.2.2.2 i_ (by omega); exact ⟨h_.1, h_.2.1⟩) (by omega) ?_ (ndA d r (F (J.1 7).toNat 2)).toNat 0 (by omega)
      refine V_ld (pc := 97) dX6_order_97 (v := vr 9) rfl rfl ?_
      refine V_ld (pc := 98) dX6_order_98 (v := vi d) rfl rfl ?_
      refine V_iconst (pc := 99) dX6_order_99 (by unfold I32; omega) ?_
      refine V_ld (pc := 100) dX6_order_100 (v := vi (ndA d r (F (J.1 7).toNat 2))) rfl rfl ?_
      refine V_ishl (pc := 102) dX6_order_102 ?_
      refine V_ior (pc := 103) dX6_order_103 ?_
      refine V_callV (pc := 104) dX6_order_104 (F' := 2) (As := [vi (or32 d (shl32 1 (ndA d r (F (J.1 7).toNat 2))))]) (st := []) cw_RX6_154 rfl rfl (hL.t9) (by decide) (Nat.le_of_ble_eq_true rfl) (by omega) (z_pushFrame b P Q L F c n may hcn cl J (or32 d (shl32 1 (ndA d r (F (J.1 7).toNat 2)))) m (or32 d (shl32 1 (ndA d r (F (J.1 7).toNat 2))))   hS hZ (by first | exact ⟨hp.1, hp.2.1⟩ | (constructor <;> omega)) (stC_n (show ¬ F (J.1 7).toNat 0 = 3 by omega)).symm) ?_
      rintro _ m104 ⟨rfl, hm104⟩ ok104 le104
      refine V_ld (pc := 107) dX6_order_107 (v := vr 9) rfl rfl ?_
      refine V_ld (pc := 108) dX6_order_108 (v := vi (kidN F (J.1 7) (ndA d r (F (J.1 7).toNat 2)).toNat)) rfl rfl ?_
      refine V_putI (pc := 110) dX6_order_110 fw_RX6_76 rfl (CZ.lay hS hm104).t9 (Or.inl rfl) (Or.inl rfl) ?_
      refine V_iconst (pc := 113) dX6_order_113 (by unfold I32; omega) ?_
      refine V_reti (pc := 114) dX6_order_114 trivial ?_
      first
        | (exfalso; omega)
        | (have e_ : ordA F J d r = (0, (setS (pushF F J (or32 d (shl32 1 (ndA d r (F (J.1 7).toNat 2))))) 7 (kidN F (J.1 7) (ndA d r (F (J.1 7).toNat 2)).toNat))) := by (unfold ordA ordP; repeat (first | rw [if_pos (by omega)] | rw [if_neg (by omega)]))
           rw [e_]
           exact ⟨rfl, (CZ.set (k := 7) (v := (kidN F (J.1 7) (ndA d r (F (J.1 7).toNat 2)).toNat)) hm104 (fun e_ => absurd e_ (by decide)) (fun e_ => absurd e_ (by decide)))⟩)
    · skip
      refine V_ld (pc := 48) dX6_order_48 (v := vr 9) rfl rfl ?_
      refine V_ld (pc := 49) dX6_order_49 (v := vi d) rfl rfl ?_
      refine V_bipush (pc := 50) dX6_order_50 (by unfold I32; omega) (by decide) ?_
      refine V_imul (pc := 52) dX6_order_52 (by unfold I32 at *; omega) ?_
      refine V_ld (pc := 53) dX6_order_53 (v := vi (ndA d ((ndA d r (F (J.1 7).toNat 2)) + 1) (F (J.1 7).toNat 2))) rfl rfl ?_
      refine V_iadd (pc := 55) dX6_order_55 (by unfold I32 at *; omega) ?_
      refine V_callV (pc := 56) dX6_order_56 (F' := 2) (As := [vi ((d * 8) + (ndA d ((ndA d r (F (J.1 7).toNat 2)) + 1) (F (J.1 7).toNat 2)))]) (st := []) cw_RX6_158 rfl rfl (hL.t9) (by decide) (Nat.le_of_ble_eq_true rfl) (by omega) (z_pushOption b P Q L F c n may hcn cl J (d * 8 + (ndA d ((ndA d r (F (J.1 7).toNat 2)) + 1) (F (J.1 7).toNat 2))) m ((d * 8) + (ndA d ((ndA d r (F (J.1 7).toNat 2)) + 1) (F (J.1 7).toNat 2)))   hS hZ (by constructor <;> omega) (lfC_n (show ¬ F (J.1 7).toNat 0 = 4 by omega)).symm) ?_
      rintro _ m56 ⟨rfl, hm56⟩ ok56 le56
      refine V_ld (pc := 59) dX6_order_59 (v := vr P) rfl rfl ?_
      refine V_ld (pc := 60) dX6_order_60 (v := vr 9) rfl rfl ?_
      refine V_getIv (pc := 61) dX6_order_61 (v := (J.1 7)) fw_RX6_76 rfl (CZ.lay hS hm56).t9 (CZ.s hm56 (k := 7) (by decide)) (fun g61 => ?_)
      refine V_bipush (pc := 64) dX6_order_64 (by unfold I32; omega) (by decide) ?_
      refine V_callV (pc := 66) dX6_order_66 (F' := 0) (As := [vi (J.1 7), vi 7]) (st := []) cw_RX6_106 rfl rfl (CZ.tP hS hm56) (by decide) (Nat.le_of_ble_eq_true rfl) (by omega) (c_factT L F c 7 m56 P (J.1 7) 7 Q  (CZ.tP hS hm56) (CZ.rQ hS hm56) (CZ.tQ hS hm56) (CZ.gc hS hm56) (CZ.tab hS hm56) ⟨hp.2.2.2.2.1, hp.2.2.2.2.2⟩ ⟨by decide, by decide⟩) ?_
      rintro _ _ ⟨x66, rfl, rfl, rfl⟩ ok66 le66
      refine V_st (pc := 69) dX6_order_69 (ls' := [(7, vi (F (J.1 7).toNat 7)), (6, vi (ndA d ((ndA d r (F (J.1 7).toNat 2)) + 1) (F (J.1 7).toNat 2))), (5, vi (ndA d r (F (J.1 7).toNat 2))), (4, vi (F (J.1 7).toNat 2)), (0, vr 9), (1, vr P), (2, vi d), (3, vi r)]) rfl (Nat.le_of_ble_eq_true rfl) rfl ?_
      refine V_iconst (pc := 71) dX6_order_71 (by unfold I32; omega) ?_
      refine V_st (pc := 72) dX6_order_72 (ls' := [(8, vi 0), (7, vi (F (J.1 7).toNat 7)), (6, vi (ndA d ((ndA d r (F (J.1 7).toNat 2)) + 1) (F (J.1 7).toNat 2))), (5, vi (ndA d r (F (J.1 7).toNat 2))), (4, vi (F (J.1 7).toNat 2)), (0, vr 9), (1, vr P), (2, vi d), (3, vi r)]) rfl (Nat.le_of_ble_eq_true rfl) rfl ?_
      refine V_ls (ls' := [(8, vi 0), (7, vi (F (J.1 7).toNat 7)), (6, vi (ndA d ((ndA d r (F (J.1 7).toNat 2)) + 1) (F (J.1 7).toNat 2))), (5, vi (ndA d r (F (J.1 7).toNat 2))), (4, vi (F (J.1 7).toNat 2)), (0, vr 9), (1, vr P), (2, vi d), (3, vi r)]) (by intro q_ h_; simp only [List.mem_cons, List.not_mem_nil, or_false] at h_ ⊢; rcases h_ with rfl | rfl | rfl | rfl | rfl | rfl | rfl | rfl | rfl <;> simp) ?_
      refine L_zkid (m := m56) (P := P) (Q := Q) (L := L) (c := c) (F := F) (p := J.1 7) (rk := (ndA d r (F (J.1 7).toNat 2))) (inn := (F (J.1 7).toNat 2)) (lt := (ndA d ((ndA d r (F (J.1 7).toNat 2)) + 1) (F (J.1 7).toNat 2))) (d := d) (r := r) (CZ.lay hS hm56) (CZ.tP hS hm56) (CZ.rQ hS hm56) (CZ.tQ hS hm56) (CZ.gc hS hm56) (CZ.tab hS hm56) (by omega) (fun i_ hi_ => by have h_ := hIn.2.2.2.2.2.2 i_ (by omega); exact ⟨h_.1, h_.2.1⟩) (by omega) ?_ (ndA d r (F (J.1 7).toNat 2)).toNat 0 (by omega)
      refine V_ld (pc := 97) dX6_order_97 (v := vr 9) rfl rfl ?_
      refine V_ld (pc := 98) dX6_order_98 (v := vi d) rfl rfl ?_
      refine V_iconst (pc := 99) dX6_order_99 (by unfold I32; omega) ?_
      refine V_ld (pc := 100) dX6_order_100 (v := vi (ndA d r (F (J.1 7).toNat 2))) rfl rfl ?_
      refine V_ishl (pc := 102) dX6_order_102 ?_
      refine V_ior (pc := 103) dX6_order_103 ?_
      refine V_callV (pc := 104) dX6_order_104 (F' := 2) (As := [vi (or32 d (shl32 1 (ndA d r (F (J.1 7).toNat 2))))]) (st := []) cw_RX6_154 rfl rfl (CZ.lay hS hm56).t9 (by decide) (Nat.le_of_ble_eq_true rfl) (by omega) (z_pushFrame b P Q L F c n may hcn cl (pushO J (d * 8 + (ndA d ((ndA d r (F (J.1 7).toNat 2)) + 1) (F (J.1 7).toNat 2)))) (or32 d (shl32 1 (ndA d r (F (J.1 7).toNat 2)))) m56 (or32 d (shl32 1 (ndA d r (F (J.1 7).toNat 2))))   hS hm56 (by first | exact ⟨hp.1, hp.2.1⟩ | (constructor <;> omega)) (stC_n (show ¬ F (J.1 7).toNat 0 = 3 by omega)).symm) ?_
      rintro _ m104 ⟨rfl, hm104⟩ ok104 le104
      refine V_ld (pc := 107) dX6_order_107 (v := vr 9) rfl rfl ?_
      refine V_ld (pc := 108) dX6_order_108 (v := vi (kidN F (J.1 7) (ndA d r (F (J.1 7).toNat 2)).toNat)) rfl rfl ?_
      refine V_putI (pc := 110) dX6_order_110 fw_RX6_76 rfl (CZ.lay hS hm104).t9 (Or.inl rfl) (Or.inl rfl) ?_
      refine V_iconst (pc := 113) dX6_order_113 (by unfold I32; omega) ?_
      refine V_reti (pc := 114) dX6_order_114 trivial ?_
      first
        | (exfalso; omega)
        | (have e_ : ordA F J d r = (0, (setS (pushF F (pushO J (d * 8 + (ndA d ((ndA d r (F (J.1 7).toNat 2)) + 1) (F (J.1 7).toNat 2)))) (or32 d (shl32 1 (ndA d r (F (J.1 7).toNat 2))))) 7 (kidN F (J.1 7) (ndA d r (F (J.1 7).toNat 2)).toNat))) := by (unfold ordA ordP; repeat (first | rw [if_pos (by omega)] | rw [if_neg (by omega)]))
           rw [e_]
           exact ⟨rfl, (CZ.set (k := 7) (v := (kidN F (J.1 7) (ndA d r (F (J.1 7).toNat 2)).toNat)) hm104 (fun e_ => absurd e_ (by decide)) (fun e_ => absurd e_ (by decide)))⟩)
  · skip
    refine V_iconst (pc := 27) dX6_order_27 (by unfold I32; omega) ?_
    refine V_reti (pc := 28) dX6_order_28 trivial ?_
    first
      | (exfalso; omega)
      | (have e_ : ordA F J d r = (1, J) := by (unfold ordA ordP; repeat (first | rw [if_pos (by omega)] | rw [if_neg (by omega)]))
         rw [e_]
         exact ⟨rfl, hZ⟩)

theorem CZ.agc {b m : Mem} {P Q L c : Nat} {F : Tb} {n may : Int} {hcn : Nat → CEnv → Int} {cl : Nat → Int} {J : SJ} (hS : SB b P Q L F c n may hcn cl) (h : CZ b m F J) (h0 : 0 ≤ J.1 6 ∧ J.1 6 ≤ J.1 9 ∧ J.1 9 < n) : AgC (mI m) (J.1 9) (envJ J n cl) := by
  have e6 : mI m 9 6 = J.1 6 := h.s (by decide)
  have en := h.gn hS
  have hn := hS.2.2.2.1
  refine ⟨e6.symm, rfl, fun k hk => (h.l hk).symm, en.symm, fun k hk => (CZ.cell hS h hk).1.symm, by omega, by omega, by omega, by omega, by omega, fun k hk => (CZ.cell hS h hk).2⟩

set_option maxHeartbeats 4000000 in
theorem z_takeN (b : Mem) (P : Nat) (Q : Nat) (L : Nat) (F : Tb) (c : Nat) (n : Int) (may : Int) (hcn : Nat → CEnv → Int) (cl : Nat → Int) (J : SJ) (m : Mem) (w : Int)   (hS : SB b P Q L F c n may hcn cl) (hZ : CZ b m F J) (hl : 0 ≤ J.1 6 ∧ J.1 6 ≤ J.1 9 ∧ J.1 9 ≤ n ∧ n ≤ 32) (hw : 0 ≤ w ∧ w ≤ 25) (hq : CdAt (setI m 10 (J.1 9).toNat w) 4 w.toNat none ∧ ∀ e, cdV e none = hcn w.toNat e) : Ct μX6_takeLetter 5 [vr 9, vi w] m (ri fun x_ m' => (x_ = (takA n hcn cl J w).1) ∧ CZ b m' F (takA n hcn cl J w).2) := by
  refine Ct_of_V rfl (by decide) rfl (Nat.le_of_ble_eq_true rfl) ?_
  show V μX6_takeLetter 5 m _ 0 [(0, vr 9), (1, vi w)] [] m
  refine V_rg (k := 1) (x := w) rfl fun r_w => ?_
  have hL := CZ.lay hS hZ
  refine V_ld (pc := 0) dX6_takeLetter_0 (v := vr 9) rfl rfl ?_
  refine V_getIv (pc := 1) dX6_takeLetter_1 (v := (J.1 9)) fw_RX6_64 rfl (hL.t9) (CZ.s hZ (k := 9) (by decide)) (fun g1 => ?_)
  refine V_ld (pc := 4) dX6_takeLetter_4 (v := vr 9) rfl rfl ?_
  refine V_getRv (pc := 5) dX6_takeLetter_5 (o' := 1) fw_RX6_21 rfl (hL.t9) (hL.r9_0) ?_
  refine V_getRv (pc := 8) dX6_takeLetter_8 (o' := 2) fw_RX6_31 rfl (hL.t1) (hL.r1_0) ?_
  refine V_getIv (pc := 11) dX6_takeLetter_11 (v := n) fw_RX6_35 rfl (hL.t2) (CZ.gn hS hZ) (fun g11 => ?_)
  refine V_icmp_ge (pc := 14) dX6_takeLetter_14 (tgt := 33) rfl (fun h14 => ?_) (fun h14 => ?_)
  · skip
    refine V_iconst (pc := 33) dX6_takeLetter_33 (by unfold I32; omega) ?_
    refine V_reti (pc := 34) dX6_takeLetter_34 trivial ?_
    first
      | (exfalso; omega)
      | (have e_ : takA n hcn cl J w = (2, J) := by (unfold takA; rw [if_pos (by omega)])
         rw [e_]
         exact ⟨rfl, hZ⟩)
      | (have hev : hcn w.toNat (envJ (setL J (J.1 9).toNat w) n cl) = 1 := (hq.2 _).symm
         have e_ : takA n hcn cl J w = (2, J) := by (unfold takA; rw [if_neg (by omega)]; first | rw [if_pos (by omega)] | rw [if_neg (by omega)])
         rw [e_]
         exact ⟨rfl, hZ⟩)
  · skip
    refine V_ld (pc := 17) dX6_takeLetter_17 (v := vr 9) rfl rfl ?_
    refine V_getIv (pc := 18) dX6_takeLetter_18 (v := (J.1 9)) fw_RX6_64 rfl (hL.t9) (CZ.s hZ (k := 9) (by decide)) (fun g18 => ?_)
    refine V_if_lt (pc := 21) dX6_takeLetter_21 (tgt := 33) rfl (fun h21 => ?_) (fun h21 => ?_)
    · skip
      refine V_iconst (pc := 33) dX6_takeLetter_33 (by unfold I32; omega) ?_
      refine V_reti (pc := 34) dX6_takeLetter_34 trivial ?_
      first
        | (exfalso; omega)
        | (have e_ : takA n hcn cl J w = (2, J) := by (unfold takA; rw [if_pos (by omega)])
           rw [e_]
           exact ⟨rfl, hZ⟩)
        | (have hev : hcn w.toNat (envJ (setL J (J.1 9).toNat w) n cl) = 1 := (hq.2 _).symm
           have e_ : takA n hcn cl J w = (2, J) := by (unfold takA; rw [if_neg (by omega)]; first | rw [if_pos (by omega)] | rw [if_neg (by omega)])
           rw [e_]
           exact ⟨rfl, hZ⟩)
    · skip
      refine V_ld (pc := 24) dX6_takeLetter_24 (v := vr 9) rfl rfl ?_
      refine V_getIv (pc := 25) dX6_takeLetter_25 (v := (J.1 9)) fw_RX6_64 rfl (hL.t9) (CZ.s hZ (k := 9) (by decide)) (fun g25 => ?_)
      refine V_bipush (pc := 28) dX6_takeLetter_28 (by unfold I32; omega) (by decide) ?_
      refine V_icmp_lt (pc := 30) dX6_takeLetter_30 (tgt := 35) rfl (fun h30 => ?_) (fun h30 => ?_)
      · skip
        refine V_ld (pc := 35) dX6_takeLetter_35 (v := vr 9) rfl rfl ?_
        refine V_getRv (pc := 36) dX6_takeLetter_36 (o' := 10) fw_RX6_9 rfl (hL.t9) (hL.r9_1) ?_
        refine V_ld (pc := 39) dX6_takeLetter_39 (v := vr 9) rfl rfl ?_
        refine V_getIv (pc := 40) dX6_takeLetter_40 (v := (J.1 9)) fw_RX6_64 rfl (hL.t9) (CZ.s hZ (k := 9) (by decide)) (fun g40 => ?_)
        refine V_ld (pc := 43) dX6_takeLetter_43 (v := vi w) rfl rfl ?_
        refine V_iast (pc := 44) dX6_takeLetter_44 (hL.t10) (by omega) ?_
        refine V_ld (pc := 45) dX6_takeLetter_45 (v := vi w) rfl rfl ?_
        refine V_callSN (pc := 46) dX6_takeLetter_46 (F' := 0) (As := [vi w]) (st := []) cn_RX6_140 rfl rfl (Nat.le_of_ble_eq_true rfl) (by omega) (c_isLetter  (setI m 10 ((J.1 9).toNat) w) w   ) ?_
        rintro _ _ ⟨x46, rfl, hx46, rfl⟩ ok46 le46
        refine V_if_eq (pc := 49) dX6_takeLetter_49 (tgt := 64) rfl (fun h49 => ?_) (fun h49 => ?_)
        · skip
          refine V_null (pc := 64) dX6_takeLetter_64 ?_
          refine V_st (pc := 65) dX6_takeLetter_65 (ls' := [(2, vq none), (0, vr 9), (1, vi w)]) rfl (Nat.le_of_ble_eq_true rfl) rfl ?_
          refine V_ld (pc := 66) dX6_takeLetter_66 (v := vq none) rfl rfl ?_
          refine V_ifnull (pc := 67) dX6_takeLetter_67 (tgt := 84) rfl (fun _ => ?_) (fun _ h_ => by cases h_)
          refine V_ld (pc := 84) dX6_takeLetter_84 (v := vr 9) rfl rfl ?_
          refine V_dup (pc := 85) dX6_takeLetter_85 rfl ?_
          refine V_getIv (pc := 86) dX6_takeLetter_86 (v := (J.1 9)) fw_RX6_64 rfl (hL.t9) (by first | exact (CZ.s hZ (k := 9) (by decide)) | (simp only [mI_setI, up2]; repeat (first | exact (CZ.s hZ (k := 9) (by decide)) | rw [if_neg (by omega)]))) (fun g86 => ?_)
          refine V_iconst (pc := 89) dX6_takeLetter_89 (by unfold I32; omega) ?_
          refine V_iadd (pc := 90) dX6_takeLetter_90 (by unfold I32 at *; omega) ?_
          refine V_putI (pc := 91) dX6_takeLetter_91 fw_RX6_64 rfl (hL.t9) (Or.inl rfl) (Or.inl rfl) ?_
          refine V_iconst (pc := 94) dX6_takeLetter_94 (by unfold I32; omega) ?_
          refine V_reti (pc := 95) dX6_takeLetter_95 trivial ?_
          first
            | (exfalso; omega)
            | (have e_ : takA n hcn cl J w = (1, (setS (setL J ((J.1 9).toNat) w) 9 ((J.1 9) + 1))) := by (unfold takA; rw [if_pos (by omega)])
               rw [e_]
               exact ⟨rfl, (CZ.set (k := 9) (v := (J.1 9) + 1) (CZ.setL (k := (J.1 9).toNat) (v := w) hZ) (fun e_ => absurd e_ (by decide)) (fun e_ => absurd e_ (by decide)))⟩)
            | (have hev : hcn w.toNat (envJ (setL J (J.1 9).toNat w) n cl) = 1 := (hq.2 _).symm
               have e_ : takA n hcn cl J w = (1, (setS (setL J ((J.1 9).toNat) w) 9 ((J.1 9) + 1))) := by (unfold takA; rw [if_neg (by omega)]; first | rw [if_pos (by omega)] | rw [if_neg (by omega)])
               rw [e_]
               exact ⟨rfl, (CZ.set (k := 9) (v := (J.1 9) + 1) (CZ.setL (k := (J.1 9).toNat) (v := w) hZ) (fun e_ => absurd e_ (by decide)) (fun e_ => absurd e_ (by decide)))⟩)
        · skip
          refine V_ld (pc := 52) dX6_takeLetter_52 (v := vr 9) rfl rfl ?_
          refine V_getRv (pc := 53) dX6_takeLetter_53 (o' := 1) fw_RX6_21 rfl (hL.t9) (hL.r9_0) ?_
          refine V_getRv (pc := 56) dX6_takeLetter_56 (o' := 4) fw_RX6_144 rfl (hL.t1) (hL.r1_1) ?_
          refine V_ld (pc := 59) dX6_takeLetter_59 (v := vi w) rfl rfl ?_
          refine V_aaldv (pc := 60) dX6_takeLetter_60 (q := none) (hL.t4) (by decide) (by omega) hq.1 ?_
          refine V_goto (pc := 61) dX6_takeLetter_61 (tgt := 65) rfl ?_
          refine V_st (pc := 65) dX6_takeLetter_65 (ls' := [(2, vq none), (0, vr 9), (1, vi w)]) rfl (Nat.le_of_ble_eq_true rfl) rfl ?_
          refine V_ld (pc := 66) dX6_takeLetter_66 (v := vq none) rfl rfl ?_
          refine V_ifnull (pc := 67) dX6_takeLetter_67 (tgt := 84) rfl (fun _ => ?_) (fun _ h_ => by cases h_)
          refine V_ld (pc := 84) dX6_takeLetter_84 (v := vr 9) rfl rfl ?_
          refine V_dup (pc := 85) dX6_takeLetter_85 rfl ?_
          refine V_getIv (pc := 86) dX6_takeLetter_86 (v := (J.1 9)) fw_RX6_64 rfl (hL.t9) (by first | exact (CZ.s hZ (k := 9) (by decide)) | (simp only [mI_setI, up2]; repeat (first | exact (CZ.s hZ (k := 9) (by decide)) | rw [if_neg (by omega)]))) (fun g86 => ?_)
          refine V_iconst (pc := 89) dX6_takeLetter_89 (by unfold I32; omega) ?_
          refine V_iadd (pc := 90) dX6_takeLetter_90 (by unfold I32 at *; omega) ?_
          refine V_putI (pc := 91) dX6_takeLetter_91 fw_RX6_64 rfl (hL.t9) (Or.inl rfl) (Or.inl rfl) ?_
          refine V_iconst (pc := 94) dX6_takeLetter_94 (by unfold I32; omega) ?_
          refine V_reti (pc := 95) dX6_takeLetter_95 trivial ?_
          first
            | (exfalso; omega)
            | (have e_ : takA n hcn cl J w = (1, (setS (setL J ((J.1 9).toNat) w) 9 ((J.1 9) + 1))) := by (unfold takA; rw [if_pos (by omega)])
               rw [e_]
               exact ⟨rfl, (CZ.set (k := 9) (v := (J.1 9) + 1) (CZ.setL (k := (J.1 9).toNat) (v := w) hZ) (fun e_ => absurd e_ (by decide)) (fun e_ => absurd e_ (by decide)))⟩)
            | (have hev : hcn w.toNat (envJ (setL J (J.1 9).toNat w) n cl) = 1 := (hq.2 _).symm
               have e_ : takA n hcn cl J w = (1, (setS (setL J ((J.1 9).toNat) w) 9 ((J.1 9) + 1))) := by (unfold takA; rw [if_neg (by omega)]; first | rw [if_pos (by omega)] | rw [if_neg (by omega)])
               rw [e_]
               exact ⟨rfl, (CZ.set (k := 9) (v := (J.1 9) + 1) (CZ.setL (k := (J.1 9).toNat) (v := w) hZ) (fun e_ => absurd e_ (by decide)) (fun e_ => absurd e_ (by decide)))⟩)
      · skip
        refine V_iconst (pc := 33) dX6_takeLetter_33 (by unfold I32; omega) ?_
        refine V_reti (pc := 34) dX6_takeLetter_34 trivial ?_
        first
          | (exfalso; omega)
          | (have e_ : takA n hcn cl J w = (2, J) := by (unfold takA; rw [if_pos (by omega)])
             rw [e_]
             exact ⟨rfl, hZ⟩)
          | (have hev : hcn w.toNat (envJ (setL J (J.1 9).toNat w) n cl) = 1 := (hq.2 _).symm
             have e_ : takA n hcn cl J w = (2, J) := by (unfold takA; rw [if_neg (by omega)]; first | rw [if_pos (by omega)] | rw [if_neg (by omega)])
             rw [e_]
             exact ⟨rfl, hZ⟩)

set_option maxHeartbeats 4000000 in
theorem z_takeS (b : Mem) (P : Nat) (Q : Nat) (L : Nat) (F : Tb) (c : Nat) (n : Int) (may : Int) (hcn : Nat → CEnv → Int) (cl : Nat → Int) (J : SJ) (cd : List Int) (m : Mem) (w : Int)   (hS : SB b P Q L F c n may hcn cl) (hZ : CZ b m F J) (hl : 0 ≤ J.1 6 ∧ J.1 6 ≤ J.1 9 ∧ J.1 9 ≤ n ∧ n ≤ 32) (hw : 0 ≤ w ∧ w ≤ 25) (hq : CdAt (setI m 10 (J.1 9).toNat w) 4 w.toNat (some cd) ∧ ∀ e, cdV e (some cd) = hcn w.toNat e) : Ct μX6_takeLetter 5 [vr 9, vi w] m (ri fun x_ m' => (x_ = (takA n hcn cl J w).1) ∧ CZ b m' F (takA n hcn cl J w).2) := by
  refine Ct_of_V rfl (by decide) rfl (Nat.le_of_ble_eq_true rfl) ?_
  show V μX6_takeLetter 5 m _ 0 [(0, vr 9), (1, vi w)] [] m
  refine V_rg (k := 1) (x := w) rfl fun r_w => ?_
  have hL := CZ.lay hS hZ
  obtain ⟨⟨c0, hc0, A, hc1, hc2, hc3, hc4, hc5, hc6, hc7, hc8, hc9⟩, hqv⟩ := hq
  have hq : True ∧ ∀ e, cdV e (some cd) = hcn w.toNat e := ⟨trivial, hqv⟩
  refine V_ld (pc := 0) dX6_takeLetter_0 (v := vr 9) rfl rfl ?_
  refine V_getIv (pc := 1) dX6_takeLetter_1 (v := (J.1 9)) fw_RX6_64 rfl (hL.t9) (CZ.s hZ (k := 9) (by decide)) (fun g1 => ?_)
  refine V_ld (pc := 4) dX6_takeLetter_4 (v := vr 9) rfl rfl ?_
  refine V_getRv (pc := 5) dX6_takeLetter_5 (o' := 1) fw_RX6_21 rfl (hL.t9) (hL.r9_0) ?_
  refine V_getRv (pc := 8) dX6_takeLetter_8 (o' := 2) fw_RX6_31 rfl (hL.t1) (hL.r1_0) ?_
  refine V_getIv (pc := 11) dX6_takeLetter_11 (v := n) fw_RX6_35 rfl (hL.t2) (CZ.gn hS hZ) (fun g11 => ?_)
  refine V_icmp_ge (pc := 14) dX6_takeLetter_14 (tgt := 33) rfl (fun h14 => ?_) (fun h14 => ?_)
  · skip
    refine V_iconst (pc := 33) dX6_takeLetter_33 (by unfold I32; omega) ?_
    refine V_reti (pc := 34) dX6_takeLetter_34 trivial ?_
    first
      | (exfalso; omega)
      | (have e_ : takA n hcn cl J w = (2, J) := by (unfold takA; rw [if_pos (by omega)])
         rw [e_]
         exact ⟨rfl, hZ⟩)
      | (have hev : hcn w.toNat (envJ (setL J (J.1 9).toNat w) n cl) = (if and64 (runL (envJ (setL J (J.1 9).toNat w) n cl) cd 0) 1 = 1 then 1 else 0) := (hq.2 _).symm
         have e_ : takA n hcn cl J w = (2, J) := by (unfold takA; rw [if_neg (by omega)]; first | rw [if_pos (by omega)] | rw [if_neg (by omega)])
         rw [e_]
         exact ⟨rfl, hZ⟩)
  · skip
    refine V_ld (pc := 17) dX6_takeLetter_17 (v := vr 9) rfl rfl ?_
    refine V_getIv (pc := 18) dX6_takeLetter_18 (v := (J.1 9)) fw_RX6_64 rfl (hL.t9) (CZ.s hZ (k := 9) (by decide)) (fun g18 => ?_)
    refine V_if_lt (pc := 21) dX6_takeLetter_21 (tgt := 33) rfl (fun h21 => ?_) (fun h21 => ?_)
    · skip
      refine V_iconst (pc := 33) dX6_takeLetter_33 (by unfold I32; omega) ?_
      refine V_reti (pc := 34) dX6_takeLetter_34 trivial ?_
      first
        | (exfalso; omega)
        | (have e_ : takA n hcn cl J w = (2, J) := by (unfold takA; rw [if_pos (by omega)])
           rw [e_]
           exact ⟨rfl, hZ⟩)
        | (have hev : hcn w.toNat (envJ (setL J (J.1 9).toNat w) n cl) = (if and64 (runL (envJ (setL J (J.1 9).toNat w) n cl) cd 0) 1 = 1 then 1 else 0) := (hq.2 _).symm
           have e_ : takA n hcn cl J w = (2, J) := by (unfold takA; rw [if_neg (by omega)]; first | rw [if_pos (by omega)] | rw [if_neg (by omega)])
           rw [e_]
           exact ⟨rfl, hZ⟩)
    · skip
      refine V_ld (pc := 24) dX6_takeLetter_24 (v := vr 9) rfl rfl ?_
      refine V_getIv (pc := 25) dX6_takeLetter_25 (v := (J.1 9)) fw_RX6_64 rfl (hL.t9) (CZ.s hZ (k := 9) (by decide)) (fun g25 => ?_)
      refine V_bipush (pc := 28) dX6_takeLetter_28 (by unfold I32; omega) (by decide) ?_
      refine V_icmp_lt (pc := 30) dX6_takeLetter_30 (tgt := 35) rfl (fun h30 => ?_) (fun h30 => ?_)
      · skip
        refine V_ld (pc := 35) dX6_takeLetter_35 (v := vr 9) rfl rfl ?_
        refine V_getRv (pc := 36) dX6_takeLetter_36 (o' := 10) fw_RX6_9 rfl (hL.t9) (hL.r9_1) ?_
        refine V_ld (pc := 39) dX6_takeLetter_39 (v := vr 9) rfl rfl ?_
        refine V_getIv (pc := 40) dX6_takeLetter_40 (v := (J.1 9)) fw_RX6_64 rfl (hL.t9) (CZ.s hZ (k := 9) (by decide)) (fun g40 => ?_)
        refine V_ld (pc := 43) dX6_takeLetter_43 (v := vi w) rfl rfl ?_
        refine V_iast (pc := 44) dX6_takeLetter_44 (hL.t10) (by omega) ?_
        refine V_ld (pc := 45) dX6_takeLetter_45 (v := vi w) rfl rfl ?_
        refine V_callSN (pc := 46) dX6_takeLetter_46 (F' := 0) (As := [vi w]) (st := []) cn_RX6_140 rfl rfl (Nat.le_of_ble_eq_true rfl) (by omega) (c_isLetter  (setI m 10 ((J.1 9).toNat) w) w   ) ?_
        rintro _ _ ⟨x46, rfl, hx46, rfl⟩ ok46 le46
        refine V_if_eq (pc := 49) dX6_takeLetter_49 (tgt := 64) rfl (fun h49 => ?_) (fun h49 => ?_)
        · skip
          refine V_null (pc := 64) dX6_takeLetter_64 ?_
          refine V_st (pc := 65) dX6_takeLetter_65 (ls' := [(2, vq none), (0, vr 9), (1, vi w)]) rfl (Nat.le_of_ble_eq_true rfl) rfl ?_
          refine V_ld (pc := 66) dX6_takeLetter_66 (v := vq none) rfl rfl ?_
          refine V_ifnull (pc := 67) dX6_takeLetter_67 (tgt := 84) rfl (fun _ => ?_) (fun _ h_ => by cases h_)
          refine V_ld (pc := 84) dX6_takeLetter_84 (v := vr 9) rfl rfl ?_
          refine V_dup (pc := 85) dX6_takeLetter_85 rfl ?_
          refine V_getIv (pc := 86) dX6_takeLetter_86 (v := (J.1 9)) fw_RX6_64 rfl (hL.t9) (by first | exact (CZ.s hZ (k := 9) (by decide)) | (simp only [mI_setI, up2]; repeat (first | exact (CZ.s hZ (k := 9) (by decide)) | rw [if_neg (by omega)]))) (fun g86 => ?_)
          refine V_iconst (pc := 89) dX6_takeLetter_89 (by unfold I32; omega) ?_
          refine V_iadd (pc := 90) dX6_takeLetter_90 (by unfold I32 at *; omega) ?_
          refine V_putI (pc := 91) dX6_takeLetter_91 fw_RX6_64 rfl (hL.t9) (Or.inl rfl) (Or.inl rfl) ?_
          refine V_iconst (pc := 94) dX6_takeLetter_94 (by unfold I32; omega) ?_
          refine V_reti (pc := 95) dX6_takeLetter_95 trivial ?_
          first
            | (exfalso; omega)
            | (have e_ : takA n hcn cl J w = (1, (setS (setL J ((J.1 9).toNat) w) 9 ((J.1 9) + 1))) := by (unfold takA; rw [if_pos (by omega)])
               rw [e_]
               exact ⟨rfl, (CZ.set (k := 9) (v := (J.1 9) + 1) (CZ.setL (k := (J.1 9).toNat) (v := w) hZ) (fun e_ => absurd e_ (by decide)) (fun e_ => absurd e_ (by decide)))⟩)
            | (have hev : hcn w.toNat (envJ (setL J (J.1 9).toNat w) n cl) = (if and64 (runL (envJ (setL J (J.1 9).toNat w) n cl) cd 0) 1 = 1 then 1 else 0) := (hq.2 _).symm
               have e_ : takA n hcn cl J w = (1, (setS (setL J ((J.1 9).toNat) w) 9 ((J.1 9) + 1))) := by (unfold takA; rw [if_neg (by omega)]; first | rw [if_pos (by omega)] | rw [if_neg (by omega)])
               rw [e_]
               exact ⟨rfl, (CZ.set (k := 9) (v := (J.1 9) + 1) (CZ.setL (k := (J.1 9).toNat) (v := w) hZ) (fun e_ => absurd e_ (by decide)) (fun e_ => absurd e_ (by decide)))⟩)
        · skip
          refine V_ld (pc := 52) dX6_takeLetter_52 (v := vr 9) rfl rfl ?_
          refine V_getRv (pc := 53) dX6_takeLetter_53 (o' := 1) fw_RX6_21 rfl (hL.t9) (hL.r9_0) ?_
          refine V_getRv (pc := 56) dX6_takeLetter_56 (o' := 4) fw_RX6_144 rfl (hL.t1) (hL.r1_1) ?_
          refine V_ld (pc := 59) dX6_takeLetter_59 (v := vi w) rfl rfl ?_
          refine V_aaldv (pc := 60) dX6_takeLetter_60 (q := some c0) (hL.t4) (by decide) (by omega) hc0 ?_
          refine V_goto (pc := 61) dX6_takeLetter_61 (tgt := 65) rfl ?_
          refine V_st (pc := 65) dX6_takeLetter_65 (ls' := [(2, vr c0), (0, vr 9), (1, vi w)]) rfl (Nat.le_of_ble_eq_true rfl) rfl ?_
          refine V_ld (pc := 66) dX6_takeLetter_66 (v := vr c0) rfl rfl ?_
          refine V_ifnull (pc := 67) dX6_takeLetter_67 (tgt := 84) rfl (fun h_ => by cases h_) (fun _ _ => ?_)
          refine V_ld (pc := 70) dX6_takeLetter_70 (v := vr c0) rfl rfl ?_
          refine V_ld (pc := 71) dX6_takeLetter_71 (v := vr 9) rfl rfl ?_
          refine V_ld (pc := 72) dX6_takeLetter_72 (v := vr 9) rfl rfl ?_
          refine V_getIv (pc := 73) dX6_takeLetter_73 (v := (J.1 9)) fw_RX6_64 rfl (hL.t9) (by first | exact (CZ.s hZ (k := 9) (by decide)) | (simp only [mI_setI, up2]; repeat (first | exact (CZ.s hZ (k := 9) (by decide)) | rw [if_neg (by omega)]))) (fun g73 => ?_)
          refine V_callV (pc := 76) dX6_takeLetter_76 (F' := 4) (As := [vr 9, vi (J.1 9)]) (st := []) cw_RX6_148 rfl rfl hc1 (by decide) (Nat.le_of_ble_eq_true rfl) (by omega) (d_isTrue (envJ (setL J (J.1 9).toNat w) n cl) cd (setI m 10 ((J.1 9).toNat) w) c0 (J.1 9) A  (by first | assumption | omega) hc1 hc2 hc3 (CZ.agc hS (CZ.setL (k := (J.1 9).toNat) (v := w) hZ) ⟨hl.1, hl.2.1, (by show J.1 9 < n; omega)⟩) hc8 hc9) ?_
          rintro _ _ ⟨x76, rfl, hx76, rfl⟩ ok76 le76
          refine V_if_ne (pc := 79) dX6_takeLetter_79 (tgt := 84) rfl (fun h79 => ?_) (fun h79 => ?_)
          · skip
            refine V_ld (pc := 84) dX6_takeLetter_84 (v := vr 9) rfl rfl ?_
            refine V_dup (pc := 85) dX6_takeLetter_85 rfl ?_
            refine V_getIv (pc := 86) dX6_takeLetter_86 (v := (J.1 9)) fw_RX6_64 rfl (hL.t9) (by first | exact (CZ.s hZ (k := 9) (by decide)) | (simp only [mI_setI, up2]; repeat (first | exact (CZ.s hZ (k := 9) (by decide)) | rw [if_neg (by omega)]))) (fun g86 => ?_)
            refine V_iconst (pc := 89) dX6_takeLetter_89 (by unfold I32; omega) ?_
            refine V_iadd (pc := 90) dX6_takeLetter_90 (by unfold I32 at *; omega) ?_
            refine V_putI (pc := 91) dX6_takeLetter_91 fw_RX6_64 rfl (hL.t9) (Or.inl rfl) (Or.inl rfl) ?_
            refine V_iconst (pc := 94) dX6_takeLetter_94 (by unfold I32; omega) ?_
            refine V_reti (pc := 95) dX6_takeLetter_95 trivial ?_
            first
              | (exfalso; omega)
              | (have e_ : takA n hcn cl J w = (1, (setS (setL J ((J.1 9).toNat) w) 9 ((J.1 9) + 1))) := by (unfold takA; rw [if_pos (by omega)])
                 rw [e_]
                 exact ⟨rfl, (CZ.set (k := 9) (v := (J.1 9) + 1) (CZ.setL (k := (J.1 9).toNat) (v := w) hZ) (fun e_ => absurd e_ (by decide)) (fun e_ => absurd e_ (by decide)))⟩)
              | (have hev : hcn w.toNat (envJ (setL J (J.1 9).toNat w) n cl) = (if and64 (runL (envJ (setL J (J.1 9).toNat w) n cl) cd 0) 1 = 1 then 1 else 0) := (hq.2 _).symm
                 have e_ : takA n hcn cl J w = (1, (setS (setL J ((J.1 9).toNat) w) 9 ((J.1 9) + 1))) := by (unfold takA; rw [if_neg (by omega)]; first | rw [if_pos (by omega)] | rw [if_neg (by omega)])
                 rw [e_]
                 exact ⟨rfl, (CZ.set (k := 9) (v := (J.1 9) + 1) (CZ.setL (k := (J.1 9).toNat) (v := w) hZ) (fun e_ => absurd e_ (by decide)) (fun e_ => absurd e_ (by decide)))⟩)
          · skip
            refine V_iconst (pc := 82) dX6_takeLetter_82 (by unfold I32; omega) ?_
            refine V_reti (pc := 83) dX6_takeLetter_83 trivial ?_
            first
              | (exfalso; omega)
              | (have e_ : takA n hcn cl J w = (2, (setL J ((J.1 9).toNat) w)) := by (unfold takA; rw [if_pos (by omega)])
                 rw [e_]
                 exact ⟨rfl, (CZ.setL (k := (J.1 9).toNat) (v := w) hZ)⟩)
              | (have hev : hcn w.toNat (envJ (setL J (J.1 9).toNat w) n cl) = (if and64 (runL (envJ (setL J (J.1 9).toNat w) n cl) cd 0) 1 = 1 then 1 else 0) := (hq.2 _).symm
                 have e_ : takA n hcn cl J w = (2, (setL J ((J.1 9).toNat) w)) := by (unfold takA; rw [if_neg (by omega)]; first | rw [if_pos (by omega)] | rw [if_neg (by omega)])
                 rw [e_]
                 exact ⟨rfl, (CZ.setL (k := (J.1 9).toNat) (v := w) hZ)⟩)
      · skip
        refine V_iconst (pc := 33) dX6_takeLetter_33 (by unfold I32; omega) ?_
        refine V_reti (pc := 34) dX6_takeLetter_34 trivial ?_
        first
          | (exfalso; omega)
          | (have e_ : takA n hcn cl J w = (2, J) := by (unfold takA; rw [if_pos (by omega)])
             rw [e_]
             exact ⟨rfl, hZ⟩)
          | (have hev : hcn w.toNat (envJ (setL J (J.1 9).toNat w) n cl) = (if and64 (runL (envJ (setL J (J.1 9).toNat w) n cl) cd 0) 1 = 1 then 1 else 0) := (hq.2 _).symm
             have e_ : takA n hcn cl J w = (2, J) := by (unfold takA; rw [if_neg (by omega)]; first | rw [if_pos (by omega)] | rw [if_neg (by omega)])
             rw [e_]
             exact ⟨rfl, hZ⟩)

theorem z_take (b : Mem) (P : Nat) (Q : Nat) (L : Nat) (F : Tb) (c : Nat) (n : Int) (may : Int) (hcn : Nat → CEnv → Int) (cl : Nat → Int) (J : SJ) (m : Mem) (w : Int)   (hS : SB b P Q L F c n may hcn cl) (hZ : CZ b m F J) (hl : 0 ≤ J.1 6 ∧ J.1 6 ≤ J.1 9 ∧ J.1 9 ≤ n ∧ n ≤ 32) (hw : 0 ≤ w ∧ w ≤ 25) : Ct μX6_takeLetter 5 [vr 9, vi w] m (ri fun x_ m' => (x_ = (takA n hcn cl J w).1) ∧ CZ b m' F (takA n hcn cl J w).2) := by
  obtain ⟨q, h1, h2⟩ := CZ.cd hS (CZ.setL (k := (J.1 9).toNat) (v := w) hZ) (w := w.toNat) (by omega)
  cases q with
  | none => exact z_takeN b P Q L F c n may hcn cl J m w hS hZ hl hw ⟨h1, h2⟩
  | some cd => exact z_takeS b P Q L F c n may hcn cl J cd m w hS hZ hl hw ⟨h1, h2⟩
