/-! lay(), judge(): class and reference, the loops -/
set_option maxHeartbeats 8000000 in
theorem L_clay {F0 : Nat} {m : Mem} {M N : Nat} {l i e col w S : Int} (hL : Lay (mT m) (mR m)) (hb : 0 ≤ l ∧ l ≤ 3 ∧ 0 ≤ e ∧ e ≤ 26 ∧ 0 ≤ col ∧ col < 2 ∧ 0 ≤ w ∧ w < 7) (hM : mR m 1 3 = some M ∧ (M = 5 ∨ M = 18)) (hN : mI m M 3 = (N : Int) ∧ N ≤ 33) (hz : mI m 2 1 ≤ 32) (hnum : ∀ r, -999 ≤ numC m 2 3 col r ∧ numC m 2 3 col r ≤ 1000) (hS : mI m (22 + 2 * l.toNat) 1 = S ∧ 0 ≤ S ∧ S ≤ 40) (hi32 : I32 i) (hF : 3 < F0) : ∀ (d k : Nat), d + k = N → (0 < k → 0 ≤ i ∧ i + (k : Int) ≤ S) → V μX10_lay F0 m (ri fun x_ m' => x_ = layX N S i ∧ layM m (23 + 2 * l.toNat) i.toNat (mesC m (M + 3) e col w) (layK N S i) = m') 42 [(8, vi (k : Int)), (7, vi (k : Int)), (6, vr (22 + 2 * l.toNat)), (0, vr 0), (1, vi l), (2, vi i), (3, vi e), (4, vi col), (5, vi w)] [] (layM m (23 + 2 * l.toNat) i.toNat (mesC m (M + 3) e col w) k) := by
  intro d
  induction d with
  | zero =>
    intro k hk hi
    have hlst := hL.lst ⟨hb.1, hb.2.1⟩
    have hma := Lay.mat hL hM.2
    have hl3 : l.toNat ≤ 3 := by omega
    refine V_ld (pc := 42) dX10_lay_42 (v := vi (k : Int)) rfl rfl ?_
    refine V_ld (pc := 44) dX10_lay_44 (v := vr 0) rfl rfl ?_
    refine V_getRv (pc := 45) dX10_lay_45 (o' := 1) fw_RX10_12 rfl hL.t0 hL.r0_0 ?_
    refine V_getRv (pc := 48) dX10_lay_48 (o' := M) fw_RX10_69 rfl hL.t1 hM.1 ?_
    refine V_getIv (pc := 51) dX10_lay_51 (v := (N : Int)) fw_RX10_72 rfl hma.1 ((mI_layM.trans (if_neg (by omega))).trans hN.1) (fun g51 => ?_)
    refine V_icmp_ge (pc := 54) dX10_lay_54 (tgt := 107) rfl (fun h54 => ?_) (fun h54 => ?_)
    · skip
      refine V_ld (pc := 107) dX10_lay_107 (v := vi (k : Int)) rfl rfl ?_
      refine V_reti (pc := 109) dX10_lay_109 trivial ?_
      refine ⟨?_, ?_⟩
      · unfold layX
        first
          | (rw [if_pos (by omega)] <;> omega)
          | (rw [if_neg (by omega)] <;> omega)
      · have hk_ : layK N S i = k := by unfold layK; split <;> omega
        rw [hk_]
    · skip
      exfalso; omega
  | succ d ih =>
    intro k hk hi
    have hlst := hL.lst ⟨hb.1, hb.2.1⟩
    have hma := Lay.mat hL hM.2
    have hl3 : l.toNat ≤ 3 := by omega
    have hnum2 : ∀ r, -999 ≤ numC (layM m (23 + 2 * l.toNat) i.toNat (mesC m (M + 3) e col w) k) 2 3 col r ∧ numC (layM m (23 + 2 * l.toNat) i.toNat (mesC m (M + 3) e col w) k) 2 3 col r ≤ 1000 := fun r => by
      have h2 : mI (layM m (23 + 2 * l.toNat) i.toNat (mesC m (M + 3) e col w) k) 2 1 = mI m 2 1 := if_neg (by omega)
      have h3 : ∀ p, mI (layM m (23 + 2 * l.toNat) i.toNat (mesC m (M + 3) e col w) k) 3 p = mI m 3 p := fun p => if_neg (by omega)
      have h_ := hnum r
      unfold numC at h_ ⊢
      rw [h2, h3]
      exact h_
    have hz2 : mI (layM m (23 + 2 * l.toNat) i.toNat (mesC m (M + 3) e col w) k) 2 1 ≤ 32 := by rw [show mI (layM m (23 + 2 * l.toNat) i.toNat (mesC m (M + 3) e col w) k) 2 1 = mI m 2 1 from if_neg (by omega)]; exact hz
    have hN2 : mI (layM m (23 + 2 * l.toNat) i.toNat (mesC m (M + 3) e col w) k) M 3 = (N : Int) := (mI_layM.trans (if_neg (by omega))).trans hN.1
    have hS2 : mI (layM m (23 + 2 * l.toNat) i.toNat (mesC m (M + 3) e col w) k) (22 + 2 * l.toNat) 1 = S := (mI_layM.trans (if_neg (by omega))).trans hS.1
    have hmes := mesC_lay (m := m) (o := (23 + 2 * l.toNat)) (lo := i.toNat) (c := M + 3) (k := k) (V := (mesC m (M + 3) e col w)) (e := e) (col := col) (w := w) (by omega) k
    refine V_ld (pc := 42) dX10_lay_42 (v := vi (k : Int)) rfl rfl ?_
    refine V_ld (pc := 44) dX10_lay_44 (v := vr 0) rfl rfl ?_
    refine V_getRv (pc := 45) dX10_lay_45 (o' := 1) fw_RX10_12 rfl hL.t0 hL.r0_0 ?_
    refine V_getRv (pc := 48) dX10_lay_48 (o' := M) fw_RX10_69 rfl hL.t1 hM.1 ?_
    refine V_getIv (pc := 51) dX10_lay_51 (v := (N : Int)) fw_RX10_72 rfl hma.1 ((mI_layM.trans (if_neg (by omega))).trans hN.1) (fun g51 => ?_)
    refine V_icmp_ge (pc := 54) dX10_lay_54 (tgt := 107) rfl (fun h54 => ?_) (fun h54 => ?_)
    · skip
      exfalso; omega
    · skip
      refine V_ld (pc := 57) dX10_lay_57 (v := vr (22 + 2 * l.toNat)) rfl rfl ?_
      refine V_ld (pc := 59) dX10_lay_59 (v := vi i) rfl rfl ?_
      refine V_i2l (pc := 60) dX10_lay_60 ?_
      refine V_ld (pc := 61) dX10_lay_61 (v := vi (k : Int)) rfl rfl ?_
      refine V_i2l (pc := 63) dX10_lay_63 ?_
      refine V_ladd (pc := 64) dX10_lay_64 (by unfold I64 at *; (try unfold I32 at *); omega) ?_
      refine V_ld (pc := 65) dX10_lay_65 (v := vr 0) rfl rfl ?_
      refine V_getRv (pc := 66) dX10_lay_66 (o' := 1) fw_RX10_12 rfl hL.t0 hL.r0_0 ?_
      refine V_getRv (pc := 69) dX10_lay_69 (o' := M) fw_RX10_69 rfl hL.t1 hM.1 ?_
      refine V_ld (pc := 72) dX10_lay_72 (v := vi (k : Int)) rfl rfl ?_
      refine V_ld (pc := 74) dX10_lay_74 (v := vi e) rfl rfl ?_
      refine V_ld (pc := 75) dX10_lay_75 (v := vi col) rfl rfl ?_
      refine V_ld (pc := 77) dX10_lay_77 (v := vi w) rfl rfl ?_
      refine V_ld (pc := 79) dX10_lay_79 (v := vr 0) rfl rfl ?_
      refine V_getRv (pc := 80) dX10_lay_80 (o' := 1) fw_RX10_12 rfl hL.t0 hL.r0_0 ?_
      refine V_getRv (pc := 83) dX10_lay_83 (o' := 2) fw_RX10_55 rfl hL.t1 hL.r1_0 ?_
      refine V_callV (pc := 86) dX10_lay_86 (F' := 2) (As := [vi (k : Int), vi e, vi col, vi w, vr 2]) (st := [vl (i + (k : Int)), vr (22 + 2 * l.toNat)]) cw_RX10_207 rfl rfl hma.1 (by decide) (Nat.le_of_ble_eq_true rfl) (by omega) (c_measured  (layM m (23 + 2 * l.toNat) i.toNat (mesC m (M + 3) e col w) k) M (k : Int) e col w 2 (M + 3) 3  hma.1 hma.2.2.2.1 hma.2.2.2.2.2.2 hL.t2 hL.r2_0 hL.t3 (by rw [hN2]; omega) hz2 (by omega) hnum2 (by omega)) ?_
      rintro _ _ ⟨x86, rfl, hx86, rfl⟩ ok86 le86
      refine V_callV (pc := 89) dX10_lay_89 (F' := 1) (As := [vl (i + (k : Int)), vl x86]) (st := []) cw_RX10_229 rfl rfl hlst.1 (by decide) (Nat.le_of_ble_eq_true rfl) (by omega) (c_Longs_write  (layM m (23 + 2 * l.toNat) i.toNat (mesC m (M + 3) e col w) k) (22 + 2 * l.toNat) (i + (k : Int)) x86 (23 + 2 * l.toNat)  hlst.1 hlst.2.1 hlst.2.2) ?_
      rintro _ _ ⟨x89, rfl, (⟨hc89, hx89, rfl⟩ | ⟨hc89, hx89, rfl⟩)⟩ ok89 le89
      · skip
        refine V_if_ne (pc := 92) dX10_lay_92 (tgt := 98) rfl (fun h92 => ?_) (fun h92 => ?_)
        · skip
          refine V_iinc (pc := 98) dX10_lay_98 (x := (k : Int)) (ls' := [(7, vi ((k : Int) + 1)), (8, vi (k : Int)), (6, vr (22 + 2 * l.toNat)), (0, vr 0), (1, vi l), (2, vi i), (3, vi e), (4, vi col), (5, vi w)]) rfl (by unfold I32 at *; omega) (Nat.le_of_ble_eq_true rfl) rfl ?_
          refine V_iinc (pc := 101) dX10_lay_101 (x := (k : Int)) (ls' := [(8, vi ((k : Int) + 1)), (7, vi ((k : Int) + 1)), (6, vr (22 + 2 * l.toNat)), (0, vr 0), (1, vi l), (2, vi i), (3, vi e), (4, vi col), (5, vi w)]) rfl (by unfold I32 at *; omega) (Nat.le_of_ble_eq_true rfl) rfl ?_
          refine V_goto (pc := 104) dX10_lay_104 (tgt := 42) rfl ?_
          skip
          refine V_mem (layM_s (m := m) (o := (23 + 2 * l.toNat)) (lo := i.toNat) (V := (mesC m (M + 3) e col w)) (k := k) (by omega) ?_) ?_
          · rw [← hmes]; exact hx86
          · exact ih (k + 1) (by omega) (fun _ => by omega)
        · skip
          refine V_bipush (pc := 95) dX10_lay_95 (by unfold I32; omega) (by decide) ?_
          refine V_reti (pc := 97) dX10_lay_97 trivial ?_
          first
            | (exfalso; omega)
            | (refine ⟨?_, ?_⟩
               · unfold layX
                 first
                   | (rw [if_pos (by omega)] <;> omega)
                   | (rw [if_neg (by omega)] <;> omega)
               · have hk_ : layK N S i = k := by unfold layK; split <;> omega
                 rw [hk_])
      · skip
        refine V_if_ne (pc := 92) dX10_lay_92 (tgt := 98) rfl (fun h92 => ?_) (fun h92 => ?_)
        · skip
          refine V_iinc (pc := 98) dX10_lay_98 (x := (k : Int)) (ls' := [(7, vi ((k : Int) + 1)), (8, vi (k : Int)), (6, vr (22 + 2 * l.toNat)), (0, vr 0), (1, vi l), (2, vi i), (3, vi e), (4, vi col), (5, vi w)]) rfl (by unfold I32 at *; omega) (Nat.le_of_ble_eq_true rfl) rfl ?_
          refine V_iinc (pc := 101) dX10_lay_101 (x := (k : Int)) (ls' := [(8, vi ((k : Int) + 1)), (7, vi ((k : Int) + 1)), (6, vr (22 + 2 * l.toNat)), (0, vr 0), (1, vi l), (2, vi i), (3, vi e), (4, vi col), (5, vi w)]) rfl (by unfold I32 at *; omega) (Nat.le_of_ble_eq_true rfl) rfl ?_
          refine V_goto (pc := 104) dX10_lay_104 (tgt := 42) rfl ?_
          exfalso; omega
        · skip
          refine V_bipush (pc := 95) dX10_lay_95 (by unfold I32; omega) (by decide) ?_
          refine V_reti (pc := 97) dX10_lay_97 trivial ?_
          first
            | (exfalso; omega)
            | (refine ⟨?_, ?_⟩
               · unfold layX
                 first
                   | (rw [if_pos (by omega)] <;> omega)
                   | (rw [if_neg (by omega)] <;> omega)
               · have hk_ : layK N S i = k := by unfold layK; split <;> omega
                 rw [hk_])

set_option maxHeartbeats 4000000 in
theorem c_layS (M : Nat) (N : Nat) (S : Int) (m : Mem) (l : Int) (i : Int) (e : Int) (col : Int) (w : Int)   (hL : Lay (mT m) (mR m)) (hb : 0 ≤ l ∧ l ≤ 3 ∧ 0 ≤ e ∧ e ≤ 26 ∧ 0 ≤ col ∧ col < 2 ∧ 0 ≤ w ∧ w < 7) (hM : mR m 1 3 = some M ∧ (M = 5 ∨ M = 18)) (hN : mI m M 3 = (N : Int) ∧ N ≤ 33) (hz : mI m 2 1 ≤ 32) (hnum : ∀ r, -999 ≤ numC m 2 3 col r ∧ numC m 2 3 col r ≤ 1000) (hS : mI m (22 + 2 * l.toNat) 1 = S ∧ 0 ≤ S ∧ S ≤ 40) : Ct μX10_lay 5 [vr 0, vi l, vi i, vi e, vi col, vi w] m (ri fun x_ m' => (x_ = layX N S i) ∧ layM m (23 + 2 * l.toNat) i.toNat (mesC m (M + 3) e col w) (layK N S i) = m') := by
  refine Ct_of_V rfl (by decide) rfl (Nat.le_of_ble_eq_true rfl) ?_
  show V μX10_lay 5 m _ 0 [(0, vr 0), (1, vi l), (2, vi i), (3, vi e), (4, vi col), (5, vi w)] [] m
  refine V_rg (k := 1) (x := l) rfl fun r_l => ?_
  refine V_rg (k := 2) (x := i) rfl fun r_i => ?_
  refine V_rg (k := 3) (x := e) rfl fun r_e => ?_
  refine V_rg (k := 4) (x := col) rfl fun r_col => ?_
  refine V_rg (k := 5) (x := w) rfl fun r_w => ?_
  have hlst := hL.lst ⟨hb.1, hb.2.1⟩
  refine V_ld (pc := 0) dX10_lay_0 (v := vr 0) rfl rfl ?_
  refine V_ld (pc := 1) dX10_lay_1 (v := vi l) rfl rfl ?_
  refine V_callV (pc := 2) dX10_lay_2 (F' := 0) (As := [vi l]) (st := []) cw_RX10_220 rfl rfl hL.t0 (by decide) (Nat.le_of_ble_eq_true rfl) (by omega) (c_listAt  m l   (by first | assumption | omega)) ?_
  rintro _ _ ⟨x2, rfl, (⟨hc2, rfl, rfl⟩ | ⟨hc2, rfl, rfl⟩)⟩ ok2 le2
  · skip
    refine V_st (pc := 5) dX10_lay_5 (ls' := [(6, vq none), (0, vr 0), (1, vi l), (2, vi i), (3, vi e), (4, vi col), (5, vi w)]) rfl (Nat.le_of_ble_eq_true rfl) rfl ?_
    refine V_ld (pc := 7) dX10_lay_7 (v := vq none) rfl rfl ?_
    refine V_ifnull (pc := 9) dX10_lay_9 (tgt := 23) rfl (fun _ => ?_) (fun _ h_ => by cases h_)
    refine V_iconst (pc := 23) dX10_lay_23 (by unfold I32; omega) ?_
    refine V_reti (pc := 24) dX10_lay_24 trivial ?_
    exfalso; omega
  · skip
    refine V_st (pc := 5) dX10_lay_5 (ls' := [(6, vr (22 + 2 * l.toNat)), (0, vr 0), (1, vi l), (2, vi i), (3, vi e), (4, vi col), (5, vi w)]) rfl (Nat.le_of_ble_eq_true rfl) rfl ?_
    refine V_ld (pc := 7) dX10_lay_7 (v := vr (22 + 2 * l.toNat)) rfl rfl ?_
    refine V_ifnull (pc := 9) dX10_lay_9 (tgt := 23) rfl (fun h_ => by cases h_) (fun _ _ => ?_)
    refine V_ld (pc := 12) dX10_lay_12 (v := vi e) rfl rfl ?_
    refine V_ld (pc := 13) dX10_lay_13 (v := vi col) rfl rfl ?_
    refine V_ld (pc := 15) dX10_lay_15 (v := vi w) rfl rfl ?_
    refine V_callS (pc := 17) dX10_lay_17 (F' := 1) (As := [vi e, vi col, vi w]) (st := []) cw_RX10_201 rfl rfl (Nat.le_of_ble_eq_true rfl) (by omega) (c_isMeasure  m e col w   ) ?_
    rintro _ _ ⟨x17, rfl, hx17, rfl⟩ ok17 le17
    refine V_if_ne (pc := 20) dX10_lay_20 (tgt := 25) rfl (fun h20 => ?_) (fun h20 => ?_)
    · skip
      refine V_ld (pc := 25) dX10_lay_25 (v := vr (22 + 2 * l.toNat)) rfl rfl ?_
      refine V_getIv (pc := 27) dX10_lay_27 (v := S) fw_RX10_228 rfl hlst.1 hS.1 (fun g27 => ?_)
      refine V_if_ge (pc := 30) dX10_lay_30 (tgt := 36) rfl (fun h30 => ?_) (fun h30 => ?_)
      · skip
        refine V_iconst (pc := 36) dX10_lay_36 (by unfold I32; omega) ?_
        refine V_st (pc := 37) dX10_lay_37 (ls' := [(7, vi 0), (6, vr (22 + 2 * l.toNat)), (0, vr 0), (1, vi l), (2, vi i), (3, vi e), (4, vi col), (5, vi w)]) rfl (Nat.le_of_ble_eq_true rfl) rfl ?_
        refine V_iconst (pc := 39) dX10_lay_39 (by unfold I32; omega) ?_
        refine V_st (pc := 40) dX10_lay_40 (ls' := [(8, vi 0), (7, vi 0), (6, vr (22 + 2 * l.toNat)), (0, vr 0), (1, vi l), (2, vi i), (3, vi e), (4, vi col), (5, vi w)]) rfl (Nat.le_of_ble_eq_true rfl) rfl ?_
        skip
        refine V_mem (layM_0 (o := (23 + 2 * l.toNat)) (lo := i.toNat) (V := (mesC m (M + 3) e col w))).symm ?_
        exact L_clay hL hb hM hN hz hnum hS r_i (by omega) N 0 (by omega) (fun h_ => absurd h_ (by omega))
      · skip
        refine V_bipush (pc := 33) dX10_lay_33 (by unfold I32; omega) (by decide) ?_
        refine V_reti (pc := 35) dX10_lay_35 trivial ?_
        exfalso; omega
    · skip
      refine V_iconst (pc := 23) dX10_lay_23 (by unfold I32; omega) ?_
      refine V_reti (pc := 24) dX10_lay_24 trivial ?_
      exfalso; omega

set_option maxHeartbeats 8000000 in
theorem L_cjud {F0 : Nat} {m : Mem} {M N : Nat} {l i e col w S : Int} (hL : Lay (mT m) (mR m)) (hb : 0 ≤ l ∧ l ≤ 3 ∧ 0 ≤ e ∧ e ≤ 26 ∧ 0 ≤ col ∧ col < 2 ∧ 0 ≤ w ∧ w < 7) (hM : mR m 1 3 = some M ∧ (M = 5 ∨ M = 18)) (hN : mI m M 3 = (N : Int) ∧ N ≤ 33) (hz : mI m 2 1 ≤ 32) (hnum : ∀ r, -999 ≤ numC m 2 3 col r ∧ numC m 2 3 col r ≤ 1000) (hS : mI m (22 + 2 * l.toNat) 1 = S ∧ 0 ≤ S ∧ S ≤ 40) (hi32 : I32 i) (hF : 3 < F0) : ∀ (d k : Nat), d + k = N → judF S i (fun p_ => mI m (23 + 2 * l.toNat) p_) (mesC m (M + 3) e col w) d k = (judF S i (fun p_ => mI m (23 + 2 * l.toNat) p_) (mesC m (M + 3) e col w) N 0) → V μX10_judge F0 m (ri fun x_ m' => x_ = (judF S i (fun p_ => mI m (23 + 2 * l.toNat) p_) (mesC m (M + 3) e col w) N 0) ∧ m = m') 39 [(7, vi (k : Int)), (6, vr (22 + 2 * l.toNat)), (0, vr 0), (1, vi l), (2, vi i), (3, vi e), (4, vi col), (5, vi w)] [] m := by
  intro d
  induction d with
  | zero =>
    intro k hk hj
    have hlst := hL.lst ⟨hb.1, hb.2.1⟩
    have hma := Lay.mat hL hM.2
    have hl3 : l.toNat ≤ 3 := by omega
    refine V_ld (pc := 39) dX10_judge_39 (v := vi (k : Int)) rfl rfl ?_
    refine V_ld (pc := 41) dX10_judge_41 (v := vr 0) rfl rfl ?_
    refine V_getRv (pc := 42) dX10_judge_42 (o' := 1) fw_RX10_12 rfl hL.t0 hL.r0_0 ?_
    refine V_getRv (pc := 45) dX10_judge_45 (o' := M) fw_RX10_69 rfl hL.t1 hM.1 ?_
    refine V_getIv (pc := 48) dX10_judge_48 (v := (N : Int)) fw_RX10_72 rfl hma.1 hN.1 (fun g48 => ?_)
    refine V_icmp_ge (pc := 51) dX10_judge_51 (tgt := 122) rfl (fun h51 => ?_) (fun h51 => ?_)
    · skip
      refine V_bipush (pc := 122) dX10_judge_122 (by unfold I32; omega) (by decide) ?_
      refine V_reti (pc := 124) dX10_judge_124 trivial ?_
      first
        | (exfalso; omega)
        | exact ⟨hj, rfl⟩
    · skip
      exfalso; omega
  | succ d ih =>
    intro k hk hj
    have hlst := hL.lst ⟨hb.1, hb.2.1⟩
    have hma := Lay.mat hL hM.2
    have hl3 : l.toNat ≤ 3 := by omega
    have hj2 : (if 0 ≤ i + (k : Int) ∧ i + (k : Int) < S then (if mI m (23 + 2 * l.toNat) (i + (k : Int)).toNat = (mesC m (M + 3) e col w) k then judF S i (fun p_ => mI m (23 + 2 * l.toNat) p_) (mesC m (M + 3) e col w) d (k + 1) else (k : Int)) else 100 + (k : Int)) = (judF S i (fun p_ => mI m (23 + 2 * l.toNat) p_) (mesC m (M + 3) e col w) N 0) := hj
    refine V_ld (pc := 39) dX10_judge_39 (v := vi (k : Int)) rfl rfl ?_
    refine V_ld (pc := 41) dX10_judge_41 (v := vr 0) rfl rfl ?_
    refine V_getRv (pc := 42) dX10_judge_42 (o' := 1) fw_RX10_12 rfl hL.t0 hL.r0_0 ?_
    refine V_getRv (pc := 45) dX10_judge_45 (o' := M) fw_RX10_69 rfl hL.t1 hM.1 ?_
    refine V_getIv (pc := 48) dX10_judge_48 (v := (N : Int)) fw_RX10_72 rfl hma.1 hN.1 (fun g48 => ?_)
    refine V_icmp_ge (pc := 51) dX10_judge_51 (tgt := 122) rfl (fun h51 => ?_) (fun h51 => ?_)
    · skip
      refine V_bipush (pc := 122) dX10_judge_122 (by unfold I32; omega) (by decide) ?_
      refine V_reti (pc := 124) dX10_judge_124 trivial ?_
      exfalso; omega
    · skip
      refine V_ld (pc := 54) dX10_judge_54 (v := vr (22 + 2 * l.toNat)) rfl rfl ?_
      refine V_ld (pc := 56) dX10_judge_56 (v := vi i) rfl rfl ?_
      refine V_i2l (pc := 57) dX10_judge_57 ?_
      refine V_ld (pc := 58) dX10_judge_58 (v := vi (k : Int)) rfl rfl ?_
      refine V_i2l (pc := 60) dX10_judge_60 ?_
      refine V_ladd (pc := 61) dX10_judge_61 (by unfold I64 at *; (try unfold I32 at *); omega) ?_
      refine V_callV (pc := 62) dX10_judge_62 (F' := 0) (As := [vl (i + (k : Int))]) (st := []) cw_RX10_248 rfl rfl hlst.1 (by decide) (Nat.le_of_ble_eq_true rfl) (by omega) (c_Longs_has  m (22 + 2 * l.toNat) (i + (k : Int))   hlst.1) ?_
      rintro _ _ ⟨x62, rfl, hx62, rfl⟩ ok62 le62
      refine V_if_ne (pc := 65) dX10_judge_65 (tgt := 74) rfl (fun h65 => ?_) (fun h65 => ?_)
      · skip
        refine V_ld (pc := 74) dX10_judge_74 (v := vr (22 + 2 * l.toNat)) rfl rfl ?_
        refine V_ld (pc := 76) dX10_judge_76 (v := vi i) rfl rfl ?_
        refine V_i2l (pc := 77) dX10_judge_77 ?_
        refine V_ld (pc := 78) dX10_judge_78 (v := vi (k : Int)) rfl rfl ?_
        refine V_i2l (pc := 80) dX10_judge_80 ?_
        refine V_ladd (pc := 81) dX10_judge_81 (by unfold I64 at *; (try unfold I32 at *); omega) ?_
        refine V_callV (pc := 82) dX10_judge_82 (F' := 1) (As := [vl (i + (k : Int))]) (st := []) cw_RX10_232 rfl rfl hlst.1 (by decide) (Nat.le_of_ble_eq_true rfl) (by omega) (c_Longs_at  m (22 + 2 * l.toNat) (i + (k : Int)) (23 + 2 * l.toNat)  hlst.1 hlst.2.1 hlst.2.2) ?_
        rintro _ _ ⟨x82, rfl, hx82, rfl⟩ ok82 le82
        refine V_ld (pc := 85) dX10_judge_85 (v := vr 0) rfl rfl ?_
        refine V_getRv (pc := 86) dX10_judge_86 (o' := 1) fw_RX10_12 rfl hL.t0 hL.r0_0 ?_
        refine V_getRv (pc := 89) dX10_judge_89 (o' := M) fw_RX10_69 rfl hL.t1 hM.1 ?_
        refine V_ld (pc := 92) dX10_judge_92 (v := vi (k : Int)) rfl rfl ?_
        refine V_ld (pc := 94) dX10_judge_94 (v := vi e) rfl rfl ?_
        refine V_ld (pc := 95) dX10_judge_95 (v := vi col) rfl rfl ?_
        refine V_ld (pc := 97) dX10_judge_97 (v := vi w) rfl rfl ?_
        refine V_ld (pc := 99) dX10_judge_99 (v := vr 0) rfl rfl ?_
        refine V_getRv (pc := 100) dX10_judge_100 (o' := 1) fw_RX10_12 rfl hL.t0 hL.r0_0 ?_
        refine V_getRv (pc := 103) dX10_judge_103 (o' := 2) fw_RX10_55 rfl hL.t1 hL.r1_0 ?_
        refine V_callV (pc := 106) dX10_judge_106 (F' := 2) (As := [vi (k : Int), vi e, vi col, vi w, vr 2]) (st := [vl x82]) cw_RX10_207 rfl rfl hma.1 (by decide) (Nat.le_of_ble_eq_true rfl) (by omega) (c_measured  m M (k : Int) e col w 2 (M + 3) 3  hma.1 hma.2.2.2.1 hma.2.2.2.2.2.2 hL.t2 hL.r2_0 hL.t3 (by rw [hN.1]; omega) hz (by omega) hnum (by omega)) ?_
        rintro _ _ ⟨x106, rfl, hx106, rfl⟩ ok106 le106
        refine V_lcmp (pc := 109) dX10_judge_109 ?_
        refine V_if_eq (pc := 110) dX10_judge_110 (tgt := 116) rfl (fun h110 => ?_) (fun h110 => ?_)
        · skip
          refine V_iinc (pc := 116) dX10_judge_116 (x := (k : Int)) (ls' := [(7, vi ((k : Int) + 1)), (6, vr (22 + 2 * l.toNat)), (0, vr 0), (1, vi l), (2, vi i), (3, vi e), (4, vi col), (5, vi w)]) rfl (by unfold I32 at *; omega) (Nat.le_of_ble_eq_true rfl) rfl ?_
          refine V_goto (pc := 119) dX10_judge_119 (tgt := 39) rfl ?_
          have hc_ : (mesC m (M + 3) e col w) k = x106 := hx106.symm
          have e1_ : mI m (23 + 2 * l.toNat) (i + (k : Int)).toNat = (mesC m (M + 3) e col w) k := by
            rw [hc_]
            unfold cmpI at h110
            rw [if_pos (by omega)] at hx82
            rw [← hx82]
            split at h110
            · omega
            · split at h110 <;> omega
          rw [if_pos (by omega), if_pos e1_] at hj2
          skip
          exact ih (k + 1) (by omega) hj2
        · skip
          refine V_ld (pc := 113) dX10_judge_113 (v := vi (k : Int)) rfl rfl ?_
          refine V_reti (pc := 115) dX10_judge_115 trivial ?_
          have hc_ : (mesC m (M + 3) e col w) k = x106 := hx106.symm
          have e1_ : ¬ mI m (23 + 2 * l.toNat) (i + (k : Int)).toNat = (mesC m (M + 3) e col w) k := by
            rw [hc_]
            unfold cmpI at h110
            rw [if_pos (by omega)] at hx82
            rw [← hx82]
            intro he_
            apply h110
            rw [if_neg (by omega), if_pos he_]
          rw [if_pos (by omega), if_neg e1_] at hj2
          exact ⟨hj2, rfl⟩
      · skip
        refine V_bipush (pc := 68) dX10_judge_68 (by unfold I32; omega) (by decide) ?_
        refine V_ld (pc := 70) dX10_judge_70 (v := vi (k : Int)) rfl rfl ?_
        refine V_iadd (pc := 72) dX10_judge_72 (by unfold I32 at *; omega) ?_
        refine V_reti (pc := 73) dX10_judge_73 trivial ?_
        first
          | (exfalso; omega)
          | (rw [if_neg (by omega)] at hj2
             exact ⟨hj2, rfl⟩)

set_option maxHeartbeats 4000000 in
theorem c_judgeS (M : Nat) (N : Nat) (S : Int) (m : Mem) (l : Int) (i : Int) (e : Int) (col : Int) (w : Int)   (hL : Lay (mT m) (mR m)) (hb : 0 ≤ l ∧ l ≤ 3 ∧ 0 ≤ e ∧ e ≤ 26 ∧ 0 ≤ col ∧ col < 2 ∧ 0 ≤ w ∧ w < 7) (hM : mR m 1 3 = some M ∧ (M = 5 ∨ M = 18)) (hN : mI m M 3 = (N : Int) ∧ N ≤ 33) (hz : mI m 2 1 ≤ 32) (hnum : ∀ r, -999 ≤ numC m 2 3 col r ∧ numC m 2 3 col r ≤ 1000) (hS : mI m (22 + 2 * l.toNat) 1 = S ∧ 0 ≤ S ∧ S ≤ 40) : Ct μX10_judge 5 [vr 0, vi l, vi i, vi e, vi col, vi w] m (ri fun x_ m' => (x_ = judF S i (fun p_ => mI m (23 + 2 * l.toNat) p_) (mesC m (M + 3) e col w) N 0) ∧ m = m') := by
  refine Ct_of_V rfl (by decide) rfl (Nat.le_of_ble_eq_true rfl) ?_
  show V μX10_judge 5 m _ 0 [(0, vr 0), (1, vi l), (2, vi i), (3, vi e), (4, vi col), (5, vi w)] [] m
  refine V_rg (k := 1) (x := l) rfl fun r_l => ?_
  refine V_rg (k := 2) (x := i) rfl fun r_i => ?_
  refine V_rg (k := 3) (x := e) rfl fun r_e => ?_
  refine V_rg (k := 4) (x := col) rfl fun r_col => ?_
  refine V_rg (k := 5) (x := w) rfl fun r_w => ?_
  have hlst := hL.lst ⟨hb.1, hb.2.1⟩
  refine V_ld (pc := 0) dX10_judge_0 (v := vr 0) rfl rfl ?_
  refine V_ld (pc := 1) dX10_judge_1 (v := vi l) rfl rfl ?_
  refine V_callV (pc := 2) dX10_judge_2 (F' := 0) (As := [vi l]) (st := []) cw_RX10_220 rfl rfl hL.t0 (by decide) (Nat.le_of_ble_eq_true rfl) (by omega) (c_listAt  m l   (by first | assumption | omega)) ?_
  rintro _ _ ⟨x2, rfl, (⟨hc2, rfl, rfl⟩ | ⟨hc2, rfl, rfl⟩)⟩ ok2 le2
  · skip
    refine V_st (pc := 5) dX10_judge_5 (ls' := [(6, vq none), (0, vr 0), (1, vi l), (2, vi i), (3, vi e), (4, vi col), (5, vi w)]) rfl (Nat.le_of_ble_eq_true rfl) rfl ?_
    refine V_ld (pc := 7) dX10_judge_7 (v := vq none) rfl rfl ?_
    refine V_ifnull (pc := 9) dX10_judge_9 (tgt := 23) rfl (fun _ => ?_) (fun _ h_ => by cases h_)
    refine V_iconst (pc := 23) dX10_judge_23 (by unfold I32; omega) ?_
    refine V_reti (pc := 24) dX10_judge_24 trivial ?_
    exfalso; omega
  · skip
    refine V_st (pc := 5) dX10_judge_5 (ls' := [(6, vr (22 + 2 * l.toNat)), (0, vr 0), (1, vi l), (2, vi i), (3, vi e), (4, vi col), (5, vi w)]) rfl (Nat.le_of_ble_eq_true rfl) rfl ?_
    refine V_ld (pc := 7) dX10_judge_7 (v := vr (22 + 2 * l.toNat)) rfl rfl ?_
    refine V_ifnull (pc := 9) dX10_judge_9 (tgt := 23) rfl (fun h_ => by cases h_) (fun _ _ => ?_)
    refine V_ld (pc := 12) dX10_judge_12 (v := vi e) rfl rfl ?_
    refine V_ld (pc := 13) dX10_judge_13 (v := vi col) rfl rfl ?_
    refine V_ld (pc := 15) dX10_judge_15 (v := vi w) rfl rfl ?_
    refine V_callS (pc := 17) dX10_judge_17 (F' := 1) (As := [vi e, vi col, vi w]) (st := []) cw_RX10_201 rfl rfl (Nat.le_of_ble_eq_true rfl) (by omega) (c_isMeasure  m e col w   ) ?_
    rintro _ _ ⟨x17, rfl, hx17, rfl⟩ ok17 le17
    refine V_if_ne (pc := 20) dX10_judge_20 (tgt := 25) rfl (fun h20 => ?_) (fun h20 => ?_)
    · skip
      refine V_ld (pc := 25) dX10_judge_25 (v := vr (22 + 2 * l.toNat)) rfl rfl ?_
      refine V_getIv (pc := 27) dX10_judge_27 (v := S) fw_RX10_228 rfl hlst.1 hS.1 (fun g27 => ?_)
      refine V_if_ge (pc := 30) dX10_judge_30 (tgt := 36) rfl (fun h30 => ?_) (fun h30 => ?_)
      · skip
        refine V_iconst (pc := 36) dX10_judge_36 (by unfold I32; omega) ?_
        refine V_st (pc := 37) dX10_judge_37 (ls' := [(7, vi 0), (6, vr (22 + 2 * l.toNat)), (0, vr 0), (1, vi l), (2, vi i), (3, vi e), (4, vi col), (5, vi w)]) rfl (Nat.le_of_ble_eq_true rfl) rfl ?_
        skip
        exact L_cjud hL hb hM hN hz hnum hS r_i (by omega) N 0 (by omega) rfl
      · skip
        refine V_bipush (pc := 33) dX10_judge_33 (by unfold I32; omega) (by decide) ?_
        refine V_reti (pc := 35) dX10_judge_35 trivial ?_
        exfalso; omega
    · skip
      refine V_iconst (pc := 23) dX10_judge_23 (by unfold I32; omega) ?_
      refine V_reti (pc := 24) dX10_judge_24 trivial ?_
      exfalso; omega
