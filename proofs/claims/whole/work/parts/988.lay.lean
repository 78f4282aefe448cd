/-! lay(), judge(): the reference, the loops -/
theorem MatR.w {m : Mem} {I : Nat → Nat → Int} (h : MatR m) (hI : ∀ k, I 31 k = mI m 31 k) : MatR (wI m I) := by
  unfold MatR at h ⊢
  have e : ∀ k, mI (wI m I) 31 k = mI m 31 k := hI
  simp only [e]
  exact h

set_option maxHeartbeats 8000000 in
theorem L_rlay {F0 : Nat} {m : Mem} {N : Nat} {l i e col w S : Int} (hL : Lay (mT m) (mR m)) (hb : 0 ≤ l ∧ l ≤ 3 ∧ 0 ≤ e ∧ e ≤ 26 ∧ 0 ≤ col ∧ col < 2 ∧ 0 ≤ w ∧ w < 7) (hM : MatR m) (hN : mI m 31 3336 = (N : Int) ∧ N ≤ 33) (hz : 0 ≤ mI m 31 64 ∧ mI m 31 64 ≤ 32) (hnum : ∀ r : Nat, -999 ≤ numR2 m col r ∧ numR2 m col r ≤ 1000) (hS : mI m 56 l.toNat = S ∧ 0 ≤ S ∧ S ≤ 40) (hi32 : I32 i) (hF : 3 < F0) : ∀ (d k : Nat), d + k = N → (0 < k → 0 ≤ i ∧ i + (k : Int) ≤ S) → V μX11_lay F0 m (ri fun x_ m' => x_ = layX N S i ∧ layM m 57 (40 * l + i).toNat (mesR m e col w) (layK N S i) = m') 35 [(6, vi (k : Int)), (0, vr 30), (1, vi l), (2, vi i), (3, vi e), (4, vi col), (5, vi w)] [] (layM m 57 (40 * l + i).toNat (mesR m e col w) k) := by
  intro d
  induction d with
  | zero =>
    intro k hk hi
    refine V_ld (pc := 35) dX11_lay_35 (v := vi (k : Int)) rfl rfl ?_
    refine V_ld (pc := 37) dX11_lay_37 (v := vr 30) rfl rfl ?_
    refine V_getRv (pc := 38) dX11_lay_38 (o' := 31) fw_RX11_9 rfl hL.t30 hL.r30_0 ?_
    refine V_sipush (pc := 41) dX11_lay_41 (by unfold I32; omega) (by decide) ?_
    refine V_ialdv (pc := 44) dX11_lay_44 (v := (N : Int)) hL.t31 (by omega) ((mI_layM.trans (if_neg (by omega))).trans hN.1) (fun g44 => ?_)
    refine V_icmp_ge (pc := 45) dX11_lay_45 (tgt := 103) rfl (fun h45 => ?_) (fun h45 => ?_)
    · skip
      refine V_ld (pc := 103) dX11_lay_103 (v := vr 30) rfl rfl ?_
      refine V_getRv (pc := 104) dX11_lay_104 (o' := 31) fw_RX11_9 rfl hL.t30 hL.r30_0 ?_
      refine V_sipush (pc := 107) dX11_lay_107 (by unfold I32; omega) (by decide) ?_
      refine V_ialdv (pc := 110) dX11_lay_110 (v := (N : Int)) hL.t31 (by omega) ((mI_layM.trans (if_neg (by omega))).trans hN.1) (fun g110 => ?_)
      refine V_reti (pc := 111) dX11_lay_111 trivial ?_
      refine ⟨?_, ?_⟩
      · unfold layX
        first
          | (rw [if_pos (by omega)] <;> omega)
          | (rw [if_neg (by omega)] <;> omega)
      · have hk_ : layK N S i = k := by unfold layK; split <;> omega
        rw [hk_]
    · skip
      exfalso; omega
  | succ d ih =>
    intro k hk hi
    have h31 : ∀ p, mI (layM m 57 (40 * l + i).toNat (mesR m e col w) k) 31 p = mI m 31 p := fun p => mI_layM.trans (if_neg (by omega))
    have hmes := mesR_lay (m := m) (o := 57) (lo := (40 * l + i).toNat) (k := k) (V := (mesR m e col w)) (e := e) (col := col) (w := w) (by decide) k
    have hM2 : MatR (layM m 57 (40 * l + i).toNat (mesR m e col w) k) := MatR.w hM h31
    have hz2 : 0 ≤ mI (layM m 57 (40 * l + i).toNat (mesR m e col w) k) 31 64 ∧ mI (layM m 57 (40 * l + i).toNat (mesR m e col w) k) 31 64 ≤ 32 := by rw [h31]; exact hz
    have hnum2 : ∀ r : Nat, -999 ≤ numR2 (layM m 57 (40 * l + i).toNat (mesR m e col w) k) col r ∧ numR2 (layM m 57 (40 * l + i).toNat (mesR m e col w) k) col r ≤ 1000 := fun r => by
      have h_ := hnum r
      unfold numR2 at h_ ⊢
      rw [h31]
      exact h_
    have hN2 : mI (layM m 57 (40 * l + i).toNat (mesR m e col w) k) 31 3336 = (N : Int) := (h31 3336).trans hN.1
    refine V_ld (pc := 35) dX11_lay_35 (v := vi (k : Int)) rfl rfl ?_
    refine V_ld (pc := 37) dX11_lay_37 (v := vr 30) rfl rfl ?_
    refine V_getRv (pc := 38) dX11_lay_38 (o' := 31) fw_RX11_9 rfl hL.t30 hL.r30_0 ?_
    refine V_sipush (pc := 41) dX11_lay_41 (by unfold I32; omega) (by decide) ?_
    refine V_ialdv (pc := 44) dX11_lay_44 (v := (N : Int)) hL.t31 (by omega) ((mI_layM.trans (if_neg (by omega))).trans hN.1) (fun g44 => ?_)
    refine V_icmp_ge (pc := 45) dX11_lay_45 (tgt := 103) rfl (fun h45 => ?_) (fun h45 => ?_)
    · skip
      exfalso; omega
    · skip
      refine V_ld (pc := 48) dX11_lay_48 (v := vi i) rfl rfl ?_
      refine V_if_lt (pc := 49) dX11_lay_49 (tgt := 69) rfl (fun h49 => ?_) (fun h49 => ?_)
      · skip
        refine V_bipush (pc := 69) dX11_lay_69 (by unfold I32; omega) (by decide) ?_
        refine V_reti (pc := 71) dX11_lay_71 trivial ?_
        first
          | (exfalso; omega)
          | ((try unfold cmpI at *); refine ⟨?_, ?_⟩
             · unfold layX
               first
                 | (rw [if_pos (by omega)] <;> omega)
                 | (rw [if_neg (by omega)] <;> omega)
             · have hk_ : layK N S i = k := by unfold layK; split <;> omega
               rw [hk_])
      · skip
        refine V_ld (pc := 52) dX11_lay_52 (v := vi i) rfl rfl ?_
        refine V_i2l (pc := 53) dX11_lay_53 ?_
        refine V_ld (pc := 54) dX11_lay_54 (v := vi (k : Int)) rfl rfl ?_
        refine V_i2l (pc := 56) dX11_lay_56 ?_
        refine V_ladd (pc := 57) dX11_lay_57 (by unfold I64 at *; (try unfold I32 at *); omega) ?_
        refine V_ld (pc := 58) dX11_lay_58 (v := vr 30) rfl rfl ?_
        refine V_getRv (pc := 59) dX11_lay_59 (o' := 56) fw_RX11_87 rfl hL.t30 hL.r30_50 ?_
        refine V_ld (pc := 62) dX11_lay_62 (v := vi l) rfl rfl ?_
        refine V_ialdv (pc := 63) dX11_lay_63 (v := S) hL.t56 (by omega) ((mI_layM.trans (if_neg (by omega))).trans hS.1) (fun g63 => ?_)
        refine V_i2l (pc := 64) dX11_lay_64 ?_
        refine V_lcmp (pc := 65) dX11_lay_65 ?_
        refine V_if_lt (pc := 66) dX11_lay_66 (tgt := 72) rfl (fun h66 => ?_) (fun h66 => ?_)
        · skip
          refine V_ld (pc := 72) dX11_lay_72 (v := vr 30) rfl rfl ?_
          refine V_getRv (pc := 73) dX11_lay_73 (o' := 57) fw_RX11_90 rfl hL.t30 hL.r30_51 ?_
          refine V_bipush (pc := 76) dX11_lay_76 (by unfold I32; omega) (by decide) ?_
          refine V_ld (pc := 78) dX11_lay_78 (v := vi l) rfl rfl ?_
          refine V_imul (pc := 79) dX11_lay_79 (by unfold I32 at *; omega) ?_
          refine V_ld (pc := 80) dX11_lay_80 (v := vi i) rfl rfl ?_
          refine V_iadd (pc := 81) dX11_lay_81 (by unfold cmpI at *; unfold I32 at *; omega) ?_
          refine V_ld (pc := 82) dX11_lay_82 (v := vi (k : Int)) rfl rfl ?_
          refine V_iadd (pc := 84) dX11_lay_84 (by unfold cmpI at *; unfold I32 at *; omega) ?_
          refine V_ld (pc := 85) dX11_lay_85 (v := vr 30) rfl rfl ?_
          refine V_ld (pc := 86) dX11_lay_86 (v := vi (k : Int)) rfl rfl ?_
          refine V_ld (pc := 88) dX11_lay_88 (v := vi e) rfl rfl ?_
          refine V_ld (pc := 89) dX11_lay_89 (v := vi col) rfl rfl ?_
          refine V_ld (pc := 91) dX11_lay_91 (v := vi w) rfl rfl ?_
          refine V_callV (pc := 93) dX11_lay_93 (F' := 2) (As := [vi (k : Int), vi e, vi col, vi w]) (st := [vi (((40 * l) + i) + (k : Int)), vr 57]) cw_RX11_397 rfl rfl hL.t30 (by decide) (Nat.le_of_ble_eq_true rfl) (by omega) (r_measure2  (layM m 57 (40 * l + i).toNat (mesR m e col w) k) (k : Int) e col w   (by first | assumption | omega) hM2 hz2 hnum2) ?_
          rintro _ _ ⟨x93, rfl, hx93, rfl⟩ ok93 le93
          refine V_last (pc := 96) dX11_lay_96 hL.t57 (by unfold cmpI at *; omega) ?_
          refine V_iinc (pc := 97) dX11_lay_97 (x := (k : Int)) (ls' := [(6, vi ((k : Int) + 1)), (0, vr 30), (1, vi l), (2, vi i), (3, vi e), (4, vi col), (5, vi w)]) rfl (by unfold I32 at *; omega) (Nat.le_of_ble_eq_true rfl) rfl ?_
          refine V_goto (pc := 100) dX11_lay_100 (tgt := 35) rfl ?_
          skip
          refine V_mem (layM_s (m := m) (o := 57) (lo := (40 * l + i).toNat) (V := (mesR m e col w)) (k := k) (by omega) ?_) ?_
          · rw [← hmes, hx93, if_pos (by omega)]; rfl
          · exact ih (k + 1) (by omega) (fun _ => by (try unfold cmpI at *); omega)
        · skip
          refine V_bipush (pc := 69) dX11_lay_69 (by unfold I32; omega) (by decide) ?_
          refine V_reti (pc := 71) dX11_lay_71 trivial ?_
          first
            | (exfalso; omega)
            | ((try unfold cmpI at *); refine ⟨?_, ?_⟩
               · unfold layX
                 first
                   | (rw [if_pos (by omega)] <;> omega)
                   | (rw [if_neg (by omega)] <;> omega)
               · have hk_ : layK N S i = k := by unfold layK; split <;> omega
                 rw [hk_])

set_option maxHeartbeats 4000000 in
theorem r_layS (N : Nat) (S : Int) (m : Mem) (l : Int) (i : Int) (e : Int) (col : Int) (w : Int)   (hL : Lay (mT m) (mR m)) (hb : 0 ≤ l ∧ l ≤ 3 ∧ 0 ≤ e ∧ e ≤ 26 ∧ 0 ≤ col ∧ col < 2 ∧ 0 ≤ w ∧ w < 7) (hM : MatR m) (hN : mI m 31 3336 = (N : Int) ∧ N ≤ 33) (hz : 0 ≤ mI m 31 64 ∧ mI m 31 64 ≤ 32) (hnum : ∀ r : Nat, -999 ≤ numR2 m col r ∧ numR2 m col r ≤ 1000) (hS : mI m 56 l.toNat = S ∧ 0 ≤ S ∧ S ≤ 40) : Ct μX11_lay 5 [vr 30, vi l, vi i, vi e, vi col, vi w] m (ri fun x_ m' => (x_ = layX N S i) ∧ layM m 57 (40 * l + i).toNat (mesR m e col w) (layK N S i) = m') := by
  refine Ct_of_V rfl (by decide) rfl (Nat.le_of_ble_eq_true rfl) ?_
  show V μX11_lay 5 m _ 0 [(0, vr 30), (1, vi l), (2, vi i), (3, vi e), (4, vi col), (5, vi w)] [] m
  refine V_rg (k := 1) (x := l) rfl fun r_l => ?_
  refine V_rg (k := 2) (x := i) rfl fun r_i => ?_
  refine V_rg (k := 3) (x := e) rfl fun r_e => ?_
  refine V_rg (k := 4) (x := col) rfl fun r_col => ?_
  refine V_rg (k := 5) (x := w) rfl fun r_w => ?_
  refine V_ld (pc := 0) dX11_lay_0 (v := vi l) rfl rfl ?_
  refine V_callS (pc := 1) dX11_lay_1 (F' := 1) (As := [vi l]) (st := []) cw_RX11_394 rfl rfl (Nat.le_of_ble_eq_true rfl) (by omega) (r_isList  m l   ) ?_
  rintro _ _ ⟨x1, rfl, hx1, rfl⟩ ok1 le1
  refine V_if_eq (pc := 4) dX11_lay_4 (tgt := 18) rfl (fun h4 => ?_) (fun h4 => ?_)
  · skip
    refine V_iconst (pc := 18) dX11_lay_18 (by unfold I32; omega) ?_
    refine V_reti (pc := 19) dX11_lay_19 trivial ?_
    exfalso; omega
  · skip
    refine V_ld (pc := 7) dX11_lay_7 (v := vi e) rfl rfl ?_
    refine V_ld (pc := 8) dX11_lay_8 (v := vi col) rfl rfl ?_
    refine V_ld (pc := 10) dX11_lay_10 (v := vi w) rfl rfl ?_
    refine V_callS (pc := 12) dX11_lay_12 (F' := 1) (As := [vi e, vi col, vi w]) (st := []) cw_RX11_379 rfl rfl (Nat.le_of_ble_eq_true rfl) (by omega) (r_isMeasure  m e col w   ) ?_
    rintro _ _ ⟨x12, rfl, hx12, rfl⟩ ok12 le12
    refine V_if_ne (pc := 15) dX11_lay_15 (tgt := 20) rfl (fun h15 => ?_) (fun h15 => ?_)
    · skip
      refine V_ld (pc := 20) dX11_lay_20 (v := vr 30) rfl rfl ?_
      refine V_getRv (pc := 21) dX11_lay_21 (o' := 56) fw_RX11_87 rfl hL.t30 hL.r30_50 ?_
      refine V_ld (pc := 24) dX11_lay_24 (v := vi l) rfl rfl ?_
      refine V_ialdv (pc := 25) dX11_lay_25 (v := S) hL.t56 (by omega) hS.1 (fun g25 => ?_)
      refine V_if_ge (pc := 26) dX11_lay_26 (tgt := 32) rfl (fun h26 => ?_) (fun h26 => ?_)
      · skip
        refine V_iconst (pc := 32) dX11_lay_32 (by unfold I32; omega) ?_
        refine V_st (pc := 33) dX11_lay_33 (ls' := [(6, vi 0), (0, vr 30), (1, vi l), (2, vi i), (3, vi e), (4, vi col), (5, vi w)]) rfl (Nat.le_of_ble_eq_true rfl) rfl ?_
        skip
        refine V_mem (layM_0 (o := 57) (lo := (40 * l + i).toNat) (V := (mesR m e col w))).symm ?_
        exact L_rlay hL hb hM hN hz hnum hS r_i (by omega) N 0 (by omega) (fun h_ => absurd h_ (by omega))
      · skip
        refine V_bipush (pc := 29) dX11_lay_29 (by unfold I32; omega) (by decide) ?_
        refine V_reti (pc := 31) dX11_lay_31 trivial ?_
        exfalso; omega
    · skip
      refine V_iconst (pc := 18) dX11_lay_18 (by unfold I32; omega) ?_
      refine V_reti (pc := 19) dX11_lay_19 trivial ?_
      exfalso; omega

set_option maxHeartbeats 8000000 in
theorem L_rjud {F0 : Nat} {m : Mem} {N : Nat} {l i e col w S : Int} (hL : Lay (mT m) (mR m)) (hb : 0 ≤ l ∧ l ≤ 3 ∧ 0 ≤ e ∧ e ≤ 26 ∧ 0 ≤ col ∧ col < 2 ∧ 0 ≤ w ∧ w < 7) (hM : MatR m) (hN : mI m 31 3336 = (N : Int) ∧ N ≤ 33) (hz : 0 ≤ mI m 31 64 ∧ mI m 31 64 ≤ 32) (hnum : ∀ r : Nat, -999 ≤ numR2 m col r ∧ numR2 m col r ≤ 1000) (hS : mI m 56 l.toNat = S ∧ 0 ≤ S ∧ S ≤ 40) (hi32 : I32 i) (hF : 3 < F0) : ∀ (d k : Nat), d + k = N → (0 < k → 0 ≤ i) → judF S i (fun p_ => mI m 57 (40 * l.toNat + p_)) (mesR m e col w) d k = (judF S i (fun p_ => mI m 57 (40 * l.toNat + p_)) (mesR m e col w) N 0) → V μX11_judge F0 m (ri fun x_ m' => x_ = (judF S i (fun p_ => mI m 57 (40 * l.toNat + p_)) (mesR m e col w) N 0) ∧ m = m') 35 [(6, vi (k : Int)), (0, vr 30), (1, vi l), (2, vi i), (3, vi e), (4, vi col), (5, vi w)] [] m := by
  intro d
  induction d with
  | zero =>
    intro k hk hk0 hj
    refine V_ld (pc := 35) dX11_judge_35 (v := vi (k : Int)) rfl rfl ?_
    refine V_ld (pc := 37) dX11_judge_37 (v := vr 30) rfl rfl ?_
    refine V_getRv (pc := 38) dX11_judge_38 (o' := 31) fw_RX11_9 rfl hL.t30 hL.r30_0 ?_
    refine V_sipush (pc := 41) dX11_judge_41 (by unfold I32; omega) (by decide) ?_
    refine V_ialdv (pc := 44) dX11_judge_44 (v := (N : Int)) hL.t31 (by omega) hN.1 (fun g44 => ?_)
    refine V_icmp_ge (pc := 45) dX11_judge_45 (tgt := 113) rfl (fun h45 => ?_) (fun h45 => ?_)
    · skip
      refine V_bipush (pc := 113) dX11_judge_113 (by unfold I32; omega) (by decide) ?_
      refine V_reti (pc := 115) dX11_judge_115 trivial ?_
      first
        | (exfalso; omega)
        | exact ⟨hj, rfl⟩
    · skip
      exfalso; omega
  | succ d ih =>
    intro k hk hk0 hj
    have hj2 : (if 0 ≤ i + (k : Int) ∧ i + (k : Int) < S then (if mI m 57 (40 * l.toNat + (i + (k : Int)).toNat) = (mesR m e col w) k then judF S i (fun p_ => mI m 57 (40 * l.toNat + p_)) (mesR m e col w) d (k + 1) else (k : Int)) else 100 + (k : Int)) = (judF S i (fun p_ => mI m 57 (40 * l.toNat + p_)) (mesR m e col w) N 0) := hj
    refine V_ld (pc := 35) dX11_judge_35 (v := vi (k : Int)) rfl rfl ?_
    refine V_ld (pc := 37) dX11_judge_37 (v := vr 30) rfl rfl ?_
    refine V_getRv (pc := 38) dX11_judge_38 (o' := 31) fw_RX11_9 rfl hL.t30 hL.r30_0 ?_
    refine V_sipush (pc := 41) dX11_judge_41 (by unfold I32; omega) (by decide) ?_
    refine V_ialdv (pc := 44) dX11_judge_44 (v := (N : Int)) hL.t31 (by omega) hN.1 (fun g44 => ?_)
    refine V_icmp_ge (pc := 45) dX11_judge_45 (tgt := 113) rfl (fun h45 => ?_) (fun h45 => ?_)
    · skip
      refine V_bipush (pc := 113) dX11_judge_113 (by unfold I32; omega) (by decide) ?_
      refine V_reti (pc := 115) dX11_judge_115 trivial ?_
      exfalso; omega
    · skip
      refine V_ld (pc := 48) dX11_judge_48 (v := vi i) rfl rfl ?_
      refine V_if_lt (pc := 49) dX11_judge_49 (tgt := 69) rfl (fun h49 => ?_) (fun h49 => ?_)
      · skip
        refine V_bipush (pc := 69) dX11_judge_69 (by unfold I32; omega) (by decide) ?_
        refine V_ld (pc := 71) dX11_judge_71 (v := vi (k : Int)) rfl rfl ?_
        refine V_iadd (pc := 73) dX11_judge_73 (by unfold I32 at *; omega) ?_
        refine V_reti (pc := 74) dX11_judge_74 trivial ?_
        first
          | (exfalso; omega)
          | (rw [if_neg (by (try unfold cmpI at *); omega)] at hj2
             exact ⟨hj2, rfl⟩)
      · skip
        refine V_ld (pc := 52) dX11_judge_52 (v := vi i) rfl rfl ?_
        refine V_i2l (pc := 53) dX11_judge_53 ?_
        refine V_ld (pc := 54) dX11_judge_54 (v := vi (k : Int)) rfl rfl ?_
        refine V_i2l (pc := 56) dX11_judge_56 ?_
        refine V_ladd (pc := 57) dX11_judge_57 (by unfold I64 at *; (try unfold I32 at *); omega) ?_
        refine V_ld (pc := 58) dX11_judge_58 (v := vr 30) rfl rfl ?_
        refine V_getRv (pc := 59) dX11_judge_59 (o' := 56) fw_RX11_87 rfl hL.t30 hL.r30_50 ?_
        refine V_ld (pc := 62) dX11_judge_62 (v := vi l) rfl rfl ?_
        refine V_ialdv (pc := 63) dX11_judge_63 (v := S) hL.t56 (by omega) hS.1 (fun g63 => ?_)
        refine V_i2l (pc := 64) dX11_judge_64 ?_
        refine V_lcmp (pc := 65) dX11_judge_65 ?_
        refine V_if_lt (pc := 66) dX11_judge_66 (tgt := 75) rfl (fun h66 => ?_) (fun h66 => ?_)
        · skip
          refine V_ld (pc := 75) dX11_judge_75 (v := vr 30) rfl rfl ?_
          refine V_getRv (pc := 76) dX11_judge_76 (o' := 57) fw_RX11_90 rfl hL.t30 hL.r30_51 ?_
          refine V_bipush (pc := 79) dX11_judge_79 (by unfold I32; omega) (by decide) ?_
          refine V_ld (pc := 81) dX11_judge_81 (v := vi l) rfl rfl ?_
          refine V_imul (pc := 82) dX11_judge_82 (by unfold I32 at *; omega) ?_
          refine V_ld (pc := 83) dX11_judge_83 (v := vi i) rfl rfl ?_
          refine V_iadd (pc := 84) dX11_judge_84 (by unfold cmpI at *; unfold I32 at *; omega) ?_
          refine V_ld (pc := 85) dX11_judge_85 (v := vi (k : Int)) rfl rfl ?_
          refine V_iadd (pc := 87) dX11_judge_87 (by unfold cmpI at *; unfold I32 at *; omega) ?_
          refine V_laldv (pc := 88) dX11_judge_88 (v := mI m 57 ((((40 * l) + i) + (k : Int)).toNat)) hL.t57 (by unfold cmpI at *; omega) rfl ?_
          refine V_ld (pc := 89) dX11_judge_89 (v := vr 30) rfl rfl ?_
          refine V_ld (pc := 90) dX11_judge_90 (v := vi (k : Int)) rfl rfl ?_
          refine V_ld (pc := 92) dX11_judge_92 (v := vi e) rfl rfl ?_
          refine V_ld (pc := 93) dX11_judge_93 (v := vi col) rfl rfl ?_
          refine V_ld (pc := 95) dX11_judge_95 (v := vi w) rfl rfl ?_
          refine V_callV (pc := 97) dX11_judge_97 (F' := 2) (As := [vi (k : Int), vi e, vi col, vi w]) (st := [vl (mI m 57 ((((40 * l) + i) + (k : Int)).toNat))]) cw_RX11_397 rfl rfl hL.t30 (by decide) (Nat.le_of_ble_eq_true rfl) (by omega) (r_measure2  m (k : Int) e col w   (by first | assumption | omega) hM hz hnum) ?_
          rintro _ _ ⟨x97, rfl, hx97, rfl⟩ ok97 le97
          refine V_lcmp (pc := 100) dX11_judge_100 ?_
          refine V_if_eq (pc := 101) dX11_judge_101 (tgt := 107) rfl (fun h101 => ?_) (fun h101 => ?_)
          · skip
            refine V_iinc (pc := 107) dX11_judge_107 (x := (k : Int)) (ls' := [(6, vi ((k : Int) + 1)), (0, vr 30), (1, vi l), (2, vi i), (3, vi e), (4, vi col), (5, vi w)]) rfl (by unfold I32 at *; omega) (Nat.le_of_ble_eq_true rfl) rfl ?_
            refine V_goto (pc := 110) dX11_judge_110 (tgt := 35) rfl ?_
            have hc_ : x97 = (mesR m e col w) k := by rw [hx97, if_pos (by omega)]; rfl
            have hlt_ : 0 ≤ i ∧ i + (k : Int) < S := by unfold cmpI at h66; omega
            have hix_ : (40 * l + i + (k : Int)).toNat = 40 * l.toNat + (i + (k : Int)).toNat := by omega
            rw [hix_] at h101
            have e1_ : mI m 57 (40 * l.toNat + (i + (k : Int)).toNat) = (mesR m e col w) k := by
              rw [← hc_]
              unfold cmpI at h101
              split at h101
              · omega
              · split at h101
                · assumption
                · omega
            rw [if_pos (by omega), if_pos e1_] at hj2
            skip
            exact ih (k + 1) (by omega) (fun _ => hlt_.1) hj2
          · skip
            refine V_ld (pc := 104) dX11_judge_104 (v := vi (k : Int)) rfl rfl ?_
            refine V_reti (pc := 106) dX11_judge_106 trivial ?_
            have hc_ : x97 = (mesR m e col w) k := by rw [hx97, if_pos (by omega)]; rfl
            have hlt_ : 0 ≤ i ∧ i + (k : Int) < S := by unfold cmpI at h66; omega
            have hix_ : (40 * l + i + (k : Int)).toNat = 40 * l.toNat + (i + (k : Int)).toNat := by omega
            rw [hix_] at h101
            have e1_ : ¬ mI m 57 (40 * l.toNat + (i + (k : Int)).toNat) = (mesR m e col w) k := by
              rw [← hc_]
              intro he_
              apply h101
              unfold cmpI
              rw [if_neg (by omega), if_pos he_]
            rw [if_pos (by omega), if_neg e1_] at hj2
            exact ⟨hj2, rfl⟩
        · skip
          refine V_bipush (pc := 69) dX11_judge_69 (by unfold I32; omega) (by decide) ?_
          refine V_ld (pc := 71) dX11_judge_71 (v := vi (k : Int)) rfl rfl ?_
          refine V_iadd (pc := 73) dX11_judge_73 (by unfold I32 at *; omega) ?_
          refine V_reti (pc := 74) dX11_judge_74 trivial ?_
          first
            | (exfalso; omega)
            | (rw [if_neg (by (try unfold cmpI at *); omega)] at hj2
               exact ⟨hj2, rfl⟩)

set_option maxHeartbeats 4000000 in
theorem r_judgeS (N : Nat) (S : Int) (m : Mem) (l : Int) (i : Int) (e : Int) (col : Int) (w : Int)   (hL : Lay (mT m) (mR m)) (hb : 0 ≤ l ∧ l ≤ 3 ∧ 0 ≤ e ∧ e ≤ 26 ∧ 0 ≤ col ∧ col < 2 ∧ 0 ≤ w ∧ w < 7) (hM : MatR m) (hN : mI m 31 3336 = (N : Int) ∧ N ≤ 33) (hz : 0 ≤ mI m 31 64 ∧ mI m 31 64 ≤ 32) (hnum : ∀ r : Nat, -999 ≤ numR2 m col r ∧ numR2 m col r ≤ 1000) (hS : mI m 56 l.toNat = S ∧ 0 ≤ S ∧ S ≤ 40) : Ct μX11_judge 5 [vr 30, vi l, vi i, vi e, vi col, vi w] m (ri fun x_ m' => (x_ = judF S i (fun p_ => mI m 57 (40 * l.toNat + p_)) (mesR m e col w) N 0) ∧ m = m') := by
  refine Ct_of_V rfl (by decide) rfl (Nat.le_of_ble_eq_true rfl) ?_
  show V μX11_judge 5 m _ 0 [(0, vr 30), (1, vi l), (2, vi i), (3, vi e), (4, vi col), (5, vi w)] [] m
  refine V_rg (k := 1) (x := l) rfl fun r_l => ?_
  refine V_rg (k := 2) (x := i) rfl fun r_i => ?_
  refine V_rg (k := 3) (x := e) rfl fun r_e => ?_
  refine V_rg (k := 4) (x := col) rfl fun r_col => ?_
  refine V_rg (k := 5) (x := w) rfl fun r_w => ?_
  refine V_ld (pc := 0) dX11_judge_0 (v := vi l) rfl rfl ?_
  refine V_callS (pc := 1) dX11_judge_1 (F' := 1) (As := [vi l]) (st := []) cw_RX11_394 rfl rfl (Nat.le_of_ble_eq_true rfl) (by omega) (r_isList  m l   ) ?_
  rintro _ _ ⟨x1, rfl, hx1, rfl⟩ ok1 le1
  refine V_if_eq (pc := 4) dX11_judge_4 (tgt := 18) rfl (fun h4 => ?_) (fun h4 => ?_)
  · skip
    refine V_iconst (pc := 18) dX11_judge_18 (by unfold I32; omega) ?_
    refine V_reti (pc := 19) dX11_judge_19 trivial ?_
    exfalso; omega
  · skip
    refine V_ld (pc := 7) dX11_judge_7 (v := vi e) rfl rfl ?_
    refine V_ld (pc := 8) dX11_judge_8 (v := vi col) rfl rfl ?_
    refine V_ld (pc := 10) dX11_judge_10 (v := vi w) rfl rfl ?_
    refine V_callS (pc := 12) dX11_judge_12 (F' := 1) (As := [vi e, vi col, vi w]) (st := []) cw_RX11_379 rfl rfl (Nat.le_of_ble_eq_true rfl) (by omega) (r_isMeasure  m e col w   ) ?_
    rintro _ _ ⟨x12, rfl, hx12, rfl⟩ ok12 le12
    refine V_if_ne (pc := 15) dX11_judge_15 (tgt := 20) rfl (fun h15 => ?_) (fun h15 => ?_)
    · skip
      refine V_ld (pc := 20) dX11_judge_20 (v := vr 30) rfl rfl ?_
      refine V_getRv (pc := 21) dX11_judge_21 (o' := 56) fw_RX11_87 rfl hL.t30 hL.r30_50 ?_
      refine V_ld (pc := 24) dX11_judge_24 (v := vi l) rfl rfl ?_
      refine V_ialdv (pc := 25) dX11_judge_25 (v := S) hL.t56 (by omega) hS.1 (fun g25 => ?_)
      refine V_if_ge (pc := 26) dX11_judge_26 (tgt := 32) rfl (fun h26 => ?_) (fun h26 => ?_)
      · skip
        refine V_iconst (pc := 32) dX11_judge_32 (by unfold I32; omega) ?_
        refine V_st (pc := 33) dX11_judge_33 (ls' := [(6, vi 0), (0, vr 30), (1, vi l), (2, vi i), (3, vi e), (4, vi col), (5, vi w)]) rfl (Nat.le_of_ble_eq_true rfl) rfl ?_
        skip
        exact L_rjud hL hb hM hN hz hnum hS r_i (by omega) N 0 (by omega) (fun h_ => absurd h_ (by omega)) rfl
      · skip
        refine V_bipush (pc := 29) dX11_judge_29 (by unfold I32; omega) (by decide) ?_
        refine V_reti (pc := 31) dX11_judge_31 trivial ?_
        exfalso; omega
    · skip
      refine V_iconst (pc := 18) dX11_judge_18 (by unfold I32; omega) ?_
      refine V_reti (pc := 19) dX11_judge_19 trivial ?_
      exfalso; omega
