/-! the class reads a whole pattern -/
theorem pat_CL {tx : Nat → Int} {n : Nat} : (¬ ((altC tx n 5 S0).2.1 = true ∧ (altC tx n 5 S0).2.2.1 = n) → ¬ ((altL tx n 5 S0).2.1 = true ∧ (altL tx n 5 S0).2.2.1 = n) ∧ (altC tx n 5 S0).2.2.1 = (altL tx n 5 S0).2.2.1) ∧ (((altC tx n 5 S0).2.1 = true ∧ (altC tx n 5 S0).2.2.1 = n) → altC tx n 5 S0 = altL tx n 5 S0) := by
  have h : Lq tx n false (altC tx n 5 S0) (altL tx n 5 S0) := altC_Lo tx n 5 S0
  rcases h with h | h
  · rw [h]; exact ⟨fun e => ⟨e, rfl⟩, fun _ => rfl⟩
  · have h2 : (altC tx n 5 S0).2.1 = false := h.2.2.resolve_right (fun e => by cases e.1)
    refine ⟨fun _ => ⟨fun e => ?_, h.2.1⟩, fun e => ?_⟩
    · rw [h.1] at e; cases e.1
    · rw [h2] at e; cases e.1

set_option maxHeartbeats 4000000 in
theorem c_Parts_init (rm : Nat) (m : Mem) (P : Nat) (room : Int)   (T_P : mT m P = (4, 2)) (hp : P < mN m ∧ mN m + 1 ≤ NN ∧ mZ m + 9 * rm ≤ ZZ ∧ room = (rm : Int) ∧ rm ≤ 240) : Ct μX4_init 1 [vr P, vi room] m (rv fun m' => setR (newO m 20 (9 * rm)) P 0 (some (mN m)) = m') := by
  refine Ct_of_V rfl (by decide) rfl (Nat.le_of_ble_eq_true rfl) ?_
  show V μX4_init 1 m _ 0 [(0, vr P), (1, vi room)] [] m
  refine V_rg (k := 1) (x := room) rfl fun r_room => ?_
  refine V_ld (pc := 0) dX4_init_0 (v := vr P) rfl rfl ?_
  refine V_objInit (pc := 1) dX4_init_1 oi_RX4_3 wo_i wo_c (by omega) (Nat.le_of_ble_eq_true rfl) ?_
  refine V_ld (pc := 4) dX4_init_4 (v := vr P) rfl rfl ?_
  refine V_ld (pc := 5) dX4_init_5 (v := vi room) rfl rfl ?_
  refine V_if_ge (pc := 6) dX4_init_6 (tgt := 13) rfl (fun h6 => ?_) (fun h6 => ?_)
  · skip
    refine V_ld (pc := 13) dX4_init_13 (v := vi room) rfl rfl ?_
    refine V_bipush (pc := 14) dX4_init_14 (by unfold I32; omega) (by decide) ?_
    refine V_imul (pc := 16) dX4_init_16 (by unfold I32 at *; omega) ?_
    refine V_newIv (pc := 17) (N := (9 * rm)) (mN m) rfl (by omega) dX4_init_17 (by omega) (by show mZ m + (9 * rm) ≤ ZZ; omega) (by omega) (by omega) wa_int ?_
    refine V_putR (pc := 19) dX4_init_19 fw_RX4_11 rfl ((mT_newne (M := m) (o := P) (mN m) rfl (by omega)).trans T_P) (Or.inr ⟨rfl, rfl⟩) (fun o_ h_ => by cases h_; (try unfold NN at *); unfold SC; omega) ?_
    refine V_retv (pc := 22) dX4_init_22 trivial ?_
    first | (exfalso; omega) | exact ⟨rfl, rfl⟩ | exact rfl
  · skip
    refine V_iconst (pc := 9) dX4_init_9 (by unfold I32; omega) ?_
    refine V_goto (pc := 10) dX4_init_10 (tgt := 17) rfl ?_
    refine V_newIv (pc := 17) (N := (9 * rm)) (mN m) rfl (by omega) dX4_init_17 (by omega) (by show mZ m + (9 * rm) ≤ ZZ; omega) (by omega) (by omega) wa_int ?_
    refine V_putR (pc := 19) dX4_init_19 fw_RX4_11 rfl ((mT_newne (M := m) (o := P) (mN m) rfl (by omega)).trans T_P) (Or.inr ⟨rfl, rfl⟩) (fun o_ h_ => by cases h_; (try unfold NN at *); unfold SC; omega) ?_
    refine V_retv (pc := 22) dX4_init_22 trivial ?_
    first | (exfalso; omega) | exact ⟨rfl, rfl⟩ | exact rfl

set_option maxHeartbeats 4000000 in
theorem c_PR_init (n : Nat) (m : Mem) (r : Nat)   (T_r : mT m r = (5, 4)) (T_13 : mT m 13 = (9, 2)) (hp : mI m 13 1 = (n : Int) ∧ n ≤ 120 ∧ 59 ≤ r ∧ r < mN m ∧ mN m + 2 ≤ NN ∧ mZ m + 2 + 18 * n ≤ ZZ) : Ct μX5_init 2 [vr r, vr 13] m (rv fun m' => setR (setR (newO (newO (setR (setI m r 3 (-1)) r 0 (some 13)) 4 2) 20 (9 * (2 * n))) (mN m) 0 (some (mN m + 1))) r 1 (some (mN m)) = m') := by
  refine Ct_of_V rfl (by decide) rfl (Nat.le_of_ble_eq_true rfl) ?_
  show V μX5_init 2 m _ 0 [(0, vr r), (1, vr 13)] [] m
  refine V_ld (pc := 0) dX5_init_0 (v := vr r) rfl rfl ?_
  refine V_objInit (pc := 1) dX5_init_1 oi_RX5_3 wo_i wo_c (by omega) (Nat.le_of_ble_eq_true rfl) ?_
  refine V_ld (pc := 4) dX5_init_4 (v := vr r) rfl rfl ?_
  refine V_iconst (pc := 5) dX5_init_5 (by unfold I32; omega) ?_
  refine V_putI (pc := 6) dX5_init_6 fw_RX5_9 rfl T_r (Or.inl rfl) (Or.inl rfl) ?_
  refine V_ld (pc := 9) dX5_init_9 (v := vr r) rfl rfl ?_
  refine V_ld (pc := 10) dX5_init_10 (v := vr 13) rfl rfl ?_
  refine V_putR (pc := 11) dX5_init_11 fw_RX5_15 rfl T_r (Or.inr ⟨rfl, rfl⟩) (fun o_ h_ => by cases h_; (try unfold NN at *); unfold SC; omega) ?_
  refine V_ld (pc := 14) dX5_init_14 (v := vr r) rfl rfl ?_
  refine V_newv (pc := 15) (mN m) rfl dX5_init_15 nw_RX5_19 (by omega) (by show mZ m + 2 ≤ ZZ; omega) ?_
  refine V_dup (pc := 18) dX5_init_18 rfl ?_
  refine V_iconst (pc := 19) dX5_init_19 (by unfold I32; omega) ?_
  refine V_ld (pc := 20) dX5_init_20 (v := vr 13) rfl rfl ?_
  refine V_getIv (pc := 21) dX5_init_21 (v := (n : Int)) fw_RX5_21 rfl ((mT_newne (M := (setR (setI m r 3 (-1)) r 0 (some 13))) (o := 13) (mN m) rfl (by omega)).trans T_13) ((mI_newne (M := (setR (setI m r 3 (-1)) r 0 (some 13))) (o := 13) (mN m) rfl (by omega)).trans (by first | exact hp.1 | (simp only [mI_setR, mI_setI, up2]; repeat (first | exact hp.1 | rw [if_neg (by omega)])))) (fun g21 => ?_)
  refine V_imul (pc := 24) dX5_init_24 (by unfold I32 at *; omega) ?_
  refine V_callI (pc := 25) dX5_init_25 (F' := 1) (As := [vi (2 * (n : Int))]) (st := [vr (mN m), vr r]) cw_RX5_26 rfl rfl (Nat.le_of_ble_eq_true rfl) (by omega) (c_Parts_init (2 * n) (newO (setR (setI m r 3 (-1)) r 0 (some 13)) 4 2) (mN m) (2 * (n : Int))   (mT_news (M := (setR (setI m r 3 (-1)) r 0 (some 13))) rfl) ⟨Nat.lt_succ_self _, by show mN m + 1 + 1 ≤ NN; omega, by show mZ m + 2 + 9 * (2 * n) ≤ ZZ; omega, by omega, by omega⟩) ?_
  rintro _ _ ⟨rfl, rfl⟩ ok25 le25
  refine V_putR (pc := 28) dX5_init_28 fw_RX5_29 rfl ((mT_newne (M := (newO (setR (setI m r 3 (-1)) r 0 (some 13)) 4 2)) (o := r) (mN m + 1) rfl (by omega)).trans ((mT_newne (M := (setR (setI m r 3 (-1)) r 0 (some 13))) (o := r) (mN m) rfl (by omega)).trans T_r)) (Or.inr ⟨rfl, rfl⟩) (fun o_ h_ => by cases h_; (try unfold NN at *); unfold SC; omega) ?_
  refine V_retv (pc := 31) dX5_init_31 trivial ?_
  first | (exfalso; omega) | exact ⟨rfl, rfl⟩ | exact rfl

set_option maxHeartbeats 4000000 in
theorem c_read (tx : Nat → Int) (n : Nat) (m : Mem) (r : Nat)   (hL : Lay (mT m) (mR m)) (hQ : PLay m r n) (hP : CP (mI m) r tx n S0) : Ct μX5_read 33 [vr r] m (rq fun x_ m' => ∃ I_ : Nat → Nat → Int, wI m I_ = m' ∧ (CFr r (mI m) I_) ∧ ((x_ = some (r + 1) ∧ ((altC tx n 5 S0).2.1 = true ∧ (altC tx n 5 S0).2.2.1 = n) ∧ CP I_ r tx n (altC tx n 5 S0).2) ∨ (x_ = none ∧ ¬ ((altC tx n 5 S0).2.1 = true ∧ (altC tx n 5 S0).2.2.1 = n) ∧ I_ r 3 = ((altC tx n 5 S0).2.2.1 : Int)))) := by
  refine Ct_of_V rfl (by decide) rfl (Nat.le_of_ble_eq_true rfl) ?_
  show V μX5_read 33 m _ 0 [(0, vr r)] [] m
  have hr59 := hQ.1
  refine V_ld (pc := 0) dX5_read_0 (v := vr r) rfl rfl ?_
  refine V_iconst (pc := 1) dX5_read_1 (by unfold I32; omega) ?_
  refine V_callV (pc := 2) dX5_read_2 (F' := (7 + 5 * 5)) (As := [vi 0]) (st := []) cw_RX5_33 rfl rfl hQ.2.1 (by decide) (Nat.le_of_ble_eq_true rfl) (by omega) ((CAlt_all tx n 5) S0 m r 0   (by first | assumption | omega) hQ hP (by decide)) ?_
  rintro _ _ ⟨x2, rfl, Ix2, rfl, hF2, (⟨hw2, rfl, hP2⟩ | ⟨hw2, rfl, hf2⟩)⟩ ok2 le2
  · skip
    have hn2 : 0 ≤ (altC tx n 5 S0).1 := nice_nn (altC_nice tx n 5 S0) hw2
    have hb2 := hP2.2.2.2.2.1
    refine V_st (pc := 5) dX5_read_5 (ls' := [(1, vi ((altC tx n 5 S0).1)), (0, vr r)]) rfl (Nat.le_of_ble_eq_true rfl) rfl ?_
    refine V_ld (pc := 6) dX5_read_6 (v := vi ((altC tx n 5 S0).1)) rfl rfl ?_
    refine V_if_lt (pc := 7) dX5_read_7 (tgt := 33) rfl (fun h7 => ?_) (fun h7 => ?_)
    · skip
      refine V_ld (pc := 33) dX5_read_33 (v := vr r) rfl rfl ?_
      refine V_getIv (pc := 34) dX5_read_34 (v := (-1)) fw_RX5_9 rfl hQ.2.1 hP2.2.2.1 (fun g34 => ?_)
      refine V_iconst (pc := 37) dX5_read_37 (by unfold I32; omega) ?_
      refine V_icmp_ne (pc := 38) dX5_read_38 (tgt := 52) rfl (fun h_ => absurd h_ (by decide)) (fun _ => ?_)
      refine V_ld (pc := 41) dX5_read_41 (v := vi ((altC tx n 5 S0).1)) rfl rfl ?_
      refine V_if_lt (pc := 42) dX5_read_42 (tgt := 52) rfl (fun h42 => ?_) (fun h42 => ?_)
      · skip
        refine V_null (pc := 52) dX5_read_52 ?_
        refine V_retq (pc := 53) dX5_read_53 trivial ?_
        first
          | (exfalso; omega)
          | exact ⟨mI (wI m Ix2), rfl, (CFr.tr CFr.rf hF2), Or.inl ⟨rfl, ⟨hw2, by omega⟩, hP2⟩⟩
      · skip
        refine V_ld (pc := 45) dX5_read_45 (v := vr r) rfl rfl ?_
        refine V_getRv (pc := 46) dX5_read_46 (o' := (r + 1)) fw_RX5_29 rfl hQ.2.1 hQ.2.2.2.1 ?_
        refine V_goto (pc := 49) dX5_read_49 (tgt := 53) rfl ?_
        refine V_retq (pc := 53) dX5_read_53 trivial ?_
        first
          | (exfalso; omega)
          | exact ⟨mI (wI m Ix2), rfl, (CFr.tr CFr.rf hF2), Or.inl ⟨rfl, ⟨hw2, by omega⟩, hP2⟩⟩
    · skip
      refine V_ld (pc := 10) dX5_read_10 (v := vr r) rfl rfl ?_
      refine V_getIv (pc := 11) dX5_read_11 (v := ((altC tx n 5 S0).2.2.1 : Int)) fw_RX5_37 rfl hQ.2.1 hP2.2.1 (fun g11 => ?_)
      refine V_ld (pc := 14) dX5_read_14 (v := vr r) rfl rfl ?_
      refine V_getRv (pc := 15) dX5_read_15 (o' := 13) fw_RX5_15 rfl hQ.2.1 hQ.2.2.1 ?_
      refine V_getIv (pc := 18) dX5_read_18 (v := (n : Int)) fw_RX5_21 rfl hL.t13 hP2.1 (fun g18 => ?_)
      refine V_icmp_ge (pc := 21) dX5_read_21 (tgt := 33) rfl (fun h21 => ?_) (fun h21 => ?_)
      · skip
        refine V_ld (pc := 33) dX5_read_33 (v := vr r) rfl rfl ?_
        refine V_getIv (pc := 34) dX5_read_34 (v := (-1)) fw_RX5_9 rfl hQ.2.1 hP2.2.2.1 (fun g34 => ?_)
        refine V_iconst (pc := 37) dX5_read_37 (by unfold I32; omega) ?_
        refine V_icmp_ne (pc := 38) dX5_read_38 (tgt := 52) rfl (fun h_ => absurd h_ (by decide)) (fun _ => ?_)
        refine V_ld (pc := 41) dX5_read_41 (v := vi ((altC tx n 5 S0).1)) rfl rfl ?_
        refine V_if_lt (pc := 42) dX5_read_42 (tgt := 52) rfl (fun h42 => ?_) (fun h42 => ?_)
        · skip
          refine V_null (pc := 52) dX5_read_52 ?_
          refine V_retq (pc := 53) dX5_read_53 trivial ?_
          first
            | (exfalso; omega)
            | exact ⟨mI (wI m Ix2), rfl, (CFr.tr CFr.rf hF2), Or.inl ⟨rfl, ⟨hw2, by omega⟩, hP2⟩⟩
        · skip
          refine V_ld (pc := 45) dX5_read_45 (v := vr r) rfl rfl ?_
          refine V_getRv (pc := 46) dX5_read_46 (o' := (r + 1)) fw_RX5_29 rfl hQ.2.1 hQ.2.2.2.1 ?_
          refine V_goto (pc := 49) dX5_read_49 (tgt := 53) rfl ?_
          refine V_retq (pc := 53) dX5_read_53 trivial ?_
          first
            | (exfalso; omega)
            | exact ⟨mI (wI m Ix2), rfl, (CFr.tr CFr.rf hF2), Or.inl ⟨rfl, ⟨hw2, by omega⟩, hP2⟩⟩
      · skip
        refine V_ld (pc := 24) dX5_read_24 (v := vr r) rfl rfl ?_
        refine V_ld (pc := 25) dX5_read_25 (v := vr r) rfl rfl ?_
        refine V_getIv (pc := 26) dX5_read_26 (v := ((altC tx n 5 S0).2.2.1 : Int)) fw_RX5_37 rfl hQ.2.1 hP2.2.1 (fun g26 => ?_)
        refine V_callV (pc := 29) dX5_read_29 (F' := 0) (As := [vi ((altC tx n 5 S0).2.2.1 : Int)]) (st := []) cw_RX5_40 rfl rfl hQ.2.1 (by decide) (Nat.le_of_ble_eq_true rfl) (by omega) (c_failed n (wI m Ix2) r ((altC tx n 5 S0).2.2.1 : Int)   hQ) ?_
        rintro _ _ ⟨x29, rfl, Ix29, rfl, rfl, hI29, hF29⟩ ok29 le29
        refine V_pop (pc := 32) dX5_read_32 rfl ?_
        refine V_ld (pc := 33) dX5_read_33 (v := vr r) rfl rfl ?_
        refine V_getIv (pc := 34) dX5_read_34 (v := ((altC tx n 5 S0).2.2.1 : Int)) fw_RX5_9 rfl hQ.2.1 (hI29.trans (if_pos hP2.2.2.1)) (fun g34 => ?_)
        refine V_iconst (pc := 37) dX5_read_37 (by unfold I32; omega) ?_
        refine V_icmp_ne (pc := 38) dX5_read_38 (tgt := 52) rfl (fun h38 => ?_) (fun h38 => ?_)
        · skip
          refine V_null (pc := 52) dX5_read_52 ?_
          refine V_retq (pc := 53) dX5_read_53 trivial ?_
          first
            | (exfalso; omega)
            | exact ⟨mI (wI (wI m Ix2) Ix29), rfl, (CFr.tr (CFr.tr CFr.rf hF2) hF29), Or.inr ⟨rfl, fun h_ => by omega, hI29.trans (if_pos hP2.2.2.1)⟩⟩
        · skip
          refine V_ld (pc := 41) dX5_read_41 (v := vi ((altC tx n 5 S0).1)) rfl rfl ?_
          refine V_if_lt (pc := 42) dX5_read_42 (tgt := 52) rfl (fun h42 => ?_) (fun h42 => ?_)
          · skip
            refine V_null (pc := 52) dX5_read_52 ?_
            refine V_retq (pc := 53) dX5_read_53 trivial ?_
            first
              | (exfalso; omega)
              | exact ⟨mI (wI (wI m Ix2) Ix29), rfl, (CFr.tr (CFr.tr CFr.rf hF2) hF29), Or.inr ⟨rfl, fun h_ => by omega, hI29.trans (if_pos hP2.2.2.1)⟩⟩
          · skip
            refine V_ld (pc := 45) dX5_read_45 (v := vr r) rfl rfl ?_
            refine V_getRv (pc := 46) dX5_read_46 (o' := (r + 1)) fw_RX5_29 rfl hQ.2.1 hQ.2.2.2.1 ?_
            refine V_goto (pc := 49) dX5_read_49 (tgt := 53) rfl ?_
            refine V_retq (pc := 53) dX5_read_53 trivial ?_
            first
              | (exfalso; omega)
              | exact ⟨mI (wI (wI m Ix2) Ix29), rfl, (CFr.tr (CFr.tr CFr.rf hF2) hF29), Or.inr ⟨rfl, fun h_ => by omega, hI29.trans (if_pos hP2.2.2.1)⟩⟩
  · skip
    refine V_st (pc := 5) dX5_read_5 (ls' := [(1, vi (-1)), (0, vr r)]) rfl (Nat.le_of_ble_eq_true rfl) rfl ?_
    refine V_ld (pc := 6) dX5_read_6 (v := vi (-1)) rfl rfl ?_
    refine V_if_lt (pc := 7) dX5_read_7 (tgt := 33) rfl (fun _ => ?_) (fun h_ => absurd h_ (by decide))
    refine V_ld (pc := 33) dX5_read_33 (v := vr r) rfl rfl ?_
    refine V_getIv (pc := 34) dX5_read_34 (v := ((altC tx n 5 S0).2.2.1 : Int)) fw_RX5_9 rfl hQ.2.1 hf2 (fun g34 => ?_)
    refine V_iconst (pc := 37) dX5_read_37 (by unfold I32; omega) ?_
    refine V_icmp_ne (pc := 38) dX5_read_38 (tgt := 52) rfl (fun h38 => ?_) (fun h38 => ?_)
    · skip
      refine V_null (pc := 52) dX5_read_52 ?_
      refine V_retq (pc := 53) dX5_read_53 trivial ?_
      refine ⟨mI (wI m Ix2), rfl, (CFr.tr CFr.rf hF2), Or.inr ⟨rfl, fun h_ => ?_, hf2⟩⟩
      rw [hw2] at h_
      cases h_.1
    · skip
      refine V_ld (pc := 41) dX5_read_41 (v := vi (-1)) rfl rfl ?_
      refine V_if_lt (pc := 42) dX5_read_42 (tgt := 52) rfl (fun _ => ?_) (fun h_ => absurd h_ (by decide))
      refine V_null (pc := 52) dX5_read_52 ?_
      refine V_retq (pc := 53) dX5_read_53 trivial ?_
      refine ⟨mI (wI m Ix2), rfl, (CFr.tr CFr.rf hF2), Or.inr ⟨rfl, fun h_ => ?_, hf2⟩⟩
      rw [hw2] at h_
      cases h_.1

def PM (m : Mem) (n : Nat) : Mem := setR (setR (newO (newO (setR (setI (newO m 5 4) (mN m) 3 (-1)) (mN m) 0 (some 13)) 4 2) 20 (9 * (2 * n))) (mN m + 1) 0 (some (mN m + 2))) (mN m) 1 (some (mN m + 1))
theorem PM_ext {m : Mem} {n : Nat} : Ext m (PM m n) := Ext.setR (Ext.setR (Ext.tr (Ext.tr (Ext.setR (Ext.setI Ext.new (Nat.le_refl _)) (Nat.le_refl _)) Ext.new) Ext.new) (by omega)) (Nat.le_refl _)
theorem PM_lay {m : Mem} {n : Nat} (h : 59 ≤ mN m) : PLay (PM m n) (mN m) n := by
  have e1 : mN (setR (setI (newO m 5 4) (mN m) 3 (-1)) (mN m) 0 (some 13)) = mN m + 1 := rfl
  have e2 : mN (newO (setR (setI (newO m 5 4) (mN m) 3 (-1)) (mN m) 0 (some 13)) 4 2) = mN m + 2 := rfl
  refine ⟨h, ?_, ?_, ?_, ?_, ?_, ?_⟩
  · show mT (newO (newO (setR (setI (newO m 5 4) (mN m) 3 (-1)) (mN m) 0 (some 13)) 4 2) 20 (9 * (2 * n))) (mN m) = _
    rw [mT_newne (M := (newO (setR (setI (newO m 5 4) (mN m) 3 (-1)) (mN m) 0 (some 13)) 4 2)) _ e2 (by omega), mT_newne (M := (setR (setI (newO m 5 4) (mN m) 3 (-1)) (mN m) 0 (some 13))) _ e1 (by omega)]; exact mT_news rfl
  · rw [show mR (PM m n) (mN m) 0 = mR (newO (newO (setR (setI (newO m 5 4) (mN m) 3 (-1)) (mN m) 0 (some 13)) 4 2) 20 (9 * (2 * n))) (mN m) 0 from (mR_setne (by omega)).trans (mR_setne (by omega)), mR_newne (M := (newO (setR (setI (newO m 5 4) (mN m) 3 (-1)) (mN m) 0 (some 13)) 4 2)) _ e2 (by omega), mR_newne (M := (setR (setI (newO m 5 4) (mN m) 3 (-1)) (mN m) 0 (some 13))) _ e1 (by omega)]; exact mR_sets
  · exact mR_sets
  · show mT (newO (newO (setR (setI (newO m 5 4) (mN m) 3 (-1)) (mN m) 0 (some 13)) 4 2) 20 (9 * (2 * n))) (mN m + 1) = _
    rw [mT_newne (M := (newO (setR (setI (newO m 5 4) (mN m) 3 (-1)) (mN m) 0 (some 13)) 4 2)) _ e2 (by omega)]; exact mT_news e1
  · exact (mR_setne (by omega)).trans mR_sets
  · rw [show 18 * n = 9 * (2 * n) from by omega]; exact mT_news (M := (newO (setR (setI (newO m 5 4) (mN m) 3 (-1)) (mN m) 0 (some 13)) 4 2)) e2
theorem PM_CP {m : Mem} {n : Nat} {tx : Nat → Int} (h59 : 59 ≤ mN m) (h1 : mI m 13 1 = (n : Int)) (hn : n ≤ 120) (htx : ∀ k, k < n → mI m 14 k = tx k ∧ 1 ≤ tx k ∧ tx k ≤ 127) : CP (mI (PM m n)) (mN m) tx n S0 := by
  have e1 : mN (setR (setI (newO m 5 4) (mN m) 3 (-1)) (mN m) 0 (some 13)) = mN m + 1 := rfl
  have e2 : mN (newO (setR (setI (newO m 5 4) (mN m) 3 (-1)) (mN m) 0 (some 13)) 4 2) = mN m + 2 := rfl
  have hE := PM_ext (m := m) (n := n)
  have hq : ∀ o k, o ≤ mN m → mI (PM m n) o k = up2 (mI (newO m 5 4)) (mN m) 3 (-1) o k := fun o k ho => by
    show mI (newO (newO (setR (setI (newO m 5 4) (mN m) 3 (-1)) (mN m) 0 (some 13)) 4 2) 20 (9 * (2 * n))) o k = _
    rw [mI_newne (M := (newO (setR (setI (newO m 5 4) (mN m) 3 (-1)) (mN m) 0 (some 13)) 4 2)) _ e2 (by omega), mI_newne (M := (setR (setI (newO m 5 4) (mN m) 3 (-1)) (mN m) 0 (some 13))) _ e1 (by omega)]; rfl
  refine ⟨?_, ?_, ?_, ?_, Nat.zero_le _, Nat.zero_le _, hn, fun k hk => ?_, fun p w hp => absurd hp (Nat.not_lt_zero _), rfl, h59⟩
  · rw [(hE.2.2 13 (by omega)).2.2]; exact h1
  · rw [hq _ _ (Nat.le_refl _), up2_nk (by decide)]; exact mI_news rfl
  · rw [hq _ _ (Nat.le_refl _), up2_s]
  · show mI (newO (newO (setR (setI (newO m 5 4) (mN m) 3 (-1)) (mN m) 0 (some 13)) 4 2) 20 (9 * (2 * n))) (mN m + 1) 1 = _
    rw [mI_newne (M := (newO (setR (setI (newO m 5 4) (mN m) 3 (-1)) (mN m) 0 (some 13)) 4 2)) _ e2 (by omega)]; exact mI_news e1
  · rw [(hE.2.2 14 (by omega)).2.2]; exact htx k hk
def PatW (tx : Nat → Int) (n : Nat) : Prop := (altL tx n 5 S0).2.1 = true ∧ (altL tx n 5 S0).2.2.1 = n
def HasP (m : Mem) (o : Nat) (F : Tb) (c : Nat) : Prop := ∃ A L, mT m o = (4, 2) ∧ mR m o 0 = some A ∧ mT m A = (20, L) ∧ 59 ≤ o ∧ 59 ≤ A ∧ o ≠ A ∧ o < mN m ∧ A < mN m ∧ mI m o 1 = (c : Int) ∧ 9 * c ≤ L ∧ L ≤ 2160 ∧ CTab (mI m) A F c
def PatC (m : Mem) (M n : Nat) (tx : Nat → Int) (x : Int) (m' : Mem) : Prop := mN m' = mN m + 3 ∧ mZ m' = mZ m + 6 + 18 * n ∧ (∀ o, o < mN m → mT m' o = mT m o) ∧ mI m' 13 1 = 0 ∧ (∀ o k, o < mN m → ¬ (o = 13 ∧ k = 1) → ¬ (o = M ∧ k = 3) → mI m' o k = mI m o k) ∧ (∀ o k, o < mN m → ¬ (o = 1 ∧ k = 2) → mR m' o k = mR m o k) ∧
  ((¬ PatW tx n ∧ x = -100 - ((altL tx n 5 S0).2.2.1 : Int) ∧ mR m' 1 2 = mR m 1 2 ∧ mI m' M 3 = mI m M 3) ∨
   (PatW tx n ∧ x = ((altL tx n 5 S0).2.2.2.1 : Int) ∧ mR m' 1 2 = some (mN m + 1) ∧ mI m' M 3 = 0 ∧ HasP m' (mN m + 1) (altL tx n 5 S0).2.2.2.2 (altL tx n 5 S0).2.2.2.1))

set_option maxHeartbeats 8000000 in
theorem c_pattern (tx : Nat → Int) (n : Nat) (m : Mem)  (M : Nat)  (hL : Lay (mT m) (mR m)) (R_1_3 : mR m 1 3 = some M) (T_M : mT m M = (3, 4)) (hM : M = 5 ∨ M = 18) (ht : mI m 13 1 = (n : Int) ∧ n ≤ 120) (htx : ∀ k, k < n → mI m 14 k = tx k ∧ 1 ≤ tx k ∧ tx k ≤ 127) (hr : 59 ≤ mN m ∧ mN m + 3 ≤ NN ∧ mZ m + 6 + 18 * n ≤ ZZ) : Ct μX10_pattern 34 [vr 0] m (ri fun x_ m' => (True) ∧ PatC m M n tx x_ m') := by
  refine Ct_of_V rfl (by decide) rfl (Nat.le_of_ble_eq_true rfl) ?_
  show V μX10_pattern 34 m _ 0 [(0, vr 0)] [] m
  have hat := (altC_nice tx n 5 S0).1 (Nat.zero_le n)
  refine V_newv (pc := 0) (mN m) rfl dX10_pattern_0 nw_RX10_91 (by omega) (by show mZ m + 4 ≤ ZZ; omega) ?_
  refine V_dup (pc := 3) dX10_pattern_3 rfl ?_
  refine V_ld (pc := 4) dX10_pattern_4 (v := vr 0) rfl rfl ?_
  refine V_getRv (pc := 5) dX10_pattern_5 (o' := 13) fw_RX10_30 rfl ((mT_newne (M := m) (o := 0) (mN m) rfl (by omega)).trans hL.t0) ((mR_newne (M := m) (o := 0) (mN m) rfl (by omega)).trans hL.r0_2) ?_
  refine V_callI (pc := 8) dX10_pattern_8 (F' := 2) (As := [vr 13]) (st := [vr (mN m)]) cw_RX10_93 rfl rfl (Nat.le_of_ble_eq_true rfl) (by omega) (c_PR_init n (newO m 5 4) (mN m)   (mT_news (M := m) rfl) ((mT_newne (M := m) (o := 13) (mN m) rfl (by omega)).trans hL.t13) ⟨(mI_newne (mN m) rfl (by omega)).trans ht.1, ht.2, by omega, Nat.lt_succ_self _, by show mN m + 1 + 2 ≤ NN; omega, by show mZ m + 4 + 2 + 18 * n ≤ ZZ; omega⟩) ?_
  rintro _ _ ⟨rfl, rfl⟩ ok8 le8
  refine V_mem (m' := PM m n) rfl ?_
  have hL2 : Lay (mT (PM m n)) (mR (PM m n)) := Lay.ext hL hr.1 PM_ext
  have hQ : PLay (PM m n) (mN m) n := PM_lay hr.1
  have hP0 : CP (mI (PM m n)) (mN m) tx n S0 := PM_CP hr.1 ht.1 ht.2 htx
  have hE := PM_ext (m := m) (n := n)
  refine V_st (pc := 11) dX10_pattern_11 (ls' := [(1, vr (mN m)), (0, vr 0)]) rfl (Nat.le_of_ble_eq_true rfl) rfl ?_
  refine V_ld (pc := 12) dX10_pattern_12 (v := vr (mN m)) rfl rfl ?_
  refine V_callV (pc := 13) dX10_pattern_13 (F' := 33) (As := []) (st := []) cw_RX10_96 rfl rfl hQ.2.1 (by decide) (Nat.le_of_ble_eq_true rfl) (by omega) (c_read tx n (PM m n) (mN m)   hL2 hQ hP0) ?_
  rintro _ _ ⟨x13, rfl, Ix13, rfl, hF13, (⟨rfl, hw13, hP13⟩ | ⟨rfl, hw13, hf13⟩)⟩ ok13 le13
  · skip
    refine V_st (pc := 16) dX10_pattern_16 (ls' := [(2, vr (mN m + 1)), (1, vr (mN m)), (0, vr 0)]) rfl (Nat.le_of_ble_eq_true rfl) rfl ?_
    refine V_ld (pc := 17) dX10_pattern_17 (v := vr 0) rfl rfl ?_
    refine V_getRv (pc := 18) dX10_pattern_18 (o' := 13) fw_RX10_30 rfl hL2.t0 hL2.r0_2 ?_
    refine V_callV (pc := 21) dX10_pattern_21 (F' := 0) (As := []) (st := []) cw_RX10_87 rfl rfl hL2.t13 (by decide) (Nat.le_of_ble_eq_true rfl) (by omega) (c_Text_empty  (wI (PM m n) Ix13) 13   hL2.t13) ?_
    rintro _ _ ⟨x21, rfl, hx21, rfl⟩ ok21 le21
    refine V_pop (pc := 24) dX10_pattern_24 rfl ?_
    refine V_ld (pc := 25) dX10_pattern_25 (v := vr (mN m + 1)) rfl rfl ?_
    refine V_ifnonnull (pc := 26) dX10_pattern_26 (tgt := 37) rfl (fun _ _ => ?_) (fun h_ => by cases h_)
    refine V_ld (pc := 37) dX10_pattern_37 (v := vr 0) rfl rfl ?_
    refine V_getRv (pc := 38) dX10_pattern_38 (o' := 1) fw_RX10_12 rfl hL2.t0 hL2.r0_0 ?_
    refine V_ld (pc := 41) dX10_pattern_41 (v := vr (mN m + 1)) rfl rfl ?_
    refine V_putR (pc := 42) dX10_pattern_42 fw_RX10_103 rfl hL2.t1 (Or.inl rfl) (fun o_ h_ => by cases h_; (try unfold NN at *); unfold SC; omega) ?_
    refine V_ld (pc := 45) dX10_pattern_45 (v := vr 0) rfl rfl ?_
    refine V_getRv (pc := 46) dX10_pattern_46 (o' := 1) fw_RX10_12 rfl hL2.t0 ((mR_setne (M := (setI (wI (PM m n) Ix13) 13 1 0)) (by decide)).trans hL2.r0_0) ?_
    refine V_getRv (pc := 49) dX10_pattern_49 (o' := M) fw_RX10_69 rfl hL2.t1 ((mR_setne (M := (setI (wI (PM m n) Ix13) 13 1 0)) (by decide)).trans ((PM_ext.2.2 1 (by omega)).2.1 3 |>.trans R_1_3)) ?_
    refine V_iconst (pc := 52) dX10_pattern_52 (by unfold I32; omega) ?_
    refine V_putI (pc := 53) dX10_pattern_53 fw_RX10_72 rfl ((PM_ext.2.2 M (by omega)).1.trans T_M) (Or.inl rfl) (Or.inl rfl) ?_
    refine V_ld (pc := 56) dX10_pattern_56 (v := vr (mN m + 1)) rfl rfl ?_
    refine V_getIv (pc := 57) dX10_pattern_57 (v := ((altC tx n 5 S0).2.2.2.1 : Int)) fw_RX10_107 rfl hQ.2.2.2.2.1 (by first | exact hP13.2.2.2.1 | (simp only [mI_setR, mI_setI, up2]; repeat (first | exact hP13.2.2.2.1 | rw [if_neg (by omega)]))) (fun g57 => ?_)
    refine V_reti (pc := 60) dX10_pattern_60 trivial ?_
    have hcl := (pat_CL (tx := tx) (n := n)).2 hw13
    rw [hcl] at hP13 hw13
    refine ⟨trivial, rfl, ?_, fun o ho => (hE.2.2 o ho).1, ?_, fun o k ho h1 h2 => ?_, fun o k ho h1 => ?_, Or.inr ⟨hw13, by rw [hcl], mR_sets, ?_, ?_⟩⟩
    · show mZ m + 4 + 2 + 9 * (2 * n) = _; omega
    · exact (mI_setne (by omega)).trans (show mI (setI (wI (PM m n) Ix13) 13 1 0) 13 1 = 0 from mI_sets)
    · exact (if_neg h2).trans ((if_neg h1).trans ((hF13 o k (by omega) (by omega) (by omega)).trans ((hE.2.2 o ho).2.2 k)))
    · exact (mR_setne (by omega)).trans ((hE.2.2 o ho).2.1 k)
    · exact mI_sets
    · have hc1 := hP13.2.2.2.2.2.1
      have hc2 := hP13.2.2.2.2.1
      refine ⟨mN m + 2, 18 * n, hQ.2.2.2.2.1, ?_, hQ.2.2.2.2.2.2, by omega, by omega, by omega, by show mN m + 1 < mN m + 3; omega, by show mN m + 2 < mN m + 3; omega, ?_, by omega, by omega, fun p w hp hw => ?_⟩
      · exact (mR_setne (by omega)).trans hQ.2.2.2.2.2.1
      · exact (if_neg (by omega)).trans ((if_neg (by omega)).trans hP13.2.2.2.1)
      · exact (if_neg (by omega)).trans ((if_neg (by omega)).trans (hP13.2.2.2.2.2.2.2.2.1 p w hp hw))
  · skip
    refine V_st (pc := 16) dX10_pattern_16 (ls' := [(2, vq none), (1, vr (mN m)), (0, vr 0)]) rfl (Nat.le_of_ble_eq_true rfl) rfl ?_
    refine V_ld (pc := 17) dX10_pattern_17 (v := vr 0) rfl rfl ?_
    refine V_getRv (pc := 18) dX10_pattern_18 (o' := 13) fw_RX10_30 rfl hL2.t0 hL2.r0_2 ?_
    refine V_callV (pc := 21) dX10_pattern_21 (F' := 0) (As := []) (st := []) cw_RX10_87 rfl rfl hL2.t13 (by decide) (Nat.le_of_ble_eq_true rfl) (by omega) (c_Text_empty  (wI (PM m n) Ix13) 13   hL2.t13) ?_
    rintro _ _ ⟨x21, rfl, hx21, rfl⟩ ok21 le21
    refine V_pop (pc := 24) dX10_pattern_24 rfl ?_
    refine V_ld (pc := 25) dX10_pattern_25 (v := vq none) rfl rfl ?_
    refine V_ifnonnull (pc := 26) dX10_pattern_26 (tgt := 37) rfl (fun _ h_ => by cases h_) (fun _ => ?_)
    refine V_bipush (pc := 29) dX10_pattern_29 (by unfold I32; omega) (by decide) ?_
    refine V_ld (pc := 31) dX10_pattern_31 (v := vr (mN m)) rfl rfl ?_
    refine V_getIv (pc := 32) dX10_pattern_32 (v := ((altC tx n 5 S0).2.2.1 : Int)) fw_RX10_100 rfl hQ.2.1 (by first | exact hf13 | (simp only [mI_setI, up2]; repeat (first | exact hf13 | rw [if_neg (by omega)]))) (fun g32 => ?_)
    refine V_isub (pc := 35) dX10_pattern_35 (by unfold I32 at *; omega) ?_
    refine V_reti (pc := 36) dX10_pattern_36 trivial ?_
    have hcl := (pat_CL (tx := tx) (n := n)).1 hw13
    refine ⟨trivial, rfl, ?_, fun o ho => (hE.2.2 o ho).1, mI_sets, fun o k ho h1 h2 => ?_, fun o k ho _ => (hE.2.2 o ho).2.1 k, Or.inl ⟨hcl.1, ?_, (hE.2.2 1 (by omega)).2.1 2, ?_⟩⟩
    · show mZ m + 4 + 2 + 9 * (2 * n) = _; omega
    · exact (if_neg h1).trans ((hF13 o k (by omega) (by omega) (by omega)).trans ((hE.2.2 o ho).2.2 k))
    · rw [hcl.2]
    · exact (if_neg (by omega)).trans ((hF13 M 3 (by omega) (by omega) (by omega)).trans ((hE.2.2 M (by omega)).2.2 3))
