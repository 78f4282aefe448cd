/-! THE LAW'S isHeld() -/
set_option maxHeartbeats 4000000 in
theorem w_heldN (n : Nat) (v : Nat → Nat → Int) (a : Nat) (N : Nat) (m : Mem) (o : Nat) (L : Nat) (r : Int)   (T_o : mT m o = (25, n)) (hR : RwO m o n v) (T_L : mT m L = (20, 40)) (hr : r + 1 = (a : Int) + (N : Int)) (hn : 0 ≤ r ∧ r < (n : Int)) (hv : ∀ k, -10 ≤ ceR v k ∧ ceR v k ≤ 1000) : Ct μL_isHeld 1 [vi (-1), vr o, vr L, vi ((a : Nat) : Int), vi r] m (ri fun x_ m' => (x_ = 1) ∧ m = m') := by
  refine Ct_of_V rfl (by decide) rfl (Nat.le_of_ble_eq_true rfl) ?_
  show V μL_isHeld 1 m _ 0 [(0, vi (-1)), (1, vr o), (2, vr L), (3, vi ((a : Nat) : Int)), (4, vi r)] [] m
  have hn7_ := hR.2.1
  refine V_ld (pc := 0) dL_isHeld_0 (v := vr o) rfl rfl ?_
  refine V_ld (pc := 1) dL_isHeld_1 (v := vi r) rfl rfl ?_
  obtain ⟨q3, Rq3, Tq3, Vq3, Bq3⟩ := hR.row (r := r) (by omega)
  refine V_aaldQ (pc := 3) dL_isHeld_3 (q := some q3) T_o (by decide) (by omega) Rq3 ?_
  refine V_iconst (pc := 4) dL_isHeld_4 (by unfold I32; omega) ?_
  refine V_ialdv (pc := 5) dL_isHeld_5 (v := v r.toNat 0) Tq3 (by omega) Vq3.1 (fun g5 => ?_)
  refine V_st (pc := 6) dL_isHeld_6 (ls' := [(5, vi (v r.toNat 0)), (0, vi (-1)), (1, vr o), (2, vr L), (3, vi ((a : Nat) : Int)), (4, vi r)]) rfl (Nat.le_of_ble_eq_true rfl) rfl ?_
  refine V_ld (pc := 8) dL_isHeld_8 (v := vr o) rfl rfl ?_
  refine V_ld (pc := 9) dL_isHeld_9 (v := vi r) rfl rfl ?_
  obtain ⟨q11, Rq11, Tq11, Vq11, Bq11⟩ := hR.row (r := r) (by omega)
  refine V_aaldQ (pc := 11) dL_isHeld_11 (q := some q11) T_o (by decide) (by omega) Rq11 ?_
  refine V_iconst (pc := 12) dL_isHeld_12 (by unfold I32; omega) ?_
  refine V_ialdv (pc := 13) dL_isHeld_13 (v := v r.toNat 1) Tq11 (by omega) Vq11.2 (fun g13 => ?_)
  refine V_st (pc := 14) dL_isHeld_14 (ls' := [(6, vi (v r.toNat 1)), (5, vi (v r.toNat 0)), (0, vi (-1)), (1, vr o), (2, vr L), (3, vi ((a : Nat) : Int)), (4, vi r)]) rfl (Nat.le_of_ble_eq_true rfl) rfl ?_
  refine V_ld (pc := 16) dL_isHeld_16 (v := vr o) rfl rfl ?_
  refine V_ld (pc := 17) dL_isHeld_17 (v := vr L) rfl rfl ?_
  refine V_ld (pc := 18) dL_isHeld_18 (v := vi ((a : Nat) : Int)) rfl rfl ?_
  refine V_ld (pc := 19) dL_isHeld_19 (v := vi r) rfl rfl ?_
  refine V_iconst (pc := 21) dL_isHeld_21 (by unfold I32; omega) ?_
  refine V_iconst (pc := 22) dL_isHeld_22 (by unfold I32; omega) ?_
  refine V_callS (pc := 23) dL_isHeld_23 (F' := 0) (As := [vr o, vr L, vi ((a : Nat) : Int), vi r, vi 0, vi (-1)]) (st := []) cw_RL_57 rfl rfl (Nat.le_of_ble_eq_true rfl) (by omega) (w_sumN n v a N m o L r 0   hR T_L hr hn.2 hv) ?_
  rintro _ _ ⟨x23, rfl, hx23, rfl⟩ ok23 le23
  subst hx23
  refine V_st (pc := 26) dL_isHeld_26 (ls' := [(7, vi (cnE (fun k_ : Nat => mI m L k_) 0 N (a : Int))), (6, vi (v r.toNat 1)), (5, vi (v r.toNat 0)), (0, vi (-1)), (1, vr o), (2, vr L), (3, vi ((a : Nat) : Int)), (4, vi r)]) rfl (Nat.le_of_ble_eq_true rfl) rfl ?_
  refine V_ld (pc := 28) dL_isHeld_28 (v := vr o) rfl rfl ?_
  refine V_ld (pc := 29) dL_isHeld_29 (v := vr L) rfl rfl ?_
  refine V_ld (pc := 30) dL_isHeld_30 (v := vi ((a : Nat) : Int)) rfl rfl ?_
  refine V_ld (pc := 31) dL_isHeld_31 (v := vi r) rfl rfl ?_
  refine V_iconst (pc := 33) dL_isHeld_33 (by unfold I32; omega) ?_
  refine V_iconst (pc := 34) dL_isHeld_34 (by unfold I32; omega) ?_
  refine V_callS (pc := 35) dL_isHeld_35 (F' := 0) (As := [vr o, vr L, vi ((a : Nat) : Int), vi r, vi 1, vi (-1)]) (st := []) cw_RL_57 rfl rfl (Nat.le_of_ble_eq_true rfl) (by omega) (w_sumN n v a N m o L r 1   hR T_L hr hn.2 hv) ?_
  rintro _ _ ⟨x35, rfl, hx35, rfl⟩ ok35 le35
  subst hx35
  refine V_st (pc := 38) dL_isHeld_38 (ls' := [(8, vi (cnE (fun k_ : Nat => mI m L k_) 1 N (a : Int))), (7, vi (cnE (fun k_ : Nat => mI m L k_) 0 N (a : Int))), (6, vi (v r.toNat 1)), (5, vi (v r.toNat 0)), (0, vi (-1)), (1, vr o), (2, vr L), (3, vi ((a : Nat) : Int)), (4, vi r)]) rfl (Nat.le_of_ble_eq_true rfl) rfl ?_
  refine V_ld (pc := 40) dL_isHeld_40 (v := vi (-1)) rfl rfl ?_
  refine V_if_ne (pc := 41) dL_isHeld_41 (tgt := 51) rfl (fun _ => ?_) (fun h_ => absurd h_ (by decide))
  refine V_ld (pc := 51) dL_isHeld_51 (v := vi (-1)) rfl rfl ?_
  refine V_iconst (pc := 52) dL_isHeld_52 (by unfold I32; omega) ?_
  refine V_icmp_ne (pc := 53) dL_isHeld_53 (tgt := 81) rfl (fun _ => ?_) (fun h_ => absurd h_ (by decide))
  refine V_ld (pc := 81) dL_isHeld_81 (v := vi (-1)) rfl rfl ?_
  refine V_iconst (pc := 82) dL_isHeld_82 (by unfold I32; omega) ?_
  refine V_icmp_ne (pc := 83) dL_isHeld_83 (tgt := 101) rfl (fun _ => ?_) (fun h_ => absurd h_ (by decide))
  refine V_ld (pc := 101) dL_isHeld_101 (v := vi (-1)) rfl rfl ?_
  refine V_iconst (pc := 102) dL_isHeld_102 (by unfold I32; omega) ?_
  refine V_icmp_ne (pc := 103) dL_isHeld_103 (tgt := 127) rfl (fun _ => ?_) (fun h_ => absurd h_ (by decide))
  refine V_ld (pc := 127) dL_isHeld_127 (v := vi (-1)) rfl rfl ?_
  refine V_iconst (pc := 128) dL_isHeld_128 (by unfold I32; omega) ?_
  refine V_icmp_ne (pc := 129) dL_isHeld_129 (tgt := 174) rfl (fun _ => ?_) (fun h_ => absurd h_ (by decide))
  refine V_ld (pc := 174) dL_isHeld_174 (v := vi (-1)) rfl rfl ?_
  refine V_iconst (pc := 175) dL_isHeld_175 (by unfold I32; omega) ?_
  refine V_icmp_ne (pc := 176) dL_isHeld_176 (tgt := 199) rfl (fun _ => ?_) (fun h_ => absurd h_ (by decide))
  refine V_ld (pc := 199) dL_isHeld_199 (v := vi (-1)) rfl rfl ?_
  refine V_bipush (pc := 200) dL_isHeld_200 (by unfold I32; omega) (by decide) ?_
  refine V_icmp_ne (pc := 202) dL_isHeld_202 (tgt := 235) rfl (fun _ => ?_) (fun h_ => absurd h_ (by decide))
  refine V_ld (pc := 235) dL_isHeld_235 (v := vi (-1)) rfl rfl ?_
  refine V_if_lt (pc := 236) dL_isHeld_236 (tgt := 272) rfl (fun _ => ?_) (fun h_ => absurd h_ (by decide))
  refine V_iconst (pc := 272) dL_isHeld_272 (by unfold I32; omega) ?_
  refine V_goto (pc := 273) dL_isHeld_273 (tgt := 277) rfl ?_
  refine V_reti (pc := 277) dL_isHeld_277 (show _ = (0 : Int) ∨ _ = (1 : Int) from by first | exact Or.inl rfl | exact Or.inr rfl | omega) ?_
  refine ⟨?_, rfl⟩
  first | rfl | omega | (rw [if_pos (by omega)]) | (rw [if_neg (by omega)])

set_option maxHeartbeats 4000000 in
theorem w_held0 (n : Nat) (v : Nat → Nat → Int) (a : Nat) (N : Nat) (m : Mem) (o : Nat) (L : Nat) (r : Int)   (T_o : mT m o = (25, n)) (hR : RwO m o n v) (T_L : mT m L = (20, 40)) (hr : r + 1 = (a : Int) + (N : Int)) (hn : 0 ≤ r ∧ r < (n : Int)) (hv : ∀ k, -10 ≤ ceR v k ∧ ceR v k ≤ 1000) : Ct μL_isHeld 1 [vi 0, vr o, vr L, vi ((a : Nat) : Int), vi r] m (ri fun x_ m' => (x_ = lsI 0 (v r.toNat 0)) ∧ m = m') := by
  refine Ct_of_V rfl (by decide) rfl (Nat.le_of_ble_eq_true rfl) ?_
  show V μL_isHeld 1 m _ 0 [(0, vi 0), (1, vr o), (2, vr L), (3, vi ((a : Nat) : Int)), (4, vi r)] [] m
  have hn7_ := hR.2.1
  refine V_ld (pc := 0) dL_isHeld_0 (v := vr o) rfl rfl ?_
  refine V_ld (pc := 1) dL_isHeld_1 (v := vi r) rfl rfl ?_
  obtain ⟨q3, Rq3, Tq3, Vq3, Bq3⟩ := hR.row (r := r) (by omega)
  refine V_aaldQ (pc := 3) dL_isHeld_3 (q := some q3) T_o (by decide) (by omega) Rq3 ?_
  refine V_iconst (pc := 4) dL_isHeld_4 (by unfold I32; omega) ?_
  refine V_ialdv (pc := 5) dL_isHeld_5 (v := v r.toNat 0) Tq3 (by omega) Vq3.1 (fun g5 => ?_)
  refine V_st (pc := 6) dL_isHeld_6 (ls' := [(5, vi (v r.toNat 0)), (0, vi 0), (1, vr o), (2, vr L), (3, vi ((a : Nat) : Int)), (4, vi r)]) rfl (Nat.le_of_ble_eq_true rfl) rfl ?_
  refine V_ld (pc := 8) dL_isHeld_8 (v := vr o) rfl rfl ?_
  refine V_ld (pc := 9) dL_isHeld_9 (v := vi r) rfl rfl ?_
  obtain ⟨q11, Rq11, Tq11, Vq11, Bq11⟩ := hR.row (r := r) (by omega)
  refine V_aaldQ (pc := 11) dL_isHeld_11 (q := some q11) T_o (by decide) (by omega) Rq11 ?_
  refine V_iconst (pc := 12) dL_isHeld_12 (by unfold I32; omega) ?_
  refine V_ialdv (pc := 13) dL_isHeld_13 (v := v r.toNat 1) Tq11 (by omega) Vq11.2 (fun g13 => ?_)
  refine V_st (pc := 14) dL_isHeld_14 (ls' := [(6, vi (v r.toNat 1)), (5, vi (v r.toNat 0)), (0, vi 0), (1, vr o), (2, vr L), (3, vi ((a : Nat) : Int)), (4, vi r)]) rfl (Nat.le_of_ble_eq_true rfl) rfl ?_
  refine V_ld (pc := 16) dL_isHeld_16 (v := vr o) rfl rfl ?_
  refine V_ld (pc := 17) dL_isHeld_17 (v := vr L) rfl rfl ?_
  refine V_ld (pc := 18) dL_isHeld_18 (v := vi ((a : Nat) : Int)) rfl rfl ?_
  refine V_ld (pc := 19) dL_isHeld_19 (v := vi r) rfl rfl ?_
  refine V_iconst (pc := 21) dL_isHeld_21 (by unfold I32; omega) ?_
  refine V_iconst (pc := 22) dL_isHeld_22 (by unfold I32; omega) ?_
  refine V_callS (pc := 23) dL_isHeld_23 (F' := 0) (As := [vr o, vr L, vi ((a : Nat) : Int), vi r, vi 0, vi (-1)]) (st := []) cw_RL_57 rfl rfl (Nat.le_of_ble_eq_true rfl) (by omega) (w_sumN n v a N m o L r 0   hR T_L hr hn.2 hv) ?_
  rintro _ _ ⟨x23, rfl, hx23, rfl⟩ ok23 le23
  subst hx23
  refine V_st (pc := 26) dL_isHeld_26 (ls' := [(7, vi (cnE (fun k_ : Nat => mI m L k_) 0 N (a : Int))), (6, vi (v r.toNat 1)), (5, vi (v r.toNat 0)), (0, vi 0), (1, vr o), (2, vr L), (3, vi ((a : Nat) : Int)), (4, vi r)]) rfl (Nat.le_of_ble_eq_true rfl) rfl ?_
  refine V_ld (pc := 28) dL_isHeld_28 (v := vr o) rfl rfl ?_
  refine V_ld (pc := 29) dL_isHeld_29 (v := vr L) rfl rfl ?_
  refine V_ld (pc := 30) dL_isHeld_30 (v := vi ((a : Nat) : Int)) rfl rfl ?_
  refine V_ld (pc := 31) dL_isHeld_31 (v := vi r) rfl rfl ?_
  refine V_iconst (pc := 33) dL_isHeld_33 (by unfold I32; omega) ?_
  refine V_iconst (pc := 34) dL_isHeld_34 (by unfold I32; omega) ?_
  refine V_callS (pc := 35) dL_isHeld_35 (F' := 0) (As := [vr o, vr L, vi ((a : Nat) : Int), vi r, vi 1, vi (-1)]) (st := []) cw_RL_57 rfl rfl (Nat.le_of_ble_eq_true rfl) (by omega) (w_sumN n v a N m o L r 1   hR T_L hr hn.2 hv) ?_
  rintro _ _ ⟨x35, rfl, hx35, rfl⟩ ok35 le35
  subst hx35
  refine V_st (pc := 38) dL_isHeld_38 (ls' := [(8, vi (cnE (fun k_ : Nat => mI m L k_) 1 N (a : Int))), (7, vi (cnE (fun k_ : Nat => mI m L k_) 0 N (a : Int))), (6, vi (v r.toNat 1)), (5, vi (v r.toNat 0)), (0, vi 0), (1, vr o), (2, vr L), (3, vi ((a : Nat) : Int)), (4, vi r)]) rfl (Nat.le_of_ble_eq_true rfl) rfl ?_
  refine V_ld (pc := 40) dL_isHeld_40 (v := vi 0) rfl rfl ?_
  refine V_if_ne (pc := 41) dL_isHeld_41 (tgt := 51) rfl (fun h_ => absurd h_ (by decide)) (fun _ => ?_)
  refine V_iconst (pc := 44) dL_isHeld_44 (by unfold I32; omega) ?_
  refine V_ld (pc := 45) dL_isHeld_45 (v := vi (v r.toNat 0)) rfl rfl ?_
  refine V_callS (pc := 47) dL_isHeld_47 (F' := 0) (As := [vi 0, vi (v r.toNat 0)]) (st := []) cw_RL_61 rfl rfl (Nat.le_of_ble_eq_true rfl) (by omega) (w_less  m 0 (v r.toNat 0)   ) ?_
  rintro _ _ ⟨x47, rfl, hx47, rfl⟩ ok47 le47
  subst hx47
  have u_ := lsI_v 0 (v r.toNat 0)
  refine V_reti (pc := 50) dL_isHeld_50 (show _ = (0 : Int) ∨ _ = (1 : Int) from by first | exact Or.inl rfl | exact Or.inr rfl | omega) ?_
  refine ⟨?_, rfl⟩
  first | rfl | omega | (rw [if_pos (by omega)]) | (rw [if_neg (by omega)])

set_option maxHeartbeats 4000000 in
theorem w_held1 (n : Nat) (v : Nat → Nat → Int) (a : Nat) (N : Nat) (m : Mem) (o : Nat) (L : Nat) (r : Int)   (T_o : mT m o = (25, n)) (hR : RwO m o n v) (T_L : mT m L = (20, 40)) (hr : r + 1 = (a : Int) + (N : Int)) (hn : 0 ≤ r ∧ r < (n : Int)) (hv : ∀ k, -10 ≤ ceR v k ∧ ceR v k ≤ 1000) : Ct μL_isHeld 1 [vi 1, vr o, vr L, vi ((a : Nat) : Int), vi r] m (ri fun x_ m' => (x_ = if ¬ lsI (v r.toNat 1) (v r.toNat 0) = 0 ∨ ¬ lqI (v r.toNat 0) 5 = 0 then 1 else 0) ∧ m = m') := by
  refine Ct_of_V rfl (by decide) rfl (Nat.le_of_ble_eq_true rfl) ?_
  show V μL_isHeld 1 m _ 0 [(0, vi 1), (1, vr o), (2, vr L), (3, vi ((a : Nat) : Int)), (4, vi r)] [] m
  have hn7_ := hR.2.1
  refine V_ld (pc := 0) dL_isHeld_0 (v := vr o) rfl rfl ?_
  refine V_ld (pc := 1) dL_isHeld_1 (v := vi r) rfl rfl ?_
  obtain ⟨q3, Rq3, Tq3, Vq3, Bq3⟩ := hR.row (r := r) (by omega)
  refine V_aaldQ (pc := 3) dL_isHeld_3 (q := some q3) T_o (by decide) (by omega) Rq3 ?_
  refine V_iconst (pc := 4) dL_isHeld_4 (by unfold I32; omega) ?_
  refine V_ialdv (pc := 5) dL_isHeld_5 (v := v r.toNat 0) Tq3 (by omega) Vq3.1 (fun g5 => ?_)
  refine V_st (pc := 6) dL_isHeld_6 (ls' := [(5, vi (v r.toNat 0)), (0, vi 1), (1, vr o), (2, vr L), (3, vi ((a : Nat) : Int)), (4, vi r)]) rfl (Nat.le_of_ble_eq_true rfl) rfl ?_
  refine V_ld (pc := 8) dL_isHeld_8 (v := vr o) rfl rfl ?_
  refine V_ld (pc := 9) dL_isHeld_9 (v := vi r) rfl rfl ?_
  obtain ⟨q11, Rq11, Tq11, Vq11, Bq11⟩ := hR.row (r := r) (by omega)
  refine V_aaldQ (pc := 11) dL_isHeld_11 (q := some q11) T_o (by decide) (by omega) Rq11 ?_
  refine V_iconst (pc := 12) dL_isHeld_12 (by unfold I32; omega) ?_
  refine V_ialdv (pc := 13) dL_isHeld_13 (v := v r.toNat 1) Tq11 (by omega) Vq11.2 (fun g13 => ?_)
  refine V_st (pc := 14) dL_isHeld_14 (ls' := [(6, vi (v r.toNat 1)), (5, vi (v r.toNat 0)), (0, vi 1), (1, vr o), (2, vr L), (3, vi ((a : Nat) : Int)), (4, vi r)]) rfl (Nat.le_of_ble_eq_true rfl) rfl ?_
  refine V_ld (pc := 16) dL_isHeld_16 (v := vr o) rfl rfl ?_
  refine V_ld (pc := 17) dL_isHeld_17 (v := vr L) rfl rfl ?_
  refine V_ld (pc := 18) dL_isHeld_18 (v := vi ((a : Nat) : Int)) rfl rfl ?_
  refine V_ld (pc := 19) dL_isHeld_19 (v := vi r) rfl rfl ?_
  refine V_iconst (pc := 21) dL_isHeld_21 (by unfold I32; omega) ?_
  refine V_iconst (pc := 22) dL_isHeld_22 (by unfold I32; omega) ?_
  refine V_callS (pc := 23) dL_isHeld_23 (F' := 0) (As := [vr o, vr L, vi ((a : Nat) : Int), vi r, vi 0, vi (-1)]) (st := []) cw_RL_57 rfl rfl (Nat.le_of_ble_eq_true rfl) (by omega) (w_sumN n v a N m o L r 0   hR T_L hr hn.2 hv) ?_
  rintro _ _ ⟨x23, rfl, hx23, rfl⟩ ok23 le23
  subst hx23
  refine V_st (pc := 26) dL_isHeld_26 (ls' := [(7, vi (cnE (fun k_ : Nat => mI m L k_) 0 N (a : Int))), (6, vi (v r.toNat 1)), (5, vi (v r.toNat 0)), (0, vi 1), (1, vr o), (2, vr L), (3, vi ((a : Nat) : Int)), (4, vi r)]) rfl (Nat.le_of_ble_eq_true rfl) rfl ?_
  refine V_ld (pc := 28) dL_isHeld_28 (v := vr o) rfl rfl ?_
  refine V_ld (pc := 29) dL_isHeld_29 (v := vr L) rfl rfl ?_
  refine V_ld (pc := 30) dL_isHeld_30 (v := vi ((a : Nat) : Int)) rfl rfl ?_
  refine V_ld (pc := 31) dL_isHeld_31 (v := vi r) rfl rfl ?_
  refine V_iconst (pc := 33) dL_isHeld_33 (by unfold I32; omega) ?_
  refine V_iconst (pc := 34) dL_isHeld_34 (by unfold I32; omega) ?_
  refine V_callS (pc := 35) dL_isHeld_35 (F' := 0) (As := [vr o, vr L, vi ((a : Nat) : Int), vi r, vi 1, vi (-1)]) (st := []) cw_RL_57 rfl rfl (Nat.le_of_ble_eq_true rfl) (by omega) (w_sumN n v a N m o L r 1   hR T_L hr hn.2 hv) ?_
  rintro _ _ ⟨x35, rfl, hx35, rfl⟩ ok35 le35
  subst hx35
  refine V_st (pc := 38) dL_isHeld_38 (ls' := [(8, vi (cnE (fun k_ : Nat => mI m L k_) 1 N (a : Int))), (7, vi (cnE (fun k_ : Nat => mI m L k_) 0 N (a : Int))), (6, vi (v r.toNat 1)), (5, vi (v r.toNat 0)), (0, vi 1), (1, vr o), (2, vr L), (3, vi ((a : Nat) : Int)), (4, vi r)]) rfl (Nat.le_of_ble_eq_true rfl) rfl ?_
  refine V_ld (pc := 40) dL_isHeld_40 (v := vi 1) rfl rfl ?_
  refine V_if_ne (pc := 41) dL_isHeld_41 (tgt := 51) rfl (fun _ => ?_) (fun h_ => absurd h_ (by decide))
  refine V_ld (pc := 51) dL_isHeld_51 (v := vi 1) rfl rfl ?_
  refine V_iconst (pc := 52) dL_isHeld_52 (by unfold I32; omega) ?_
  refine V_icmp_ne (pc := 53) dL_isHeld_53 (tgt := 81) rfl (fun h_ => absurd h_ (by decide)) (fun _ => ?_)
  refine V_ld (pc := 56) dL_isHeld_56 (v := vi (v r.toNat 1)) rfl rfl ?_
  refine V_ld (pc := 58) dL_isHeld_58 (v := vi (v r.toNat 0)) rfl rfl ?_
  refine V_callS (pc := 60) dL_isHeld_60 (F' := 0) (As := [vi (v r.toNat 1), vi (v r.toNat 0)]) (st := []) cw_RL_61 rfl rfl (Nat.le_of_ble_eq_true rfl) (by omega) (w_less  m (v r.toNat 1) (v r.toNat 0)   ) ?_
  rintro _ _ ⟨x60, rfl, hx60, rfl⟩ ok60 le60
  subst hx60
  refine V_if_ne (pc := 63) dL_isHeld_63 (tgt := 75) rfl (fun h63 => ?_) (fun h63 => ?_)
  · skip
    refine V_iconst (pc := 75) dL_isHeld_75 (by unfold I32; omega) ?_
    refine V_goto (pc := 76) dL_isHeld_76 (tgt := 80) rfl ?_
    refine V_reti (pc := 80) dL_isHeld_80 (show _ = (0 : Int) ∨ _ = (1 : Int) from by first | exact Or.inl rfl | exact Or.inr rfl | omega) ?_
    refine ⟨?_, rfl⟩
    first | rfl | omega | (rw [if_pos (by omega)]) | (rw [if_neg (by omega)])
  · skip
    refine V_ld (pc := 66) dL_isHeld_66 (v := vi (v r.toNat 0)) rfl rfl ?_
    refine V_iconst (pc := 68) dL_isHeld_68 (by unfold I32; omega) ?_
    refine V_callS (pc := 69) dL_isHeld_69 (F' := 0) (As := [vi (v r.toNat 0), vi 5]) (st := []) cw_RL_65 rfl rfl (Nat.le_of_ble_eq_true rfl) (by omega) (w_like  m (v r.toNat 0) 5   ) ?_
    rintro _ _ ⟨x69, rfl, hx69, rfl⟩ ok69 le69
    subst hx69
    refine V_if_eq (pc := 72) dL_isHeld_72 (tgt := 79) rfl (fun h72 => ?_) (fun h72 => ?_)
    · skip
      refine V_iconst (pc := 79) dL_isHeld_79 (by unfold I32; omega) ?_
      refine V_reti (pc := 80) dL_isHeld_80 (show _ = (0 : Int) ∨ _ = (1 : Int) from by first | exact Or.inl rfl | exact Or.inr rfl | omega) ?_
      refine ⟨?_, rfl⟩
      first | rfl | omega | (rw [if_pos (by omega)]) | (rw [if_neg (by omega)])
    · skip
      refine V_iconst (pc := 75) dL_isHeld_75 (by unfold I32; omega) ?_
      refine V_goto (pc := 76) dL_isHeld_76 (tgt := 80) rfl ?_
      refine V_reti (pc := 80) dL_isHeld_80 (show _ = (0 : Int) ∨ _ = (1 : Int) from by first | exact Or.inl rfl | exact Or.inr rfl | omega) ?_
      refine ⟨?_, rfl⟩
      first | rfl | omega | (rw [if_pos (by omega)]) | (rw [if_neg (by omega)])

set_option maxHeartbeats 4000000 in
theorem w_held2 (n : Nat) (v : Nat → Nat → Int) (a : Nat) (N : Nat) (m : Mem) (o : Nat) (L : Nat) (r : Int)   (T_o : mT m o = (25, n)) (hR : RwO m o n v) (T_L : mT m L = (20, 40)) (hr : r + 1 = (a : Int) + (N : Int)) (hn : 0 ≤ r ∧ r < (n : Int)) (hv : ∀ k, -10 ≤ ceR v k ∧ ceR v k ≤ 1000) : Ct μL_isHeld 1 [vi 2, vr o, vr L, vi ((a : Nat) : Int), vi r] m (ri fun x_ m' => (x_ = lsI (valR v n (r - 1) 0) (v r.toNat 0)) ∧ m = m') := by
  refine Ct_of_V rfl (by decide) rfl (Nat.le_of_ble_eq_true rfl) ?_
  show V μL_isHeld 1 m _ 0 [(0, vi 2), (1, vr o), (2, vr L), (3, vi ((a : Nat) : Int)), (4, vi r)] [] m
  have hn7_ := hR.2.1
  refine V_ld (pc := 0) dL_isHeld_0 (v := vr o) rfl rfl ?_
  refine V_ld (pc := 1) dL_isHeld_1 (v := vi r) rfl rfl ?_
  obtain ⟨q3, Rq3, Tq3, Vq3, Bq3⟩ := hR.row (r := r) (by omega)
  refine V_aaldQ (pc := 3) dL_isHeld_3 (q := some q3) T_o (by decide) (by omega) Rq3 ?_
  refine V_iconst (pc := 4) dL_isHeld_4 (by unfold I32; omega) ?_
  refine V_ialdv (pc := 5) dL_isHeld_5 (v := v r.toNat 0) Tq3 (by omega) Vq3.1 (fun g5 => ?_)
  refine V_st (pc := 6) dL_isHeld_6 (ls' := [(5, vi (v r.toNat 0)), (0, vi 2), (1, vr o), (2, vr L), (3, vi ((a : Nat) : Int)), (4, vi r)]) rfl (Nat.le_of_ble_eq_true rfl) rfl ?_
  refine V_ld (pc := 8) dL_isHeld_8 (v := vr o) rfl rfl ?_
  refine V_ld (pc := 9) dL_isHeld_9 (v := vi r) rfl rfl ?_
  obtain ⟨q11, Rq11, Tq11, Vq11, Bq11⟩ := hR.row (r := r) (by omega)
  refine V_aaldQ (pc := 11) dL_isHeld_11 (q := some q11) T_o (by decide) (by omega) Rq11 ?_
  refine V_iconst (pc := 12) dL_isHeld_12 (by unfold I32; omega) ?_
  refine V_ialdv (pc := 13) dL_isHeld_13 (v := v r.toNat 1) Tq11 (by omega) Vq11.2 (fun g13 => ?_)
  refine V_st (pc := 14) dL_isHeld_14 (ls' := [(6, vi (v r.toNat 1)), (5, vi (v r.toNat 0)), (0, vi 2), (1, vr o), (2, vr L), (3, vi ((a : Nat) : Int)), (4, vi r)]) rfl (Nat.le_of_ble_eq_true rfl) rfl ?_
  refine V_ld (pc := 16) dL_isHeld_16 (v := vr o) rfl rfl ?_
  refine V_ld (pc := 17) dL_isHeld_17 (v := vr L) rfl rfl ?_
  refine V_ld (pc := 18) dL_isHeld_18 (v := vi ((a : Nat) : Int)) rfl rfl ?_
  refine V_ld (pc := 19) dL_isHeld_19 (v := vi r) rfl rfl ?_
  refine V_iconst (pc := 21) dL_isHeld_21 (by unfold I32; omega) ?_
  refine V_iconst (pc := 22) dL_isHeld_22 (by unfold I32; omega) ?_
  refine V_callS (pc := 23) dL_isHeld_23 (F' := 0) (As := [vr o, vr L, vi ((a : Nat) : Int), vi r, vi 0, vi (-1)]) (st := []) cw_RL_57 rfl rfl (Nat.le_of_ble_eq_true rfl) (by omega) (w_sumN n v a N m o L r 0   hR T_L hr hn.2 hv) ?_
  rintro _ _ ⟨x23, rfl, hx23, rfl⟩ ok23 le23
  subst hx23
  refine V_st (pc := 26) dL_isHeld_26 (ls' := [(7, vi (cnE (fun k_ : Nat => mI m L k_) 0 N (a : Int))), (6, vi (v r.toNat 1)), (5, vi (v r.toNat 0)), (0, vi 2), (1, vr o), (2, vr L), (3, vi ((a : Nat) : Int)), (4, vi r)]) rfl (Nat.le_of_ble_eq_true rfl) rfl ?_
  refine V_ld (pc := 28) dL_isHeld_28 (v := vr o) rfl rfl ?_
  refine V_ld (pc := 29) dL_isHeld_29 (v := vr L) rfl rfl ?_
  refine V_ld (pc := 30) dL_isHeld_30 (v := vi ((a : Nat) : Int)) rfl rfl ?_
  refine V_ld (pc := 31) dL_isHeld_31 (v := vi r) rfl rfl ?_
  refine V_iconst (pc := 33) dL_isHeld_33 (by unfold I32; omega) ?_
  refine V_iconst (pc := 34) dL_isHeld_34 (by unfold I32; omega) ?_
  refine V_callS (pc := 35) dL_isHeld_35 (F' := 0) (As := [vr o, vr L, vi ((a : Nat) : Int), vi r, vi 1, vi (-1)]) (st := []) cw_RL_57 rfl rfl (Nat.le_of_ble_eq_true rfl) (by omega) (w_sumN n v a N m o L r 1   hR T_L hr hn.2 hv) ?_
  rintro _ _ ⟨x35, rfl, hx35, rfl⟩ ok35 le35
  subst hx35
  refine V_st (pc := 38) dL_isHeld_38 (ls' := [(8, vi (cnE (fun k_ : Nat => mI m L k_) 1 N (a : Int))), (7, vi (cnE (fun k_ : Nat => mI m L k_) 0 N (a : Int))), (6, vi (v r.toNat 1)), (5, vi (v r.toNat 0)), (0, vi 2), (1, vr o), (2, vr L), (3, vi ((a : Nat) : Int)), (4, vi r)]) rfl (Nat.le_of_ble_eq_true rfl) rfl ?_
  refine V_ld (pc := 40) dL_isHeld_40 (v := vi 2) rfl rfl ?_
  refine V_if_ne (pc := 41) dL_isHeld_41 (tgt := 51) rfl (fun _ => ?_) (fun h_ => absurd h_ (by decide))
  refine V_ld (pc := 51) dL_isHeld_51 (v := vi 2) rfl rfl ?_
  refine V_iconst (pc := 52) dL_isHeld_52 (by unfold I32; omega) ?_
  refine V_icmp_ne (pc := 53) dL_isHeld_53 (tgt := 81) rfl (fun _ => ?_) (fun h_ => absurd h_ (by decide))
  refine V_ld (pc := 81) dL_isHeld_81 (v := vi 2) rfl rfl ?_
  refine V_iconst (pc := 82) dL_isHeld_82 (by unfold I32; omega) ?_
  refine V_icmp_ne (pc := 83) dL_isHeld_83 (tgt := 101) rfl (fun h_ => absurd h_ (by decide)) (fun _ => ?_)
  refine V_ld (pc := 86) dL_isHeld_86 (v := vr o) rfl rfl ?_
  refine V_ld (pc := 87) dL_isHeld_87 (v := vi r) rfl rfl ?_
  refine V_iconst (pc := 89) dL_isHeld_89 (by unfold I32; omega) ?_
  refine V_isub (pc := 90) dL_isHeld_90 (by unfold I32 at *; omega) ?_
  refine V_iconst (pc := 91) dL_isHeld_91 (by unfold I32; omega) ?_
  refine V_callS (pc := 92) dL_isHeld_92 (F' := 0) (As := [vr o, vi (r - 1), vi 0]) (st := []) cw_RL_68 rfl rfl (Nat.le_of_ble_eq_true rfl) (by omega) (w_value0 n v m o (r - 1)   T_o hR) ?_
  rintro _ _ ⟨x92, rfl, hx92, rfl⟩ ok92 le92
  subst hx92
  refine V_ld (pc := 95) dL_isHeld_95 (v := vi (v r.toNat 0)) rfl rfl ?_
  refine V_callS (pc := 97) dL_isHeld_97 (F' := 0) (As := [vi (valR v n (r - 1) 0), vi (v r.toNat 0)]) (st := []) cw_RL_61 rfl rfl (Nat.le_of_ble_eq_true rfl) (by omega) (w_less  m (valR v n (r - 1) 0) (v r.toNat 0)   ) ?_
  rintro _ _ ⟨x97, rfl, hx97, rfl⟩ ok97 le97
  subst hx97
  have u_ := lsI_v (valR v n (r - 1) 0) (v r.toNat 0)
  refine V_reti (pc := 100) dL_isHeld_100 (show _ = (0 : Int) ∨ _ = (1 : Int) from by first | exact Or.inl rfl | exact Or.inr rfl | omega) ?_
  refine ⟨?_, rfl⟩
  first | rfl | omega | (rw [if_pos (by omega)]) | (rw [if_neg (by omega)])

set_option maxHeartbeats 4000000 in
theorem w_held3 (n : Nat) (v : Nat → Nat → Int) (a : Nat) (N : Nat) (m : Mem) (o : Nat) (L : Nat) (r : Int)   (T_o : mT m o = (25, n)) (hR : RwO m o n v) (T_L : mT m L = (20, 40)) (hr : r + 1 = (a : Int) + (N : Int)) (hn : 0 ≤ r ∧ r < (n : Int)) (hv : ∀ k, -10 ≤ ceR v k ∧ ceR v k ≤ 1000) : Ct μL_isHeld 1 [vi 3, vr o, vr L, vi ((a : Nat) : Int), vi r] m (ri fun x_ m' => (x_ = if cnE (fun k_ : Nat => mI m L k_) 0 N (a : Int) < 2 ∧ lqI (v r.toNat 0) 3 = 0 then 1 else 0) ∧ m = m') := by
  refine Ct_of_V rfl (by decide) rfl (Nat.le_of_ble_eq_true rfl) ?_
  show V μL_isHeld 1 m _ 0 [(0, vi 3), (1, vr o), (2, vr L), (3, vi ((a : Nat) : Int)), (4, vi r)] [] m
  have hn7_ := hR.2.1
  refine V_ld (pc := 0) dL_isHeld_0 (v := vr o) rfl rfl ?_
  refine V_ld (pc := 1) dL_isHeld_1 (v := vi r) rfl rfl ?_
  obtain ⟨q3, Rq3, Tq3, Vq3, Bq3⟩ := hR.row (r := r) (by omega)
  refine V_aaldQ (pc := 3) dL_isHeld_3 (q := some q3) T_o (by decide) (by omega) Rq3 ?_
  refine V_iconst (pc := 4) dL_isHeld_4 (by unfold I32; omega) ?_
  refine V_ialdv (pc := 5) dL_isHeld_5 (v := v r.toNat 0) Tq3 (by omega) Vq3.1 (fun g5 => ?_)
  refine V_st (pc := 6) dL_isHeld_6 (ls' := [(5, vi (v r.toNat 0)), (0, vi 3), (1, vr o), (2, vr L), (3, vi ((a : Nat) : Int)), (4, vi r)]) rfl (Nat.le_of_ble_eq_true rfl) rfl ?_
  refine V_ld (pc := 8) dL_isHeld_8 (v := vr o) rfl rfl ?_
  refine V_ld (pc := 9) dL_isHeld_9 (v := vi r) rfl rfl ?_
  obtain ⟨q11, Rq11, Tq11, Vq11, Bq11⟩ := hR.row (r := r) (by omega)
  refine V_aaldQ (pc := 11) dL_isHeld_11 (q := some q11) T_o (by decide) (by omega) Rq11 ?_
  refine V_iconst (pc := 12) dL_isHeld_12 (by unfold I32; omega) ?_
  refine V_ialdv (pc := 13) dL_isHeld_13 (v := v r.toNat 1) Tq11 (by omega) Vq11.2 (fun g13 => ?_)
  refine V_st (pc := 14) dL_isHeld_14 (ls' := [(6, vi (v r.toNat 1)), (5, vi (v r.toNat 0)), (0, vi 3), (1, vr o), (2, vr L), (3, vi ((a : Nat) : Int)), (4, vi r)]) rfl (Nat.le_of_ble_eq_true rfl) rfl ?_
  refine V_ld (pc := 16) dL_isHeld_16 (v := vr o) rfl rfl ?_
  refine V_ld (pc := 17) dL_isHeld_17 (v := vr L) rfl rfl ?_
  refine V_ld (pc := 18) dL_isHeld_18 (v := vi ((a : Nat) : Int)) rfl rfl ?_
  refine V_ld (pc := 19) dL_isHeld_19 (v := vi r) rfl rfl ?_
  refine V_iconst (pc := 21) dL_isHeld_21 (by unfold I32; omega) ?_
  refine V_iconst (pc := 22) dL_isHeld_22 (by unfold I32; omega) ?_
  refine V_callS (pc := 23) dL_isHeld_23 (F' := 0) (As := [vr o, vr L, vi ((a : Nat) : Int), vi r, vi 0, vi (-1)]) (st := []) cw_RL_57 rfl rfl (Nat.le_of_ble_eq_true rfl) (by omega) (w_sumN n v a N m o L r 0   hR T_L hr hn.2 hv) ?_
  rintro _ _ ⟨x23, rfl, hx23, rfl⟩ ok23 le23
  subst hx23
  refine V_st (pc := 26) dL_isHeld_26 (ls' := [(7, vi (cnE (fun k_ : Nat => mI m L k_) 0 N (a : Int))), (6, vi (v r.toNat 1)), (5, vi (v r.toNat 0)), (0, vi 3), (1, vr o), (2, vr L), (3, vi ((a : Nat) : Int)), (4, vi r)]) rfl (Nat.le_of_ble_eq_true rfl) rfl ?_
  refine V_ld (pc := 28) dL_isHeld_28 (v := vr o) rfl rfl ?_
  refine V_ld (pc := 29) dL_isHeld_29 (v := vr L) rfl rfl ?_
  refine V_ld (pc := 30) dL_isHeld_30 (v := vi ((a : Nat) : Int)) rfl rfl ?_
  refine V_ld (pc := 31) dL_isHeld_31 (v := vi r) rfl rfl ?_
  refine V_iconst (pc := 33) dL_isHeld_33 (by unfold I32; omega) ?_
  refine V_iconst (pc := 34) dL_isHeld_34 (by unfold I32; omega) ?_
  refine V_callS (pc := 35) dL_isHeld_35 (F' := 0) (As := [vr o, vr L, vi ((a : Nat) : Int), vi r, vi 1, vi (-1)]) (st := []) cw_RL_57 rfl rfl (Nat.le_of_ble_eq_true rfl) (by omega) (w_sumN n v a N m o L r 1   hR T_L hr hn.2 hv) ?_
  rintro _ _ ⟨x35, rfl, hx35, rfl⟩ ok35 le35
  subst hx35
  refine V_st (pc := 38) dL_isHeld_38 (ls' := [(8, vi (cnE (fun k_ : Nat => mI m L k_) 1 N (a : Int))), (7, vi (cnE (fun k_ : Nat => mI m L k_) 0 N (a : Int))), (6, vi (v r.toNat 1)), (5, vi (v r.toNat 0)), (0, vi 3), (1, vr o), (2, vr L), (3, vi ((a : Nat) : Int)), (4, vi r)]) rfl (Nat.le_of_ble_eq_true rfl) rfl ?_
  refine V_ld (pc := 40) dL_isHeld_40 (v := vi 3) rfl rfl ?_
  refine V_if_ne (pc := 41) dL_isHeld_41 (tgt := 51) rfl (fun _ => ?_) (fun h_ => absurd h_ (by decide))
  refine V_ld (pc := 51) dL_isHeld_51 (v := vi 3) rfl rfl ?_
  refine V_iconst (pc := 52) dL_isHeld_52 (by unfold I32; omega) ?_
  refine V_icmp_ne (pc := 53) dL_isHeld_53 (tgt := 81) rfl (fun _ => ?_) (fun h_ => absurd h_ (by decide))
  refine V_ld (pc := 81) dL_isHeld_81 (v := vi 3) rfl rfl ?_
  refine V_iconst (pc := 82) dL_isHeld_82 (by unfold I32; omega) ?_
  refine V_icmp_ne (pc := 83) dL_isHeld_83 (tgt := 101) rfl (fun _ => ?_) (fun h_ => absurd h_ (by decide))
  refine V_ld (pc := 101) dL_isHeld_101 (v := vi 3) rfl rfl ?_
  refine V_iconst (pc := 102) dL_isHeld_102 (by unfold I32; omega) ?_
  refine V_icmp_ne (pc := 103) dL_isHeld_103 (tgt := 127) rfl (fun h_ => absurd h_ (by decide)) (fun _ => ?_)
  refine V_ld (pc := 106) dL_isHeld_106 (v := vi (cnE (fun k_ : Nat => mI m L k_) 0 N (a : Int))) rfl rfl ?_
  refine V_iconst (pc := 108) dL_isHeld_108 (by unfold I32; omega) ?_
  refine V_icmp_ge (pc := 109) dL_isHeld_109 (tgt := 125) rfl (fun h109 => ?_) (fun h109 => ?_)
  · skip
    refine V_iconst (pc := 125) dL_isHeld_125 (by unfold I32; omega) ?_
    refine V_reti (pc := 126) dL_isHeld_126 (show _ = (0 : Int) ∨ _ = (1 : Int) from by first | exact Or.inl rfl | exact Or.inr rfl | omega) ?_
    refine ⟨?_, rfl⟩
    first | rfl | omega | (rw [if_pos (by omega)]) | (rw [if_neg (by omega)])
  · skip
    refine V_ld (pc := 112) dL_isHeld_112 (v := vi (v r.toNat 0)) rfl rfl ?_
    refine V_iconst (pc := 114) dL_isHeld_114 (by unfold I32; omega) ?_
    refine V_callS (pc := 115) dL_isHeld_115 (F' := 0) (As := [vi (v r.toNat 0), vi 3]) (st := []) cw_RL_65 rfl rfl (Nat.le_of_ble_eq_true rfl) (by omega) (w_like  m (v r.toNat 0) 3   ) ?_
    rintro _ _ ⟨x115, rfl, hx115, rfl⟩ ok115 le115
    subst hx115
    refine V_if_ne (pc := 118) dL_isHeld_118 (tgt := 125) rfl (fun h118 => ?_) (fun h118 => ?_)
    · skip
      refine V_iconst (pc := 125) dL_isHeld_125 (by unfold I32; omega) ?_
      refine V_reti (pc := 126) dL_isHeld_126 (show _ = (0 : Int) ∨ _ = (1 : Int) from by first | exact Or.inl rfl | exact Or.inr rfl | omega) ?_
      refine ⟨?_, rfl⟩
      first | rfl | omega | (rw [if_pos (by omega)]) | (rw [if_neg (by omega)])
    · skip
      refine V_iconst (pc := 121) dL_isHeld_121 (by unfold I32; omega) ?_
      refine V_goto (pc := 122) dL_isHeld_122 (tgt := 126) rfl ?_
      refine V_reti (pc := 126) dL_isHeld_126 (show _ = (0 : Int) ∨ _ = (1 : Int) from by first | exact Or.inl rfl | exact Or.inr rfl | omega) ?_
      refine ⟨?_, rfl⟩
      first | rfl | omega | (rw [if_pos (by omega)]) | (rw [if_neg (by omega)])

set_option maxHeartbeats 4000000 in
theorem w_held4 (n : Nat) (v : Nat → Nat → Int) (a : Nat) (N : Nat) (m : Mem) (o : Nat) (L : Nat) (r : Int)   (T_o : mT m o = (25, n)) (hR : RwO m o n v) (T_L : mT m L = (20, 40)) (hr : r + 1 = (a : Int) + (N : Int)) (hn : 0 ≤ r ∧ r < (n : Int)) (hv : ∀ k, -10 ≤ ceR v k ∧ ceR v k ≤ 1000) : Ct μL_isHeld 1 [vi 4, vr o, vr L, vi ((a : Nat) : Int), vi r] m (ri fun x_ m' => (x_ = if 2 < smE (fun k_ : Nat => mI m L k_) (ceR v) 1 0 N (a : Int) ∨ ¬ lsI (valR v n (lsE (fun k_ : Nat => mI m L k_) 0 N (a : Int)) 1) (v r.toNat 1) = 0 then 1 else 0) ∧ m = m') := by
  refine Ct_of_V rfl (by decide) rfl (Nat.le_of_ble_eq_true rfl) ?_
  show V μL_isHeld 1 m _ 0 [(0, vi 4), (1, vr o), (2, vr L), (3, vi ((a : Nat) : Int)), (4, vi r)] [] m
  have hn7_ := hR.2.1
  refine V_ld (pc := 0) dL_isHeld_0 (v := vr o) rfl rfl ?_
  refine V_ld (pc := 1) dL_isHeld_1 (v := vi r) rfl rfl ?_
  obtain ⟨q3, Rq3, Tq3, Vq3, Bq3⟩ := hR.row (r := r) (by omega)
  refine V_aaldQ (pc := 3) dL_isHeld_3 (q := some q3) T_o (by decide) (by omega) Rq3 ?_
  refine V_iconst (pc := 4) dL_isHeld_4 (by unfold I32; omega) ?_
  refine V_ialdv (pc := 5) dL_isHeld_5 (v := v r.toNat 0) Tq3 (by omega) Vq3.1 (fun g5 => ?_)
  refine V_st (pc := 6) dL_isHeld_6 (ls' := [(5, vi (v r.toNat 0)), (0, vi 4), (1, vr o), (2, vr L), (3, vi ((a : Nat) : Int)), (4, vi r)]) rfl (Nat.le_of_ble_eq_true rfl) rfl ?_
  refine V_ld (pc := 8) dL_isHeld_8 (v := vr o) rfl rfl ?_
  refine V_ld (pc := 9) dL_isHeld_9 (v := vi r) rfl rfl ?_
  obtain ⟨q11, Rq11, Tq11, Vq11, Bq11⟩ := hR.row (r := r) (by omega)
  refine V_aaldQ (pc := 11) dL_isHeld_11 (q := some q11) T_o (by decide) (by omega) Rq11 ?_
  refine V_iconst (pc := 12) dL_isHeld_12 (by unfold I32; omega) ?_
  refine V_ialdv (pc := 13) dL_isHeld_13 (v := v r.toNat 1) Tq11 (by omega) Vq11.2 (fun g13 => ?_)
  refine V_st (pc := 14) dL_isHeld_14 (ls' := [(6, vi (v r.toNat 1)), (5, vi (v r.toNat 0)), (0, vi 4), (1, vr o), (2, vr L), (3, vi ((a : Nat) : Int)), (4, vi r)]) rfl (Nat.le_of_ble_eq_true rfl) rfl ?_
  refine V_ld (pc := 16) dL_isHeld_16 (v := vr o) rfl rfl ?_
  refine V_ld (pc := 17) dL_isHeld_17 (v := vr L) rfl rfl ?_
  refine V_ld (pc := 18) dL_isHeld_18 (v := vi ((a : Nat) : Int)) rfl rfl ?_
  refine V_ld (pc := 19) dL_isHeld_19 (v := vi r) rfl rfl ?_
  refine V_iconst (pc := 21) dL_isHeld_21 (by unfold I32; omega) ?_
  refine V_iconst (pc := 22) dL_isHeld_22 (by unfold I32; omega) ?_
  refine V_callS (pc := 23) dL_isHeld_23 (F' := 0) (As := [vr o, vr L, vi ((a : Nat) : Int), vi r, vi 0, vi (-1)]) (st := []) cw_RL_57 rfl rfl (Nat.le_of_ble_eq_true rfl) (by omega) (w_sumN n v a N m o L r 0   hR T_L hr hn.2 hv) ?_
  rintro _ _ ⟨x23, rfl, hx23, rfl⟩ ok23 le23
  subst hx23
  refine V_st (pc := 26) dL_isHeld_26 (ls' := [(7, vi (cnE (fun k_ : Nat => mI m L k_) 0 N (a : Int))), (6, vi (v r.toNat 1)), (5, vi (v r.toNat 0)), (0, vi 4), (1, vr o), (2, vr L), (3, vi ((a : Nat) : Int)), (4, vi r)]) rfl (Nat.le_of_ble_eq_true rfl) rfl ?_
  refine V_ld (pc := 28) dL_isHeld_28 (v := vr o) rfl rfl ?_
  refine V_ld (pc := 29) dL_isHeld_29 (v := vr L) rfl rfl ?_
  refine V_ld (pc := 30) dL_isHeld_30 (v := vi ((a : Nat) : Int)) rfl rfl ?_
  refine V_ld (pc := 31) dL_isHeld_31 (v := vi r) rfl rfl ?_
  refine V_iconst (pc := 33) dL_isHeld_33 (by unfold I32; omega) ?_
  refine V_iconst (pc := 34) dL_isHeld_34 (by unfold I32; omega) ?_
  refine V_callS (pc := 35) dL_isHeld_35 (F' := 0) (As := [vr o, vr L, vi ((a : Nat) : Int), vi r, vi 1, vi (-1)]) (st := []) cw_RL_57 rfl rfl (Nat.le_of_ble_eq_true rfl) (by omega) (w_sumN n v a N m o L r 1   hR T_L hr hn.2 hv) ?_
  rintro _ _ ⟨x35, rfl, hx35, rfl⟩ ok35 le35
  subst hx35
  refine V_st (pc := 38) dL_isHeld_38 (ls' := [(8, vi (cnE (fun k_ : Nat => mI m L k_) 1 N (a : Int))), (7, vi (cnE (fun k_ : Nat => mI m L k_) 0 N (a : Int))), (6, vi (v r.toNat 1)), (5, vi (v r.toNat 0)), (0, vi 4), (1, vr o), (2, vr L), (3, vi ((a : Nat) : Int)), (4, vi r)]) rfl (Nat.le_of_ble_eq_true rfl) rfl ?_
  refine V_ld (pc := 40) dL_isHeld_40 (v := vi 4) rfl rfl ?_
  refine V_if_ne (pc := 41) dL_isHeld_41 (tgt := 51) rfl (fun _ => ?_) (fun h_ => absurd h_ (by decide))
  refine V_ld (pc := 51) dL_isHeld_51 (v := vi 4) rfl rfl ?_
  refine V_iconst (pc := 52) dL_isHeld_52 (by unfold I32; omega) ?_
  refine V_icmp_ne (pc := 53) dL_isHeld_53 (tgt := 81) rfl (fun _ => ?_) (fun h_ => absurd h_ (by decide))
  refine V_ld (pc := 81) dL_isHeld_81 (v := vi 4) rfl rfl ?_
  refine V_iconst (pc := 82) dL_isHeld_82 (by unfold I32; omega) ?_
  refine V_icmp_ne (pc := 83) dL_isHeld_83 (tgt := 101) rfl (fun _ => ?_) (fun h_ => absurd h_ (by decide))
  refine V_ld (pc := 101) dL_isHeld_101 (v := vi 4) rfl rfl ?_
  refine V_iconst (pc := 102) dL_isHeld_102 (by unfold I32; omega) ?_
  refine V_icmp_ne (pc := 103) dL_isHeld_103 (tgt := 127) rfl (fun _ => ?_) (fun h_ => absurd h_ (by decide))
  refine V_ld (pc := 127) dL_isHeld_127 (v := vi 4) rfl rfl ?_
  refine V_iconst (pc := 128) dL_isHeld_128 (by unfold I32; omega) ?_
  refine V_icmp_ne (pc := 129) dL_isHeld_129 (tgt := 174) rfl (fun h_ => absurd h_ (by decide)) (fun _ => ?_)
  refine V_ld (pc := 132) dL_isHeld_132 (v := vr o) rfl rfl ?_
  refine V_ld (pc := 133) dL_isHeld_133 (v := vr L) rfl rfl ?_
  refine V_ld (pc := 134) dL_isHeld_134 (v := vi ((a : Nat) : Int)) rfl rfl ?_
  refine V_ld (pc := 135) dL_isHeld_135 (v := vi r) rfl rfl ?_
  refine V_iconst (pc := 137) dL_isHeld_137 (by unfold I32; omega) ?_
  refine V_iconst (pc := 138) dL_isHeld_138 (by unfold I32; omega) ?_
  refine V_callS (pc := 139) dL_isHeld_139 (F' := 0) (As := [vr o, vr L, vi ((a : Nat) : Int), vi r, vi 1, vi 0]) (st := []) cw_RL_57 rfl rfl (Nat.le_of_ble_eq_true rfl) (by omega) (w_sum0 n v a N m o L r 1   hR T_L hr hn.2 hv) ?_
  rintro _ _ ⟨x139, rfl, hx139, rfl⟩ ok139 le139
  subst hx139
  refine V_iconst (pc := 142) dL_isHeld_142 (by unfold I32; omega) ?_
  refine V_icmp_gt (pc := 143) dL_isHeld_143 (tgt := 168) rfl (fun h143 => ?_) (fun h143 => ?_)
  · skip
    refine V_iconst (pc := 168) dL_isHeld_168 (by unfold I32; omega) ?_
    refine V_goto (pc := 169) dL_isHeld_169 (tgt := 173) rfl ?_
    refine V_reti (pc := 173) dL_isHeld_173 (show _ = (0 : Int) ∨ _ = (1 : Int) from by first | exact Or.inl rfl | exact Or.inr rfl | omega) ?_
    refine ⟨?_, rfl⟩
    first | rfl | omega | (rw [if_pos (by omega)]) | (rw [if_neg (by omega)])
  · skip
    refine V_ld (pc := 146) dL_isHeld_146 (v := vr o) rfl rfl ?_
    refine V_ld (pc := 147) dL_isHeld_147 (v := vr L) rfl rfl ?_
    refine V_ld (pc := 148) dL_isHeld_148 (v := vi ((a : Nat) : Int)) rfl rfl ?_
    refine V_ld (pc := 149) dL_isHeld_149 (v := vi r) rfl rfl ?_
    refine V_iconst (pc := 151) dL_isHeld_151 (by unfold I32; omega) ?_
    refine V_iconst (pc := 152) dL_isHeld_152 (by unfold I32; omega) ?_
    refine V_callS (pc := 153) dL_isHeld_153 (F' := 0) (As := [vr L, vi ((a : Nat) : Int), vi r, vi 0, vi 0]) (st := [vr o]) cw_RL_72 rfl rfl (Nat.le_of_ble_eq_true rfl) (by omega) (w_let0 a N m L r 0   T_L hr (by omega)) ?_
    rintro _ _ ⟨x153, rfl, hx153, rfl⟩ ok153 le153
    subst hx153
    refine V_iconst (pc := 156) dL_isHeld_156 (by unfold I32; omega) ?_
    refine V_callS (pc := 157) dL_isHeld_157 (F' := 0) (As := [vr o, vi (lsE (fun k_ : Nat => mI m L k_) 0 N (a : Int)), vi 1]) (st := []) cw_RL_68 rfl rfl (Nat.le_of_ble_eq_true rfl) (by omega) (w_value1 n v m o (lsE (fun k_ : Nat => mI m L k_) 0 N (a : Int))   T_o hR) ?_
    rintro _ _ ⟨x157, rfl, hx157, rfl⟩ ok157 le157
    subst hx157
    refine V_ld (pc := 160) dL_isHeld_160 (v := vi (v r.toNat 1)) rfl rfl ?_
    refine V_callS (pc := 162) dL_isHeld_162 (F' := 0) (As := [vi (valR v n (lsE (fun k_ : Nat => mI m L k_) 0 N (a : Int)) 1), vi (v r.toNat 1)]) (st := []) cw_RL_61 rfl rfl (Nat.le_of_ble_eq_true rfl) (by omega) (w_less  m (valR v n (lsE (fun k_ : Nat => mI m L k_) 0 N (a : Int)) 1) (v r.toNat 1)   ) ?_
    rintro _ _ ⟨x162, rfl, hx162, rfl⟩ ok162 le162
    subst hx162
    refine V_if_eq (pc := 165) dL_isHeld_165 (tgt := 172) rfl (fun h165 => ?_) (fun h165 => ?_)
    · skip
      refine V_iconst (pc := 172) dL_isHeld_172 (by unfold I32; omega) ?_
      refine V_reti (pc := 173) dL_isHeld_173 (show _ = (0 : Int) ∨ _ = (1 : Int) from by first | exact Or.inl rfl | exact Or.inr rfl | omega) ?_
      refine ⟨?_, rfl⟩
      first | rfl | omega | (rw [if_pos (by omega)]) | (rw [if_neg (by omega)])
    · skip
      refine V_iconst (pc := 168) dL_isHeld_168 (by unfold I32; omega) ?_
      refine V_goto (pc := 169) dL_isHeld_169 (tgt := 173) rfl ?_
      refine V_reti (pc := 173) dL_isHeld_173 (show _ = (0 : Int) ∨ _ = (1 : Int) from by first | exact Or.inl rfl | exact Or.inr rfl | omega) ?_
      refine ⟨?_, rfl⟩
      first | rfl | omega | (rw [if_pos (by omega)]) | (rw [if_neg (by omega)])

set_option maxHeartbeats 4000000 in
theorem w_held5 (n : Nat) (v : Nat → Nat → Int) (a : Nat) (N : Nat) (m : Mem) (o : Nat) (L : Nat) (r : Int)   (T_o : mT m o = (25, n)) (hR : RwO m o n v) (T_L : mT m L = (20, 40)) (hr : r + 1 = (a : Int) + (N : Int)) (hn : 0 ≤ r ∧ r < (n : Int)) (hv : ∀ k, -10 ≤ ceR v k ∧ ceR v k ≤ 1000) : Ct μL_isHeld 1 [vi 5, vr o, vr L, vi ((a : Nat) : Int), vi r] m (ri fun x_ m' => (x_ = lqI (valR v n (frE (fun k_ : Nat => mI m L k_) 0 N (a : Int)) 0) (v r.toNat 0)) ∧ m = m') := by
  refine Ct_of_V rfl (by decide) rfl (Nat.le_of_ble_eq_true rfl) ?_
  show V μL_isHeld 1 m _ 0 [(0, vi 5), (1, vr o), (2, vr L), (3, vi ((a : Nat) : Int)), (4, vi r)] [] m
  have hn7_ := hR.2.1
  refine V_ld (pc := 0) dL_isHeld_0 (v := vr o) rfl rfl ?_
  refine V_ld (pc := 1) dL_isHeld_1 (v := vi r) rfl rfl ?_
  obtain ⟨q3, Rq3, Tq3, Vq3, Bq3⟩ := hR.row (r := r) (by omega)
  refine V_aaldQ (pc := 3) dL_isHeld_3 (q := some q3) T_o (by decide) (by omega) Rq3 ?_
  refine V_iconst (pc := 4) dL_isHeld_4 (by unfold I32; omega) ?_
  refine V_ialdv (pc := 5) dL_isHeld_5 (v := v r.toNat 0) Tq3 (by omega) Vq3.1 (fun g5 => ?_)
  refine V_st (pc := 6) dL_isHeld_6 (ls' := [(5, vi (v r.toNat 0)), (0, vi 5), (1, vr o), (2, vr L), (3, vi ((a : Nat) : Int)), (4, vi r)]) rfl (Nat.le_of_ble_eq_true rfl) rfl ?_
  refine V_ld (pc := 8) dL_isHeld_8 (v := vr o) rfl rfl ?_
  refine V_ld (pc := 9) dL_isHeld_9 (v := vi r) rfl rfl ?_
  obtain ⟨q11, Rq11, Tq11, Vq11, Bq11⟩ := hR.row (r := r) (by omega)
  refine V_aaldQ (pc := 11) dL_isHeld_11 (q := some q11) T_o (by decide) (by omega) Rq11 ?_
  refine V_iconst (pc := 12) dL_isHeld_12 (by unfold I32; omega) ?_
  refine V_ialdv (pc := 13) dL_isHeld_13 (v := v r.toNat 1) Tq11 (by omega) Vq11.2 (fun g13 => ?_)
  refine V_st (pc := 14) dL_isHeld_14 (ls' := [(6, vi (v r.toNat 1)), (5, vi (v r.toNat 0)), (0, vi 5), (1, vr o), (2, vr L), (3, vi ((a : Nat) : Int)), (4, vi r)]) rfl (Nat.le_of_ble_eq_true rfl) rfl ?_
  refine V_ld (pc := 16) dL_isHeld_16 (v := vr o) rfl rfl ?_
  refine V_ld (pc := 17) dL_isHeld_17 (v := vr L) rfl rfl ?_
  refine V_ld (pc := 18) dL_isHeld_18 (v := vi ((a : Nat) : Int)) rfl rfl ?_
  refine V_ld (pc := 19) dL_isHeld_19 (v := vi r) rfl rfl ?_
  refine V_iconst (pc := 21) dL_isHeld_21 (by unfold I32; omega) ?_
  refine V_iconst (pc := 22) dL_isHeld_22 (by unfold I32; omega) ?_
  refine V_callS (pc := 23) dL_isHeld_23 (F' := 0) (As := [vr o, vr L, vi ((a : Nat) : Int), vi r, vi 0, vi (-1)]) (st := []) cw_RL_57 rfl rfl (Nat.le_of_ble_eq_true rfl) (by omega) (w_sumN n v a N m o L r 0   hR T_L hr hn.2 hv) ?_
  rintro _ _ ⟨x23, rfl, hx23, rfl⟩ ok23 le23
  subst hx23
  refine V_st (pc := 26) dL_isHeld_26 (ls' := [(7, vi (cnE (fun k_ : Nat => mI m L k_) 0 N (a : Int))), (6, vi (v r.toNat 1)), (5, vi (v r.toNat 0)), (0, vi 5), (1, vr o), (2, vr L), (3, vi ((a : Nat) : Int)), (4, vi r)]) rfl (Nat.le_of_ble_eq_true rfl) rfl ?_
  refine V_ld (pc := 28) dL_isHeld_28 (v := vr o) rfl rfl ?_
  refine V_ld (pc := 29) dL_isHeld_29 (v := vr L) rfl rfl ?_
  refine V_ld (pc := 30) dL_isHeld_30 (v := vi ((a : Nat) : Int)) rfl rfl ?_
  refine V_ld (pc := 31) dL_isHeld_31 (v := vi r) rfl rfl ?_
  refine V_iconst (pc := 33) dL_isHeld_33 (by unfold I32; omega) ?_
  refine V_iconst (pc := 34) dL_isHeld_34 (by unfold I32; omega) ?_
  refine V_callS (pc := 35) dL_isHeld_35 (F' := 0) (As := [vr o, vr L, vi ((a : Nat) : Int), vi r, vi 1, vi (-1)]) (st := []) cw_RL_57 rfl rfl (Nat.le_of_ble_eq_true rfl) (by omega) (w_sumN n v a N m o L r 1   hR T_L hr hn.2 hv) ?_
  rintro _ _ ⟨x35, rfl, hx35, rfl⟩ ok35 le35
  subst hx35
  refine V_st (pc := 38) dL_isHeld_38 (ls' := [(8, vi (cnE (fun k_ : Nat => mI m L k_) 1 N (a : Int))), (7, vi (cnE (fun k_ : Nat => mI m L k_) 0 N (a : Int))), (6, vi (v r.toNat 1)), (5, vi (v r.toNat 0)), (0, vi 5), (1, vr o), (2, vr L), (3, vi ((a : Nat) : Int)), (4, vi r)]) rfl (Nat.le_of_ble_eq_true rfl) rfl ?_
  refine V_ld (pc := 40) dL_isHeld_40 (v := vi 5) rfl rfl ?_
  refine V_if_ne (pc := 41) dL_isHeld_41 (tgt := 51) rfl (fun _ => ?_) (fun h_ => absurd h_ (by decide))
  refine V_ld (pc := 51) dL_isHeld_51 (v := vi 5) rfl rfl ?_
  refine V_iconst (pc := 52) dL_isHeld_52 (by unfold I32; omega) ?_
  refine V_icmp_ne (pc := 53) dL_isHeld_53 (tgt := 81) rfl (fun _ => ?_) (fun h_ => absurd h_ (by decide))
  refine V_ld (pc := 81) dL_isHeld_81 (v := vi 5) rfl rfl ?_
  refine V_iconst (pc := 82) dL_isHeld_82 (by unfold I32; omega) ?_
  refine V_icmp_ne (pc := 83) dL_isHeld_83 (tgt := 101) rfl (fun _ => ?_) (fun h_ => absurd h_ (by decide))
  refine V_ld (pc := 101) dL_isHeld_101 (v := vi 5) rfl rfl ?_
  refine V_iconst (pc := 102) dL_isHeld_102 (by unfold I32; omega) ?_
  refine V_icmp_ne (pc := 103) dL_isHeld_103 (tgt := 127) rfl (fun _ => ?_) (fun h_ => absurd h_ (by decide))
  refine V_ld (pc := 127) dL_isHeld_127 (v := vi 5) rfl rfl ?_
  refine V_iconst (pc := 128) dL_isHeld_128 (by unfold I32; omega) ?_
  refine V_icmp_ne (pc := 129) dL_isHeld_129 (tgt := 174) rfl (fun _ => ?_) (fun h_ => absurd h_ (by decide))
  refine V_ld (pc := 174) dL_isHeld_174 (v := vi 5) rfl rfl ?_
  refine V_iconst (pc := 175) dL_isHeld_175 (by unfold I32; omega) ?_
  refine V_icmp_ne (pc := 176) dL_isHeld_176 (tgt := 199) rfl (fun h_ => absurd h_ (by decide)) (fun _ => ?_)
  refine V_ld (pc := 179) dL_isHeld_179 (v := vr o) rfl rfl ?_
  refine V_ld (pc := 180) dL_isHeld_180 (v := vr L) rfl rfl ?_
  refine V_ld (pc := 181) dL_isHeld_181 (v := vi ((a : Nat) : Int)) rfl rfl ?_
  refine V_ld (pc := 182) dL_isHeld_182 (v := vi r) rfl rfl ?_
  refine V_iconst (pc := 184) dL_isHeld_184 (by unfold I32; omega) ?_
  refine V_iconst (pc := 185) dL_isHeld_185 (by unfold I32; omega) ?_
  refine V_callS (pc := 186) dL_isHeld_186 (F' := 0) (As := [vr L, vi ((a : Nat) : Int), vi r, vi 0, vi 1]) (st := [vr o]) cw_RL_72 rfl rfl (Nat.le_of_ble_eq_true rfl) (by omega) (w_let1 a N m L r 0   T_L hr (by omega)) ?_
  rintro _ _ ⟨x186, rfl, hx186, rfl⟩ ok186 le186
  subst hx186
  refine V_iconst (pc := 189) dL_isHeld_189 (by unfold I32; omega) ?_
  refine V_callS (pc := 190) dL_isHeld_190 (F' := 0) (As := [vr o, vi (frE (fun k_ : Nat => mI m L k_) 0 N (a : Int)), vi 0]) (st := []) cw_RL_68 rfl rfl (Nat.le_of_ble_eq_true rfl) (by omega) (w_value0 n v m o (frE (fun k_ : Nat => mI m L k_) 0 N (a : Int))   T_o hR) ?_
  rintro _ _ ⟨x190, rfl, hx190, rfl⟩ ok190 le190
  subst hx190
  refine V_ld (pc := 193) dL_isHeld_193 (v := vi (v r.toNat 0)) rfl rfl ?_
  refine V_callS (pc := 195) dL_isHeld_195 (F' := 0) (As := [vi (valR v n (frE (fun k_ : Nat => mI m L k_) 0 N (a : Int)) 0), vi (v r.toNat 0)]) (st := []) cw_RL_65 rfl rfl (Nat.le_of_ble_eq_true rfl) (by omega) (w_like  m (valR v n (frE (fun k_ : Nat => mI m L k_) 0 N (a : Int)) 0) (v r.toNat 0)   ) ?_
  rintro _ _ ⟨x195, rfl, hx195, rfl⟩ ok195 le195
  subst hx195
  have u_ := lqI_v (valR v n (frE (fun k_ : Nat => mI m L k_) 0 N (a : Int)) 0) (v r.toNat 0)
  refine V_reti (pc := 198) dL_isHeld_198 (show _ = (0 : Int) ∨ _ = (1 : Int) from by first | exact Or.inl rfl | exact Or.inr rfl | omega) ?_
  refine ⟨?_, rfl⟩
  first | rfl | omega | (rw [if_pos (by omega)]) | (rw [if_neg (by omega)])

set_option maxHeartbeats 4000000 in
theorem w_held6 (n : Nat) (v : Nat → Nat → Int) (a : Nat) (N : Nat) (m : Mem) (o : Nat) (L : Nat) (r : Int)   (T_o : mT m o = (25, n)) (hR : RwO m o n v) (T_L : mT m L = (20, 40)) (hr : r + 1 = (a : Int) + (N : Int)) (hn : 0 ≤ r ∧ r < (n : Int)) (hv : ∀ k, -10 ≤ ceR v k ∧ ceR v k ≤ 1000) : Ct μL_isHeld 1 [vi 6, vr o, vr L, vi ((a : Nat) : Int), vi r] m (ri fun x_ m' => (x_ = if ¬ lsI (v r.toNat 0) (valR v n (r + 1) 0) = 0 ∨ cnE (fun k_ : Nat => mI m L k_) 0 N (a : Int) < cnE (fun k_ : Nat => mI m L k_) 1 N (a : Int) then 1 else 0) ∧ m = m') := by
  refine Ct_of_V rfl (by decide) rfl (Nat.le_of_ble_eq_true rfl) ?_
  show V μL_isHeld 1 m _ 0 [(0, vi 6), (1, vr o), (2, vr L), (3, vi ((a : Nat) : Int)), (4, vi r)] [] m
  have hn7_ := hR.2.1
  refine V_ld (pc := 0) dL_isHeld_0 (v := vr o) rfl rfl ?_
  refine V_ld (pc := 1) dL_isHeld_1 (v := vi r) rfl rfl ?_
  obtain ⟨q3, Rq3, Tq3, Vq3, Bq3⟩ := hR.row (r := r) (by omega)
  refine V_aaldQ (pc := 3) dL_isHeld_3 (q := some q3) T_o (by decide) (by omega) Rq3 ?_
  refine V_iconst (pc := 4) dL_isHeld_4 (by unfold I32; omega) ?_
  refine V_ialdv (pc := 5) dL_isHeld_5 (v := v r.toNat 0) Tq3 (by omega) Vq3.1 (fun g5 => ?_)
  refine V_st (pc := 6) dL_isHeld_6 (ls' := [(5, vi (v r.toNat 0)), (0, vi 6), (1, vr o), (2, vr L), (3, vi ((a : Nat) : Int)), (4, vi r)]) rfl (Nat.le_of_ble_eq_true rfl) rfl ?_
  refine V_ld (pc := 8) dL_isHeld_8 (v := vr o) rfl rfl ?_
  refine V_ld (pc := 9) dL_isHeld_9 (v := vi r) rfl rfl ?_
  obtain ⟨q11, Rq11, Tq11, Vq11, Bq11⟩ := hR.row (r := r) (by omega)
  refine V_aaldQ (pc := 11) dL_isHeld_11 (q := some q11) T_o (by decide) (by omega) Rq11 ?_
  refine V_iconst (pc := 12) dL_isHeld_12 (by unfold I32; omega) ?_
  refine V_ialdv (pc := 13) dL_isHeld_13 (v := v r.toNat 1) Tq11 (by omega) Vq11.2 (fun g13 => ?_)
  refine V_st (pc := 14) dL_isHeld_14 (ls' := [(6, vi (v r.toNat 1)), (5, vi (v r.toNat 0)), (0, vi 6), (1, vr o), (2, vr L), (3, vi ((a : Nat) : Int)), (4, vi r)]) rfl (Nat.le_of_ble_eq_true rfl) rfl ?_
  refine V_ld (pc := 16) dL_isHeld_16 (v := vr o) rfl rfl ?_
  refine V_ld (pc := 17) dL_isHeld_17 (v := vr L) rfl rfl ?_
  refine V_ld (pc := 18) dL_isHeld_18 (v := vi ((a : Nat) : Int)) rfl rfl ?_
  refine V_ld (pc := 19) dL_isHeld_19 (v := vi r) rfl rfl ?_
  refine V_iconst (pc := 21) dL_isHeld_21 (by unfold I32; omega) ?_
  refine V_iconst (pc := 22) dL_isHeld_22 (by unfold I32; omega) ?_
  refine V_callS (pc := 23) dL_isHeld_23 (F' := 0) (As := [vr o, vr L, vi ((a : Nat) : Int), vi r, vi 0, vi (-1)]) (st := []) cw_RL_57 rfl rfl (Nat.le_of_ble_eq_true rfl) (by omega) (w_sumN n v a N m o L r 0   hR T_L hr hn.2 hv) ?_
  rintro _ _ ⟨x23, rfl, hx23, rfl⟩ ok23 le23
  subst hx23
  refine V_st (pc := 26) dL_isHeld_26 (ls' := [(7, vi (cnE (fun k_ : Nat => mI m L k_) 0 N (a : Int))), (6, vi (v r.toNat 1)), (5, vi (v r.toNat 0)), (0, vi 6), (1, vr o), (2, vr L), (3, vi ((a : Nat) : Int)), (4, vi r)]) rfl (Nat.le_of_ble_eq_true rfl) rfl ?_
  refine V_ld (pc := 28) dL_isHeld_28 (v := vr o) rfl rfl ?_
  refine V_ld (pc := 29) dL_isHeld_29 (v := vr L) rfl rfl ?_
  refine V_ld (pc := 30) dL_isHeld_30 (v := vi ((a : Nat) : Int)) rfl rfl ?_
  refine V_ld (pc := 31) dL_isHeld_31 (v := vi r) rfl rfl ?_
  refine V_iconst (pc := 33) dL_isHeld_33 (by unfold I32; omega) ?_
  refine V_iconst (pc := 34) dL_isHeld_34 (by unfold I32; omega) ?_
  refine V_callS (pc := 35) dL_isHeld_35 (F' := 0) (As := [vr o, vr L, vi ((a : Nat) : Int), vi r, vi 1, vi (-1)]) (st := []) cw_RL_57 rfl rfl (Nat.le_of_ble_eq_true rfl) (by omega) (w_sumN n v a N m o L r 1   hR T_L hr hn.2 hv) ?_
  rintro _ _ ⟨x35, rfl, hx35, rfl⟩ ok35 le35
  subst hx35
  refine V_st (pc := 38) dL_isHeld_38 (ls' := [(8, vi (cnE (fun k_ : Nat => mI m L k_) 1 N (a : Int))), (7, vi (cnE (fun k_ : Nat => mI m L k_) 0 N (a : Int))), (6, vi (v r.toNat 1)), (5, vi (v r.toNat 0)), (0, vi 6), (1, vr o), (2, vr L), (3, vi ((a : Nat) : Int)), (4, vi r)]) rfl (Nat.le_of_ble_eq_true rfl) rfl ?_
  refine V_ld (pc := 40) dL_isHeld_40 (v := vi 6) rfl rfl ?_
  refine V_if_ne (pc := 41) dL_isHeld_41 (tgt := 51) rfl (fun _ => ?_) (fun h_ => absurd h_ (by decide))
  refine V_ld (pc := 51) dL_isHeld_51 (v := vi 6) rfl rfl ?_
  refine V_iconst (pc := 52) dL_isHeld_52 (by unfold I32; omega) ?_
  refine V_icmp_ne (pc := 53) dL_isHeld_53 (tgt := 81) rfl (fun _ => ?_) (fun h_ => absurd h_ (by decide))
  refine V_ld (pc := 81) dL_isHeld_81 (v := vi 6) rfl rfl ?_
  refine V_iconst (pc := 82) dL_isHeld_82 (by unfold I32; omega) ?_
  refine V_icmp_ne (pc := 83) dL_isHeld_83 (tgt := 101) rfl (fun _ => ?_) (fun h_ => absurd h_ (by decide))
  refine V_ld (pc := 101) dL_isHeld_101 (v := vi 6) rfl rfl ?_
  refine V_iconst (pc := 102) dL_isHeld_102 (by unfold I32; omega) ?_
  refine V_icmp_ne (pc := 103) dL_isHeld_103 (tgt := 127) rfl (fun _ => ?_) (fun h_ => absurd h_ (by decide))
  refine V_ld (pc := 127) dL_isHeld_127 (v := vi 6) rfl rfl ?_
  refine V_iconst (pc := 128) dL_isHeld_128 (by unfold I32; omega) ?_
  refine V_icmp_ne (pc := 129) dL_isHeld_129 (tgt := 174) rfl (fun _ => ?_) (fun h_ => absurd h_ (by decide))
  refine V_ld (pc := 174) dL_isHeld_174 (v := vi 6) rfl rfl ?_
  refine V_iconst (pc := 175) dL_isHeld_175 (by unfold I32; omega) ?_
  refine V_icmp_ne (pc := 176) dL_isHeld_176 (tgt := 199) rfl (fun _ => ?_) (fun h_ => absurd h_ (by decide))
  refine V_ld (pc := 199) dL_isHeld_199 (v := vi 6) rfl rfl ?_
  refine V_bipush (pc := 200) dL_isHeld_200 (by unfold I32; omega) (by decide) ?_
  refine V_icmp_ne (pc := 202) dL_isHeld_202 (tgt := 235) rfl (fun h_ => absurd h_ (by decide)) (fun _ => ?_)
  refine V_ld (pc := 205) dL_isHeld_205 (v := vi (v r.toNat 0)) rfl rfl ?_
  refine V_ld (pc := 207) dL_isHeld_207 (v := vr o) rfl rfl ?_
  refine V_ld (pc := 208) dL_isHeld_208 (v := vi r) rfl rfl ?_
  refine V_iconst (pc := 210) dL_isHeld_210 (by unfold I32; omega) ?_
  refine V_iadd (pc := 211) dL_isHeld_211 (by unfold I32 at *; omega) ?_
  refine V_iconst (pc := 212) dL_isHeld_212 (by unfold I32; omega) ?_
  refine V_callS (pc := 213) dL_isHeld_213 (F' := 0) (As := [vr o, vi (r + 1), vi 0]) (st := [vi (v r.toNat 0)]) cw_RL_68 rfl rfl (Nat.le_of_ble_eq_true rfl) (by omega) (w_value0 n v m o (r + 1)   T_o hR) ?_
  rintro _ _ ⟨x213, rfl, hx213, rfl⟩ ok213 le213
  subst hx213
  refine V_callS (pc := 216) dL_isHeld_216 (F' := 0) (As := [vi (v r.toNat 0), vi (valR v n (r + 1) 0)]) (st := []) cw_RL_61 rfl rfl (Nat.le_of_ble_eq_true rfl) (by omega) (w_less  m (v r.toNat 0) (valR v n (r + 1) 0)   ) ?_
  rintro _ _ ⟨x216, rfl, hx216, rfl⟩ ok216 le216
  subst hx216
  refine V_if_ne (pc := 219) dL_isHeld_219 (tgt := 229) rfl (fun h219 => ?_) (fun h219 => ?_)
  · skip
    refine V_iconst (pc := 229) dL_isHeld_229 (by unfold I32; omega) ?_
    refine V_goto (pc := 230) dL_isHeld_230 (tgt := 234) rfl ?_
    refine V_reti (pc := 234) dL_isHeld_234 (show _ = (0 : Int) ∨ _ = (1 : Int) from by first | exact Or.inl rfl | exact Or.inr rfl | omega) ?_
    refine ⟨?_, rfl⟩
    first | rfl | omega | (rw [if_pos (by omega)]) | (rw [if_neg (by omega)])
  · skip
    refine V_ld (pc := 222) dL_isHeld_222 (v := vi (cnE (fun k_ : Nat => mI m L k_) 1 N (a : Int))) rfl rfl ?_
    refine V_ld (pc := 224) dL_isHeld_224 (v := vi (cnE (fun k_ : Nat => mI m L k_) 0 N (a : Int))) rfl rfl ?_
    refine V_icmp_le (pc := 226) dL_isHeld_226 (tgt := 233) rfl (fun h226 => ?_) (fun h226 => ?_)
    · skip
      refine V_iconst (pc := 233) dL_isHeld_233 (by unfold I32; omega) ?_
      refine V_reti (pc := 234) dL_isHeld_234 (show _ = (0 : Int) ∨ _ = (1 : Int) from by first | exact Or.inl rfl | exact Or.inr rfl | omega) ?_
      refine ⟨?_, rfl⟩
      first | rfl | omega | (rw [if_pos (by omega)]) | (rw [if_neg (by omega)])
    · skip
      refine V_iconst (pc := 229) dL_isHeld_229 (by unfold I32; omega) ?_
      refine V_goto (pc := 230) dL_isHeld_230 (tgt := 234) rfl ?_
      refine V_reti (pc := 234) dL_isHeld_234 (show _ = (0 : Int) ∨ _ = (1 : Int) from by first | exact Or.inl rfl | exact Or.inr rfl | omega) ?_
      refine ⟨?_, rfl⟩
      first | rfl | omega | (rw [if_pos (by omega)]) | (rw [if_neg (by omega)])

set_option maxHeartbeats 4000000 in
theorem w_held7 (n : Nat) (v : Nat → Nat → Int) (a : Nat) (N : Nat) (m : Mem) (o : Nat) (L : Nat) (r : Int)   (T_o : mT m o = (25, n)) (hR : RwO m o n v) (T_L : mT m L = (20, 40)) (hr : r + 1 = (a : Int) + (N : Int)) (hn : 0 ≤ r ∧ r < (n : Int)) (hv : ∀ k, -10 ≤ ceR v k ∧ ceR v k ≤ 1000) : Ct μL_isHeld 1 [vi 7, vr o, vr L, vi ((a : Nat) : Int), vi r] m (ri fun x_ m' => (x_ = if (lsI (-2) (v r.toNat 1) = 0 ∧ 0 ≤ smE (fun k_ : Nat => mI m L k_) (ceR v) 0 1 N (a : Int)) ∧ ¬ lsI (v r.toNat 0) 9 = 0 then 1 else 0) ∧ m = m') := by
  refine Ct_of_V rfl (by decide) rfl (Nat.le_of_ble_eq_true rfl) ?_
  show V μL_isHeld 1 m _ 0 [(0, vi 7), (1, vr o), (2, vr L), (3, vi ((a : Nat) : Int)), (4, vi r)] [] m
  have hn7_ := hR.2.1
  refine V_ld (pc := 0) dL_isHeld_0 (v := vr o) rfl rfl ?_
  refine V_ld (pc := 1) dL_isHeld_1 (v := vi r) rfl rfl ?_
  obtain ⟨q3, Rq3, Tq3, Vq3, Bq3⟩ := hR.row (r := r) (by omega)
  refine V_aaldQ (pc := 3) dL_isHeld_3 (q := some q3) T_o (by decide) (by omega) Rq3 ?_
  refine V_iconst (pc := 4) dL_isHeld_4 (by unfold I32; omega) ?_
  refine V_ialdv (pc := 5) dL_isHeld_5 (v := v r.toNat 0) Tq3 (by omega) Vq3.1 (fun g5 => ?_)
  refine V_st (pc := 6) dL_isHeld_6 (ls' := [(5, vi (v r.toNat 0)), (0, vi 7), (1, vr o), (2, vr L), (3, vi ((a : Nat) : Int)), (4, vi r)]) rfl (Nat.le_of_ble_eq_true rfl) rfl ?_
  refine V_ld (pc := 8) dL_isHeld_8 (v := vr o) rfl rfl ?_
  refine V_ld (pc := 9) dL_isHeld_9 (v := vi r) rfl rfl ?_
  obtain ⟨q11, Rq11, Tq11, Vq11, Bq11⟩ := hR.row (r := r) (by omega)
  refine V_aaldQ (pc := 11) dL_isHeld_11 (q := some q11) T_o (by decide) (by omega) Rq11 ?_
  refine V_iconst (pc := 12) dL_isHeld_12 (by unfold I32; omega) ?_
  refine V_ialdv (pc := 13) dL_isHeld_13 (v := v r.toNat 1) Tq11 (by omega) Vq11.2 (fun g13 => ?_)
  refine V_st (pc := 14) dL_isHeld_14 (ls' := [(6, vi (v r.toNat 1)), (5, vi (v r.toNat 0)), (0, vi 7), (1, vr o), (2, vr L), (3, vi ((a : Nat) : Int)), (4, vi r)]) rfl (Nat.le_of_ble_eq_true rfl) rfl ?_
  refine V_ld (pc := 16) dL_isHeld_16 (v := vr o) rfl rfl ?_
  refine V_ld (pc := 17) dL_isHeld_17 (v := vr L) rfl rfl ?_
  refine V_ld (pc := 18) dL_isHeld_18 (v := vi ((a : Nat) : Int)) rfl rfl ?_
  refine V_ld (pc := 19) dL_isHeld_19 (v := vi r) rfl rfl ?_
  refine V_iconst (pc := 21) dL_isHeld_21 (by unfold I32; omega) ?_
  refine V_iconst (pc := 22) dL_isHeld_22 (by unfold I32; omega) ?_
  refine V_callS (pc := 23) dL_isHeld_23 (F' := 0) (As := [vr o, vr L, vi ((a : Nat) : Int), vi r, vi 0, vi (-1)]) (st := []) cw_RL_57 rfl rfl (Nat.le_of_ble_eq_true rfl) (by omega) (w_sumN n v a N m o L r 0   hR T_L hr hn.2 hv) ?_
  rintro _ _ ⟨x23, rfl, hx23, rfl⟩ ok23 le23
  subst hx23
  refine V_st (pc := 26) dL_isHeld_26 (ls' := [(7, vi (cnE (fun k_ : Nat => mI m L k_) 0 N (a : Int))), (6, vi (v r.toNat 1)), (5, vi (v r.toNat 0)), (0, vi 7), (1, vr o), (2, vr L), (3, vi ((a : Nat) : Int)), (4, vi r)]) rfl (Nat.le_of_ble_eq_true rfl) rfl ?_
  refine V_ld (pc := 28) dL_isHeld_28 (v := vr o) rfl rfl ?_
  refine V_ld (pc := 29) dL_isHeld_29 (v := vr L) rfl rfl ?_
  refine V_ld (pc := 30) dL_isHeld_30 (v := vi ((a : Nat) : Int)) rfl rfl ?_
  refine V_ld (pc := 31) dL_isHeld_31 (v := vi r) rfl rfl ?_
  refine V_iconst (pc := 33) dL_isHeld_33 (by unfold I32; omega) ?_
  refine V_iconst (pc := 34) dL_isHeld_34 (by unfold I32; omega) ?_
  refine V_callS (pc := 35) dL_isHeld_35 (F' := 0) (As := [vr o, vr L, vi ((a : Nat) : Int), vi r, vi 1, vi (-1)]) (st := []) cw_RL_57 rfl rfl (Nat.le_of_ble_eq_true rfl) (by omega) (w_sumN n v a N m o L r 1   hR T_L hr hn.2 hv) ?_
  rintro _ _ ⟨x35, rfl, hx35, rfl⟩ ok35 le35
  subst hx35
  refine V_st (pc := 38) dL_isHeld_38 (ls' := [(8, vi (cnE (fun k_ : Nat => mI m L k_) 1 N (a : Int))), (7, vi (cnE (fun k_ : Nat => mI m L k_) 0 N (a : Int))), (6, vi (v r.toNat 1)), (5, vi (v r.toNat 0)), (0, vi 7), (1, vr o), (2, vr L), (3, vi ((a : Nat) : Int)), (4, vi r)]) rfl (Nat.le_of_ble_eq_true rfl) rfl ?_
  refine V_ld (pc := 40) dL_isHeld_40 (v := vi 7) rfl rfl ?_
  refine V_if_ne (pc := 41) dL_isHeld_41 (tgt := 51) rfl (fun _ => ?_) (fun h_ => absurd h_ (by decide))
  refine V_ld (pc := 51) dL_isHeld_51 (v := vi 7) rfl rfl ?_
  refine V_iconst (pc := 52) dL_isHeld_52 (by unfold I32; omega) ?_
  refine V_icmp_ne (pc := 53) dL_isHeld_53 (tgt := 81) rfl (fun _ => ?_) (fun h_ => absurd h_ (by decide))
  refine V_ld (pc := 81) dL_isHeld_81 (v := vi 7) rfl rfl ?_
  refine V_iconst (pc := 82) dL_isHeld_82 (by unfold I32; omega) ?_
  refine V_icmp_ne (pc := 83) dL_isHeld_83 (tgt := 101) rfl (fun _ => ?_) (fun h_ => absurd h_ (by decide))
  refine V_ld (pc := 101) dL_isHeld_101 (v := vi 7) rfl rfl ?_
  refine V_iconst (pc := 102) dL_isHeld_102 (by unfold I32; omega) ?_
  refine V_icmp_ne (pc := 103) dL_isHeld_103 (tgt := 127) rfl (fun _ => ?_) (fun h_ => absurd h_ (by decide))
  refine V_ld (pc := 127) dL_isHeld_127 (v := vi 7) rfl rfl ?_
  refine V_iconst (pc := 128) dL_isHeld_128 (by unfold I32; omega) ?_
  refine V_icmp_ne (pc := 129) dL_isHeld_129 (tgt := 174) rfl (fun _ => ?_) (fun h_ => absurd h_ (by decide))
  refine V_ld (pc := 174) dL_isHeld_174 (v := vi 7) rfl rfl ?_
  refine V_iconst (pc := 175) dL_isHeld_175 (by unfold I32; omega) ?_
  refine V_icmp_ne (pc := 176) dL_isHeld_176 (tgt := 199) rfl (fun _ => ?_) (fun h_ => absurd h_ (by decide))
  refine V_ld (pc := 199) dL_isHeld_199 (v := vi 7) rfl rfl ?_
  refine V_bipush (pc := 200) dL_isHeld_200 (by unfold I32; omega) (by decide) ?_
  refine V_icmp_ne (pc := 202) dL_isHeld_202 (tgt := 235) rfl (fun _ => ?_) (fun h_ => absurd h_ (by decide))
  refine V_ld (pc := 235) dL_isHeld_235 (v := vi 7) rfl rfl ?_
  refine V_if_lt (pc := 236) dL_isHeld_236 (tgt := 272) rfl (fun h_ => absurd h_ (by decide)) (fun _ => ?_)
  refine V_bipush (pc := 239) dL_isHeld_239 (by unfold I32; omega) (by decide) ?_
  refine V_ld (pc := 241) dL_isHeld_241 (v := vi (v r.toNat 1)) rfl rfl ?_
  refine V_callS (pc := 243) dL_isHeld_243 (F' := 0) (As := [vi (-2), vi (v r.toNat 1)]) (st := []) cw_RL_61 rfl rfl (Nat.le_of_ble_eq_true rfl) (by omega) (w_less  m (-2) (v r.toNat 1)   ) ?_
  rintro _ _ ⟨x243, rfl, hx243, rfl⟩ ok243 le243
  subst hx243
  refine V_if_ne (pc := 246) dL_isHeld_246 (tgt := 276) rfl (fun h246 => ?_) (fun h246 => ?_)
  · skip
    refine V_iconst (pc := 276) dL_isHeld_276 (by unfold I32; omega) ?_
    refine V_reti (pc := 277) dL_isHeld_277 (show _ = (0 : Int) ∨ _ = (1 : Int) from by first | exact Or.inl rfl | exact Or.inr rfl | omega) ?_
    refine ⟨?_, rfl⟩
    first | rfl | omega | (rw [if_pos (by omega)]) | (rw [if_neg (by omega)])
  · skip
    refine V_ld (pc := 249) dL_isHeld_249 (v := vr o) rfl rfl ?_
    refine V_ld (pc := 250) dL_isHeld_250 (v := vr L) rfl rfl ?_
    refine V_ld (pc := 251) dL_isHeld_251 (v := vi ((a : Nat) : Int)) rfl rfl ?_
    refine V_ld (pc := 252) dL_isHeld_252 (v := vi r) rfl rfl ?_
    refine V_iconst (pc := 254) dL_isHeld_254 (by unfold I32; omega) ?_
    refine V_iconst (pc := 255) dL_isHeld_255 (by unfold I32; omega) ?_
    refine V_callS (pc := 256) dL_isHeld_256 (F' := 0) (As := [vr o, vr L, vi ((a : Nat) : Int), vi r, vi 0, vi 1]) (st := []) cw_RL_57 rfl rfl (Nat.le_of_ble_eq_true rfl) (by omega) (w_sum1 n v a N m o L r 0   hR T_L hr hn.2 hv) ?_
    rintro _ _ ⟨x256, rfl, hx256, rfl⟩ ok256 le256
    subst hx256
    refine V_if_lt (pc := 259) dL_isHeld_259 (tgt := 276) rfl (fun h259 => ?_) (fun h259 => ?_)
    · skip
      refine V_iconst (pc := 276) dL_isHeld_276 (by unfold I32; omega) ?_
      refine V_reti (pc := 277) dL_isHeld_277 (show _ = (0 : Int) ∨ _ = (1 : Int) from by first | exact Or.inl rfl | exact Or.inr rfl | omega) ?_
      refine ⟨?_, rfl⟩
      first | rfl | omega | (rw [if_pos (by omega)]) | (rw [if_neg (by omega)])
    · skip
      refine V_ld (pc := 262) dL_isHeld_262 (v := vi (v r.toNat 0)) rfl rfl ?_
      refine V_bipush (pc := 264) dL_isHeld_264 (by unfold I32; omega) (by decide) ?_
      refine V_callS (pc := 266) dL_isHeld_266 (F' := 0) (As := [vi (v r.toNat 0), vi 9]) (st := []) cw_RL_61 rfl rfl (Nat.le_of_ble_eq_true rfl) (by omega) (w_less  m (v r.toNat 0) 9   ) ?_
      rintro _ _ ⟨x266, rfl, hx266, rfl⟩ ok266 le266
      subst hx266
      refine V_if_eq (pc := 269) dL_isHeld_269 (tgt := 276) rfl (fun h269 => ?_) (fun h269 => ?_)
      · skip
        refine V_iconst (pc := 276) dL_isHeld_276 (by unfold I32; omega) ?_
        refine V_reti (pc := 277) dL_isHeld_277 (show _ = (0 : Int) ∨ _ = (1 : Int) from by first | exact Or.inl rfl | exact Or.inr rfl | omega) ?_
        refine ⟨?_, rfl⟩
        first | rfl | omega | (rw [if_pos (by omega)]) | (rw [if_neg (by omega)])
      · skip
        refine V_iconst (pc := 272) dL_isHeld_272 (by unfold I32; omega) ?_
        refine V_goto (pc := 273) dL_isHeld_273 (tgt := 277) rfl ?_
        refine V_reti (pc := 277) dL_isHeld_277 (show _ = (0 : Int) ∨ _ = (1 : Int) from by first | exact Or.inl rfl | exact Or.inr rfl | omega) ?_
        refine ⟨?_, rfl⟩
        first | rfl | omega | (rw [if_pos (by omega)]) | (rw [if_neg (by omega)])

/-- what isHeld() tells, by its number -/
def hlR (v : Nat → Nat → Int) (n : Nat) (le : Nat → Int) (a N : Nat) (r w : Int) : Int := if w = 0 then (lsI 0 (v r.toNat 0)) else if w = 1 then (if ¬ lsI (v r.toNat 1) (v r.toNat 0) = 0 ∨ ¬ lqI (v r.toNat 0) 5 = 0 then 1 else 0) else if w = 2 then (lsI (valR v n (r - 1) 0) (v r.toNat 0)) else if w = 3 then (if cnE le 0 N (a : Int) < 2 ∧ lqI (v r.toNat 0) 3 = 0 then 1 else 0) else if w = 4 then (if 2 < smE le (ceR v) 1 0 N (a : Int) ∨ ¬ lsI (valR v n (lsE le 0 N (a : Int)) 1) (v r.toNat 1) = 0 then 1 else 0) else if w = 5 then (lqI (valR v n (frE le 0 N (a : Int)) 0) (v r.toNat 0)) else if w = 6 then (if ¬ lsI (v r.toNat 0) (valR v n (r + 1) 0) = 0 ∨ cnE le 0 N (a : Int) < cnE le 1 N (a : Int) then 1 else 0) else if w = 7 then (if (lsI (-2) (v r.toNat 1) = 0 ∧ 0 ≤ smE le (ceR v) 0 1 N (a : Int)) ∧ ¬ lsI (v r.toNat 0) 9 = 0 then 1 else 0) else 1
theorem w_held {n : Nat} {v : Nat → Nat → Int} {a N : Nat} {m : Mem} {w r : Int} {o L : Nat} (hw : -1 ≤ w ∧ w ≤ 7) (hR : RwO m o n v) (T_L : mT m L = (20, 40)) (hr : r + 1 = (a : Int) + (N : Int)) (hn : 0 ≤ r ∧ r < (n : Int)) (hv : ∀ k, -10 ≤ ceR v k ∧ ceR v k ≤ 1000) : Ct μL_isHeld 1 [vi w, vr o, vr L, vi ((a : Nat) : Int), vi r] m (ri fun x m' => x = hlR v n (fun k_ : Nat => mI m L k_) a N r w ∧ m = m') := by
  rcases (show w = -1 ∨ w = 0 ∨ w = 1 ∨ w = 2 ∨ w = 3 ∨ w = 4 ∨ w = 5 ∨ w = 6 ∨ w = 7 by omega) with rfl | rfl | rfl | rfl | rfl | rfl | rfl | rfl | rfl
  · exact w_heldN n v a N m o L r hR.1 hR T_L hr hn hv
  · exact w_held0 n v a N m o L r hR.1 hR T_L hr hn hv
  · exact w_held1 n v a N m o L r hR.1 hR T_L hr hn hv
  · exact w_held2 n v a N m o L r hR.1 hR T_L hr hn hv
  · exact w_held3 n v a N m o L r hR.1 hR T_L hr hn hv
  · exact w_held4 n v a N m o L r hR.1 hR T_L hr hn hv
  · exact w_held5 n v a N m o L r hR.1 hR T_L hr hn hv
  · exact w_held6 n v a N m o L r hR.1 hR T_L hr hn hv
  · exact w_held7 n v a N m o L r hR.1 hR T_L hr hn hv
