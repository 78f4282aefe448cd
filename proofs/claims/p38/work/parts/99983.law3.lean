/-! THE LAW'S told(), rows(), tell(), feed() -/
theorem kS_ne {m : Mem} {i : Nat} (h : okM m) (hi : i < 24) : ¬ kS i = mN m := by
  have := h.2.2.1
  have := isOut_kS hi
  unfold isOut SC at this
  unfold NN at *
  omega
set_option maxHeartbeats 4000000 in
theorem w_told0  (m : Mem)    (hr : mN m + 1 ≤ NN ∧ mZ m + 8 ≤ ZZ) : Ct μL_told 0 [vi 0] m (rq fun x_ m' => (x_ = some (kS 0)) ∧ Kp (mN m) m m' ∧ mN m' = mN m + 1 ∧ mZ m' = mZ m + 8) := by
  refine Ct_of_V rfl (by decide) rfl (Nat.le_of_ble_eq_true rfl) ?_
  show V μL_told 0 m _ 0 [(0, vi 0)] [] m
  refine V_rg (k := 0) (x := 0) rfl fun r_0 => ?_
  refine V_okM fun hM_ => ?_
  refine V_bipush (pc := 0) dL_told_0 (by unfold I32; omega) (by decide) ?_
  refine V_newTv (pc := 2) (N := 8) (mN m) rfl rfl dL_told_2 (by omega) (by omega) (by omega) (by omega) cl_RL_28 ?_
  refine V_dup (pc := 5) dL_told_5 rfl ?_
  refine V_iconst (pc := 6) dL_told_6 (by unfold I32; omega) ?_
  refine V_ldcS (pc := 7) dL_told_7 (i := 0) rfl (by decide) (by decide +kernel) ?_
  skip
  refine V_aastT (pc := 9) dL_told_9 (mT_news (M := m) rfl) (by omega) ((if_neg (kS_ne hM_ (by decide))).trans (StrO.lit (B := 0) (i := 0) hM_ (by decide)).2.1) ?_
  refine V_dup (pc := 10) dL_told_10 rfl ?_
  refine V_iconst (pc := 11) dL_told_11 (by unfold I32; omega) ?_
  refine V_ldcS (pc := 12) dL_told_12 (i := 1) rfl (by decide) (by decide +kernel) ?_
  skip
  refine V_aastT (pc := 14) dL_told_14 (mT_news (M := m) rfl) (by omega) ((if_neg (kS_ne hM_ (by decide))).trans (StrO.lit (B := 0) (i := 1) hM_ (by decide)).2.1) ?_
  refine V_dup (pc := 15) dL_told_15 rfl ?_
  refine V_iconst (pc := 16) dL_told_16 (by unfold I32; omega) ?_
  refine V_ldcS (pc := 17) dL_told_17 (i := 2) rfl (by decide) (by decide +kernel) ?_
  skip
  refine V_aastT (pc := 19) dL_told_19 (mT_news (M := m) rfl) (by omega) ((if_neg (kS_ne hM_ (by decide))).trans (StrO.lit (B := 0) (i := 2) hM_ (by decide)).2.1) ?_
  refine V_dup (pc := 20) dL_told_20 rfl ?_
  refine V_iconst (pc := 21) dL_told_21 (by unfold I32; omega) ?_
  refine V_ldcS (pc := 22) dL_told_22 (i := 3) rfl (by decide) (by decide +kernel) ?_
  skip
  refine V_aastT (pc := 24) dL_told_24 (mT_news (M := m) rfl) (by omega) ((if_neg (kS_ne hM_ (by decide))).trans (StrO.lit (B := 0) (i := 3) hM_ (by decide)).2.1) ?_
  refine V_dup (pc := 25) dL_told_25 rfl ?_
  refine V_iconst (pc := 26) dL_told_26 (by unfold I32; omega) ?_
  refine V_ldcS (pc := 27) dL_told_27 (i := 4) rfl (by decide) (by decide +kernel) ?_
  skip
  refine V_aastT (pc := 29) dL_told_29 (mT_news (M := m) rfl) (by omega) ((if_neg (kS_ne hM_ (by decide))).trans (StrO.lit (B := 0) (i := 4) hM_ (by decide)).2.1) ?_
  refine V_dup (pc := 30) dL_told_30 rfl ?_
  refine V_iconst (pc := 31) dL_told_31 (by unfold I32; omega) ?_
  refine V_ldcS (pc := 32) dL_told_32 (i := 5) rfl (by decide) (by decide +kernel) ?_
  skip
  refine V_aastT (pc := 34) dL_told_34 (mT_news (M := m) rfl) (by omega) ((if_neg (kS_ne hM_ (by decide))).trans (StrO.lit (B := 0) (i := 5) hM_ (by decide)).2.1) ?_
  refine V_dup (pc := 35) dL_told_35 rfl ?_
  refine V_bipush (pc := 36) dL_told_36 (by unfold I32; omega) (by decide) ?_
  refine V_ldcS (pc := 38) dL_told_38 (i := 6) rfl (by decide) (by decide +kernel) ?_
  skip
  refine V_aastT (pc := 40) dL_told_40 (mT_news (M := m) rfl) (by omega) ((if_neg (kS_ne hM_ (by decide))).trans (StrO.lit (B := 0) (i := 6) hM_ (by decide)).2.1) ?_
  refine V_dup (pc := 41) dL_told_41 rfl ?_
  refine V_bipush (pc := 42) dL_told_42 (by unfold I32; omega) (by decide) ?_
  refine V_ldcS (pc := 44) dL_told_44 (i := 7) rfl (by decide) (by decide +kernel) ?_
  skip
  refine V_aastT (pc := 46) dL_told_46 (mT_news (M := m) rfl) (by omega) ((if_neg (kS_ne hM_ (by decide))).trans (StrO.lit (B := 0) (i := 7) hM_ (by decide)).2.1) ?_
  refine V_st (pc := 47) dL_told_47 (ls' := [(1, vr (mN m)), (0, vi 0)]) rfl (Nat.le_of_ble_eq_true rfl) rfl ?_
  refine V_ld (pc := 48) dL_told_48 (v := vr (mN m)) rfl rfl ?_
  refine V_ld (pc := 49) dL_told_49 (v := vi 0) rfl rfl ?_
  refine V_aaldQ (pc := 50) dL_told_50 (q := some (kS 0)) (mT_news (M := m) rfl) (by decide) (by omega) ((mR_setne (M := (setR (setR (setR (setR (setR (setR (setR (newO m 26 8) (mN m) 0 (some (kS 0))) (mN m) 1 (some (kS 1))) (mN m) 2 (some (kS 2))) (mN m) 3 (some (kS 3))) (mN m) 4 (some (kS 4))) (mN m) 5 (some (kS 5))) (mN m) 6 (some (kS 6)))) (by omega)).trans ((mR_setne (M := (setR (setR (setR (setR (setR (setR (newO m 26 8) (mN m) 0 (some (kS 0))) (mN m) 1 (some (kS 1))) (mN m) 2 (some (kS 2))) (mN m) 3 (some (kS 3))) (mN m) 4 (some (kS 4))) (mN m) 5 (some (kS 5)))) (by omega)).trans ((mR_setne (M := (setR (setR (setR (setR (setR (newO m 26 8) (mN m) 0 (some (kS 0))) (mN m) 1 (some (kS 1))) (mN m) 2 (some (kS 2))) (mN m) 3 (some (kS 3))) (mN m) 4 (some (kS 4)))) (by omega)).trans ((mR_setne (M := (setR (setR (setR (setR (newO m 26 8) (mN m) 0 (some (kS 0))) (mN m) 1 (some (kS 1))) (mN m) 2 (some (kS 2))) (mN m) 3 (some (kS 3)))) (by omega)).trans ((mR_setne (M := (setR (setR (setR (newO m 26 8) (mN m) 0 (some (kS 0))) (mN m) 1 (some (kS 1))) (mN m) 2 (some (kS 2)))) (by omega)).trans ((mR_setne (M := (setR (setR (newO m 26 8) (mN m) 0 (some (kS 0))) (mN m) 1 (some (kS 1)))) (by omega)).trans ((mR_setne (M := (setR (newO m 26 8) (mN m) 0 (some (kS 0)))) (by omega)).trans mR_sets))))))) ?_
  refine V_retq (pc := 51) dL_told_51 trivial ?_
  exact ⟨rfl, (((((((((Kp.rf.new (Nat.le_refl _) (by omega)).setR (Nat.le_refl _) (Nat.lt_succ_self _) hr.1).setR (Nat.le_refl _) (Nat.lt_succ_self _) hr.1).setR (Nat.le_refl _) (Nat.lt_succ_self _) hr.1).setR (Nat.le_refl _) (Nat.lt_succ_self _) hr.1).setR (Nat.le_refl _) (Nat.lt_succ_self _) hr.1).setR (Nat.le_refl _) (Nat.lt_succ_self _) hr.1).setR (Nat.le_refl _) (Nat.lt_succ_self _) hr.1).setR (Nat.le_refl _) (Nat.lt_succ_self _) hr.1), rfl, rfl⟩

set_option maxHeartbeats 4000000 in
theorem w_told1  (m : Mem)    (hr : mN m + 1 ≤ NN ∧ mZ m + 8 ≤ ZZ) : Ct μL_told 0 [vi 1] m (rq fun x_ m' => (x_ = some (kS 1)) ∧ Kp (mN m) m m' ∧ mN m' = mN m + 1 ∧ mZ m' = mZ m + 8) := by
  refine Ct_of_V rfl (by decide) rfl (Nat.le_of_ble_eq_true rfl) ?_
  show V μL_told 0 m _ 0 [(0, vi 1)] [] m
  refine V_rg (k := 0) (x := 1) rfl fun r_1 => ?_
  refine V_okM fun hM_ => ?_
  refine V_bipush (pc := 0) dL_told_0 (by unfold I32; omega) (by decide) ?_
  refine V_newTv (pc := 2) (N := 8) (mN m) rfl rfl dL_told_2 (by omega) (by omega) (by omega) (by omega) cl_RL_28 ?_
  refine V_dup (pc := 5) dL_told_5 rfl ?_
  refine V_iconst (pc := 6) dL_told_6 (by unfold I32; omega) ?_
  refine V_ldcS (pc := 7) dL_told_7 (i := 0) rfl (by decide) (by decide +kernel) ?_
  skip
  refine V_aastT (pc := 9) dL_told_9 (mT_news (M := m) rfl) (by omega) ((if_neg (kS_ne hM_ (by decide))).trans (StrO.lit (B := 0) (i := 0) hM_ (by decide)).2.1) ?_
  refine V_dup (pc := 10) dL_told_10 rfl ?_
  refine V_iconst (pc := 11) dL_told_11 (by unfold I32; omega) ?_
  refine V_ldcS (pc := 12) dL_told_12 (i := 1) rfl (by decide) (by decide +kernel) ?_
  skip
  refine V_aastT (pc := 14) dL_told_14 (mT_news (M := m) rfl) (by omega) ((if_neg (kS_ne hM_ (by decide))).trans (StrO.lit (B := 0) (i := 1) hM_ (by decide)).2.1) ?_
  refine V_dup (pc := 15) dL_told_15 rfl ?_
  refine V_iconst (pc := 16) dL_told_16 (by unfold I32; omega) ?_
  refine V_ldcS (pc := 17) dL_told_17 (i := 2) rfl (by decide) (by decide +kernel) ?_
  skip
  refine V_aastT (pc := 19) dL_told_19 (mT_news (M := m) rfl) (by omega) ((if_neg (kS_ne hM_ (by decide))).trans (StrO.lit (B := 0) (i := 2) hM_ (by decide)).2.1) ?_
  refine V_dup (pc := 20) dL_told_20 rfl ?_
  refine V_iconst (pc := 21) dL_told_21 (by unfold I32; omega) ?_
  refine V_ldcS (pc := 22) dL_told_22 (i := 3) rfl (by decide) (by decide +kernel) ?_
  skip
  refine V_aastT (pc := 24) dL_told_24 (mT_news (M := m) rfl) (by omega) ((if_neg (kS_ne hM_ (by decide))).trans (StrO.lit (B := 0) (i := 3) hM_ (by decide)).2.1) ?_
  refine V_dup (pc := 25) dL_told_25 rfl ?_
  refine V_iconst (pc := 26) dL_told_26 (by unfold I32; omega) ?_
  refine V_ldcS (pc := 27) dL_told_27 (i := 4) rfl (by decide) (by decide +kernel) ?_
  skip
  refine V_aastT (pc := 29) dL_told_29 (mT_news (M := m) rfl) (by omega) ((if_neg (kS_ne hM_ (by decide))).trans (StrO.lit (B := 0) (i := 4) hM_ (by decide)).2.1) ?_
  refine V_dup (pc := 30) dL_told_30 rfl ?_
  refine V_iconst (pc := 31) dL_told_31 (by unfold I32; omega) ?_
  refine V_ldcS (pc := 32) dL_told_32 (i := 5) rfl (by decide) (by decide +kernel) ?_
  skip
  refine V_aastT (pc := 34) dL_told_34 (mT_news (M := m) rfl) (by omega) ((if_neg (kS_ne hM_ (by decide))).trans (StrO.lit (B := 0) (i := 5) hM_ (by decide)).2.1) ?_
  refine V_dup (pc := 35) dL_told_35 rfl ?_
  refine V_bipush (pc := 36) dL_told_36 (by unfold I32; omega) (by decide) ?_
  refine V_ldcS (pc := 38) dL_told_38 (i := 6) rfl (by decide) (by decide +kernel) ?_
  skip
  refine V_aastT (pc := 40) dL_told_40 (mT_news (M := m) rfl) (by omega) ((if_neg (kS_ne hM_ (by decide))).trans (StrO.lit (B := 0) (i := 6) hM_ (by decide)).2.1) ?_
  refine V_dup (pc := 41) dL_told_41 rfl ?_
  refine V_bipush (pc := 42) dL_told_42 (by unfold I32; omega) (by decide) ?_
  refine V_ldcS (pc := 44) dL_told_44 (i := 7) rfl (by decide) (by decide +kernel) ?_
  skip
  refine V_aastT (pc := 46) dL_told_46 (mT_news (M := m) rfl) (by omega) ((if_neg (kS_ne hM_ (by decide))).trans (StrO.lit (B := 0) (i := 7) hM_ (by decide)).2.1) ?_
  refine V_st (pc := 47) dL_told_47 (ls' := [(1, vr (mN m)), (0, vi 1)]) rfl (Nat.le_of_ble_eq_true rfl) rfl ?_
  refine V_ld (pc := 48) dL_told_48 (v := vr (mN m)) rfl rfl ?_
  refine V_ld (pc := 49) dL_told_49 (v := vi 1) rfl rfl ?_
  refine V_aaldQ (pc := 50) dL_told_50 (q := some (kS 1)) (mT_news (M := m) rfl) (by decide) (by omega) ((mR_setne (M := (setR (setR (setR (setR (setR (setR (setR (newO m 26 8) (mN m) 0 (some (kS 0))) (mN m) 1 (some (kS 1))) (mN m) 2 (some (kS 2))) (mN m) 3 (some (kS 3))) (mN m) 4 (some (kS 4))) (mN m) 5 (some (kS 5))) (mN m) 6 (some (kS 6)))) (by omega)).trans ((mR_setne (M := (setR (setR (setR (setR (setR (setR (newO m 26 8) (mN m) 0 (some (kS 0))) (mN m) 1 (some (kS 1))) (mN m) 2 (some (kS 2))) (mN m) 3 (some (kS 3))) (mN m) 4 (some (kS 4))) (mN m) 5 (some (kS 5)))) (by omega)).trans ((mR_setne (M := (setR (setR (setR (setR (setR (newO m 26 8) (mN m) 0 (some (kS 0))) (mN m) 1 (some (kS 1))) (mN m) 2 (some (kS 2))) (mN m) 3 (some (kS 3))) (mN m) 4 (some (kS 4)))) (by omega)).trans ((mR_setne (M := (setR (setR (setR (setR (newO m 26 8) (mN m) 0 (some (kS 0))) (mN m) 1 (some (kS 1))) (mN m) 2 (some (kS 2))) (mN m) 3 (some (kS 3)))) (by omega)).trans ((mR_setne (M := (setR (setR (setR (newO m 26 8) (mN m) 0 (some (kS 0))) (mN m) 1 (some (kS 1))) (mN m) 2 (some (kS 2)))) (by omega)).trans ((mR_setne (M := (setR (setR (newO m 26 8) (mN m) 0 (some (kS 0))) (mN m) 1 (some (kS 1)))) (by omega)).trans mR_sets)))))) ?_
  refine V_retq (pc := 51) dL_told_51 trivial ?_
  exact ⟨rfl, (((((((((Kp.rf.new (Nat.le_refl _) (by omega)).setR (Nat.le_refl _) (Nat.lt_succ_self _) hr.1).setR (Nat.le_refl _) (Nat.lt_succ_self _) hr.1).setR (Nat.le_refl _) (Nat.lt_succ_self _) hr.1).setR (Nat.le_refl _) (Nat.lt_succ_self _) hr.1).setR (Nat.le_refl _) (Nat.lt_succ_self _) hr.1).setR (Nat.le_refl _) (Nat.lt_succ_self _) hr.1).setR (Nat.le_refl _) (Nat.lt_succ_self _) hr.1).setR (Nat.le_refl _) (Nat.lt_succ_self _) hr.1), rfl, rfl⟩

set_option maxHeartbeats 4000000 in
theorem w_told2  (m : Mem)    (hr : mN m + 1 ≤ NN ∧ mZ m + 8 ≤ ZZ) : Ct μL_told 0 [vi 2] m (rq fun x_ m' => (x_ = some (kS 2)) ∧ Kp (mN m) m m' ∧ mN m' = mN m + 1 ∧ mZ m' = mZ m + 8) := by
  refine Ct_of_V rfl (by decide) rfl (Nat.le_of_ble_eq_true rfl) ?_
  show V μL_told 0 m _ 0 [(0, vi 2)] [] m
  refine V_rg (k := 0) (x := 2) rfl fun r_2 => ?_
  refine V_okM fun hM_ => ?_
  refine V_bipush (pc := 0) dL_told_0 (by unfold I32; omega) (by decide) ?_
  refine V_newTv (pc := 2) (N := 8) (mN m) rfl rfl dL_told_2 (by omega) (by omega) (by omega) (by omega) cl_RL_28 ?_
  refine V_dup (pc := 5) dL_told_5 rfl ?_
  refine V_iconst (pc := 6) dL_told_6 (by unfold I32; omega) ?_
  refine V_ldcS (pc := 7) dL_told_7 (i := 0) rfl (by decide) (by decide +kernel) ?_
  skip
  refine V_aastT (pc := 9) dL_told_9 (mT_news (M := m) rfl) (by omega) ((if_neg (kS_ne hM_ (by decide))).trans (StrO.lit (B := 0) (i := 0) hM_ (by decide)).2.1) ?_
  refine V_dup (pc := 10) dL_told_10 rfl ?_
  refine V_iconst (pc := 11) dL_told_11 (by unfold I32; omega) ?_
  refine V_ldcS (pc := 12) dL_told_12 (i := 1) rfl (by decide) (by decide +kernel) ?_
  skip
  refine V_aastT (pc := 14) dL_told_14 (mT_news (M := m) rfl) (by omega) ((if_neg (kS_ne hM_ (by decide))).trans (StrO.lit (B := 0) (i := 1) hM_ (by decide)).2.1) ?_
  refine V_dup (pc := 15) dL_told_15 rfl ?_
  refine V_iconst (pc := 16) dL_told_16 (by unfold I32; omega) ?_
  refine V_ldcS (pc := 17) dL_told_17 (i := 2) rfl (by decide) (by decide +kernel) ?_
  skip
  refine V_aastT (pc := 19) dL_told_19 (mT_news (M := m) rfl) (by omega) ((if_neg (kS_ne hM_ (by decide))).trans (StrO.lit (B := 0) (i := 2) hM_ (by decide)).2.1) ?_
  refine V_dup (pc := 20) dL_told_20 rfl ?_
  refine V_iconst (pc := 21) dL_told_21 (by unfold I32; omega) ?_
  refine V_ldcS (pc := 22) dL_told_22 (i := 3) rfl (by decide) (by decide +kernel) ?_
  skip
  refine V_aastT (pc := 24) dL_told_24 (mT_news (M := m) rfl) (by omega) ((if_neg (kS_ne hM_ (by decide))).trans (StrO.lit (B := 0) (i := 3) hM_ (by decide)).2.1) ?_
  refine V_dup (pc := 25) dL_told_25 rfl ?_
  refine V_iconst (pc := 26) dL_told_26 (by unfold I32; omega) ?_
  refine V_ldcS (pc := 27) dL_told_27 (i := 4) rfl (by decide) (by decide +kernel) ?_
  skip
  refine V_aastT (pc := 29) dL_told_29 (mT_news (M := m) rfl) (by omega) ((if_neg (kS_ne hM_ (by decide))).trans (StrO.lit (B := 0) (i := 4) hM_ (by decide)).2.1) ?_
  refine V_dup (pc := 30) dL_told_30 rfl ?_
  refine V_iconst (pc := 31) dL_told_31 (by unfold I32; omega) ?_
  refine V_ldcS (pc := 32) dL_told_32 (i := 5) rfl (by decide) (by decide +kernel) ?_
  skip
  refine V_aastT (pc := 34) dL_told_34 (mT_news (M := m) rfl) (by omega) ((if_neg (kS_ne hM_ (by decide))).trans (StrO.lit (B := 0) (i := 5) hM_ (by decide)).2.1) ?_
  refine V_dup (pc := 35) dL_told_35 rfl ?_
  refine V_bipush (pc := 36) dL_told_36 (by unfold I32; omega) (by decide) ?_
  refine V_ldcS (pc := 38) dL_told_38 (i := 6) rfl (by decide) (by decide +kernel) ?_
  skip
  refine V_aastT (pc := 40) dL_told_40 (mT_news (M := m) rfl) (by omega) ((if_neg (kS_ne hM_ (by decide))).trans (StrO.lit (B := 0) (i := 6) hM_ (by decide)).2.1) ?_
  refine V_dup (pc := 41) dL_told_41 rfl ?_
  refine V_bipush (pc := 42) dL_told_42 (by unfold I32; omega) (by decide) ?_
  refine V_ldcS (pc := 44) dL_told_44 (i := 7) rfl (by decide) (by decide +kernel) ?_
  skip
  refine V_aastT (pc := 46) dL_told_46 (mT_news (M := m) rfl) (by omega) ((if_neg (kS_ne hM_ (by decide))).trans (StrO.lit (B := 0) (i := 7) hM_ (by decide)).2.1) ?_
  refine V_st (pc := 47) dL_told_47 (ls' := [(1, vr (mN m)), (0, vi 2)]) rfl (Nat.le_of_ble_eq_true rfl) rfl ?_
  refine V_ld (pc := 48) dL_told_48 (v := vr (mN m)) rfl rfl ?_
  refine V_ld (pc := 49) dL_told_49 (v := vi 2) rfl rfl ?_
  refine V_aaldQ (pc := 50) dL_told_50 (q := some (kS 2)) (mT_news (M := m) rfl) (by decide) (by omega) ((mR_setne (M := (setR (setR (setR (setR (setR (setR (setR (newO m 26 8) (mN m) 0 (some (kS 0))) (mN m) 1 (some (kS 1))) (mN m) 2 (some (kS 2))) (mN m) 3 (some (kS 3))) (mN m) 4 (some (kS 4))) (mN m) 5 (some (kS 5))) (mN m) 6 (some (kS 6)))) (by omega)).trans ((mR_setne (M := (setR (setR (setR (setR (setR (setR (newO m 26 8) (mN m) 0 (some (kS 0))) (mN m) 1 (some (kS 1))) (mN m) 2 (some (kS 2))) (mN m) 3 (some (kS 3))) (mN m) 4 (some (kS 4))) (mN m) 5 (some (kS 5)))) (by omega)).trans ((mR_setne (M := (setR (setR (setR (setR (setR (newO m 26 8) (mN m) 0 (some (kS 0))) (mN m) 1 (some (kS 1))) (mN m) 2 (some (kS 2))) (mN m) 3 (some (kS 3))) (mN m) 4 (some (kS 4)))) (by omega)).trans ((mR_setne (M := (setR (setR (setR (setR (newO m 26 8) (mN m) 0 (some (kS 0))) (mN m) 1 (some (kS 1))) (mN m) 2 (some (kS 2))) (mN m) 3 (some (kS 3)))) (by omega)).trans ((mR_setne (M := (setR (setR (setR (newO m 26 8) (mN m) 0 (some (kS 0))) (mN m) 1 (some (kS 1))) (mN m) 2 (some (kS 2)))) (by omega)).trans mR_sets))))) ?_
  refine V_retq (pc := 51) dL_told_51 trivial ?_
  exact ⟨rfl, (((((((((Kp.rf.new (Nat.le_refl _) (by omega)).setR (Nat.le_refl _) (Nat.lt_succ_self _) hr.1).setR (Nat.le_refl _) (Nat.lt_succ_self _) hr.1).setR (Nat.le_refl _) (Nat.lt_succ_self _) hr.1).setR (Nat.le_refl _) (Nat.lt_succ_self _) hr.1).setR (Nat.le_refl _) (Nat.lt_succ_self _) hr.1).setR (Nat.le_refl _) (Nat.lt_succ_self _) hr.1).setR (Nat.le_refl _) (Nat.lt_succ_self _) hr.1).setR (Nat.le_refl _) (Nat.lt_succ_self _) hr.1), rfl, rfl⟩

set_option maxHeartbeats 4000000 in
theorem w_told3  (m : Mem)    (hr : mN m + 1 ≤ NN ∧ mZ m + 8 ≤ ZZ) : Ct μL_told 0 [vi 3] m (rq fun x_ m' => (x_ = some (kS 3)) ∧ Kp (mN m) m m' ∧ mN m' = mN m + 1 ∧ mZ m' = mZ m + 8) := by
  refine Ct_of_V rfl (by decide) rfl (Nat.le_of_ble_eq_true rfl) ?_
  show V μL_told 0 m _ 0 [(0, vi 3)] [] m
  refine V_rg (k := 0) (x := 3) rfl fun r_3 => ?_
  refine V_okM fun hM_ => ?_
  refine V_bipush (pc := 0) dL_told_0 (by unfold I32; omega) (by decide) ?_
  refine V_newTv (pc := 2) (N := 8) (mN m) rfl rfl dL_told_2 (by omega) (by omega) (by omega) (by omega) cl_RL_28 ?_
  refine V_dup (pc := 5) dL_told_5 rfl ?_
  refine V_iconst (pc := 6) dL_told_6 (by unfold I32; omega) ?_
  refine V_ldcS (pc := 7) dL_told_7 (i := 0) rfl (by decide) (by decide +kernel) ?_
  skip
  refine V_aastT (pc := 9) dL_told_9 (mT_news (M := m) rfl) (by omega) ((if_neg (kS_ne hM_ (by decide))).trans (StrO.lit (B := 0) (i := 0) hM_ (by decide)).2.1) ?_
  refine V_dup (pc := 10) dL_told_10 rfl ?_
  refine V_iconst (pc := 11) dL_told_11 (by unfold I32; omega) ?_
  refine V_ldcS (pc := 12) dL_told_12 (i := 1) rfl (by decide) (by decide +kernel) ?_
  skip
  refine V_aastT (pc := 14) dL_told_14 (mT_news (M := m) rfl) (by omega) ((if_neg (kS_ne hM_ (by decide))).trans (StrO.lit (B := 0) (i := 1) hM_ (by decide)).2.1) ?_
  refine V_dup (pc := 15) dL_told_15 rfl ?_
  refine V_iconst (pc := 16) dL_told_16 (by unfold I32; omega) ?_
  refine V_ldcS (pc := 17) dL_told_17 (i := 2) rfl (by decide) (by decide +kernel) ?_
  skip
  refine V_aastT (pc := 19) dL_told_19 (mT_news (M := m) rfl) (by omega) ((if_neg (kS_ne hM_ (by decide))).trans (StrO.lit (B := 0) (i := 2) hM_ (by decide)).2.1) ?_
  refine V_dup (pc := 20) dL_told_20 rfl ?_
  refine V_iconst (pc := 21) dL_told_21 (by unfold I32; omega) ?_
  refine V_ldcS (pc := 22) dL_told_22 (i := 3) rfl (by decide) (by decide +kernel) ?_
  skip
  refine V_aastT (pc := 24) dL_told_24 (mT_news (M := m) rfl) (by omega) ((if_neg (kS_ne hM_ (by decide))).trans (StrO.lit (B := 0) (i := 3) hM_ (by decide)).2.1) ?_
  refine V_dup (pc := 25) dL_told_25 rfl ?_
  refine V_iconst (pc := 26) dL_told_26 (by unfold I32; omega) ?_
  refine V_ldcS (pc := 27) dL_told_27 (i := 4) rfl (by decide) (by decide +kernel) ?_
  skip
  refine V_aastT (pc := 29) dL_told_29 (mT_news (M := m) rfl) (by omega) ((if_neg (kS_ne hM_ (by decide))).trans (StrO.lit (B := 0) (i := 4) hM_ (by decide)).2.1) ?_
  refine V_dup (pc := 30) dL_told_30 rfl ?_
  refine V_iconst (pc := 31) dL_told_31 (by unfold I32; omega) ?_
  refine V_ldcS (pc := 32) dL_told_32 (i := 5) rfl (by decide) (by decide +kernel) ?_
  skip
  refine V_aastT (pc := 34) dL_told_34 (mT_news (M := m) rfl) (by omega) ((if_neg (kS_ne hM_ (by decide))).trans (StrO.lit (B := 0) (i := 5) hM_ (by decide)).2.1) ?_
  refine V_dup (pc := 35) dL_told_35 rfl ?_
  refine V_bipush (pc := 36) dL_told_36 (by unfold I32; omega) (by decide) ?_
  refine V_ldcS (pc := 38) dL_told_38 (i := 6) rfl (by decide) (by decide +kernel) ?_
  skip
  refine V_aastT (pc := 40) dL_told_40 (mT_news (M := m) rfl) (by omega) ((if_neg (kS_ne hM_ (by decide))).trans (StrO.lit (B := 0) (i := 6) hM_ (by decide)).2.1) ?_
  refine V_dup (pc := 41) dL_told_41 rfl ?_
  refine V_bipush (pc := 42) dL_told_42 (by unfold I32; omega) (by decide) ?_
  refine V_ldcS (pc := 44) dL_told_44 (i := 7) rfl (by decide) (by decide +kernel) ?_
  skip
  refine V_aastT (pc := 46) dL_told_46 (mT_news (M := m) rfl) (by omega) ((if_neg (kS_ne hM_ (by decide))).trans (StrO.lit (B := 0) (i := 7) hM_ (by decide)).2.1) ?_
  refine V_st (pc := 47) dL_told_47 (ls' := [(1, vr (mN m)), (0, vi 3)]) rfl (Nat.le_of_ble_eq_true rfl) rfl ?_
  refine V_ld (pc := 48) dL_told_48 (v := vr (mN m)) rfl rfl ?_
  refine V_ld (pc := 49) dL_told_49 (v := vi 3) rfl rfl ?_
  refine V_aaldQ (pc := 50) dL_told_50 (q := some (kS 3)) (mT_news (M := m) rfl) (by decide) (by omega) ((mR_setne (M := (setR (setR (setR (setR (setR (setR (setR (newO m 26 8) (mN m) 0 (some (kS 0))) (mN m) 1 (some (kS 1))) (mN m) 2 (some (kS 2))) (mN m) 3 (some (kS 3))) (mN m) 4 (some (kS 4))) (mN m) 5 (some (kS 5))) (mN m) 6 (some (kS 6)))) (by omega)).trans ((mR_setne (M := (setR (setR (setR (setR (setR (setR (newO m 26 8) (mN m) 0 (some (kS 0))) (mN m) 1 (some (kS 1))) (mN m) 2 (some (kS 2))) (mN m) 3 (some (kS 3))) (mN m) 4 (some (kS 4))) (mN m) 5 (some (kS 5)))) (by omega)).trans ((mR_setne (M := (setR (setR (setR (setR (setR (newO m 26 8) (mN m) 0 (some (kS 0))) (mN m) 1 (some (kS 1))) (mN m) 2 (some (kS 2))) (mN m) 3 (some (kS 3))) (mN m) 4 (some (kS 4)))) (by omega)).trans ((mR_setne (M := (setR (setR (setR (setR (newO m 26 8) (mN m) 0 (some (kS 0))) (mN m) 1 (some (kS 1))) (mN m) 2 (some (kS 2))) (mN m) 3 (some (kS 3)))) (by omega)).trans mR_sets)))) ?_
  refine V_retq (pc := 51) dL_told_51 trivial ?_
  exact ⟨rfl, (((((((((Kp.rf.new (Nat.le_refl _) (by omega)).setR (Nat.le_refl _) (Nat.lt_succ_self _) hr.1).setR (Nat.le_refl _) (Nat.lt_succ_self _) hr.1).setR (Nat.le_refl _) (Nat.lt_succ_self _) hr.1).setR (Nat.le_refl _) (Nat.lt_succ_self _) hr.1).setR (Nat.le_refl _) (Nat.lt_succ_self _) hr.1).setR (Nat.le_refl _) (Nat.lt_succ_self _) hr.1).setR (Nat.le_refl _) (Nat.lt_succ_self _) hr.1).setR (Nat.le_refl _) (Nat.lt_succ_self _) hr.1), rfl, rfl⟩

set_option maxHeartbeats 4000000 in
theorem w_told4  (m : Mem)    (hr : mN m + 1 ≤ NN ∧ mZ m + 8 ≤ ZZ) : Ct μL_told 0 [vi 4] m (rq fun x_ m' => (x_ = some (kS 4)) ∧ Kp (mN m) m m' ∧ mN m' = mN m + 1 ∧ mZ m' = mZ m + 8) := by
  refine Ct_of_V rfl (by decide) rfl (Nat.le_of_ble_eq_true rfl) ?_
  show V μL_told 0 m _ 0 [(0, vi 4)] [] m
  refine V_rg (k := 0) (x := 4) rfl fun r_4 => ?_
  refine V_okM fun hM_ => ?_
  refine V_bipush (pc := 0) dL_told_0 (by unfold I32; omega) (by decide) ?_
  refine V_newTv (pc := 2) (N := 8) (mN m) rfl rfl dL_told_2 (by omega) (by omega) (by omega) (by omega) cl_RL_28 ?_
  refine V_dup (pc := 5) dL_told_5 rfl ?_
  refine V_iconst (pc := 6) dL_told_6 (by unfold I32; omega) ?_
  refine V_ldcS (pc := 7) dL_told_7 (i := 0) rfl (by decide) (by decide +kernel) ?_
  skip
  refine V_aastT (pc := 9) dL_told_9 (mT_news (M := m) rfl) (by omega) ((if_neg (kS_ne hM_ (by decide))).trans (StrO.lit (B := 0) (i := 0) hM_ (by decide)).2.1) ?_
  refine V_dup (pc := 10) dL_told_10 rfl ?_
  refine V_iconst (pc := 11) dL_told_11 (by unfold I32; omega) ?_
  refine V_ldcS (pc := 12) dL_told_12 (i := 1) rfl (by decide) (by decide +kernel) ?_
  skip
  refine V_aastT (pc := 14) dL_told_14 (mT_news (M := m) rfl) (by omega) ((if_neg (kS_ne hM_ (by decide))).trans (StrO.lit (B := 0) (i := 1) hM_ (by decide)).2.1) ?_
  refine V_dup (pc := 15) dL_told_15 rfl ?_
  refine V_iconst (pc := 16) dL_told_16 (by unfold I32; omega) ?_
  refine V_ldcS (pc := 17) dL_told_17 (i := 2) rfl (by decide) (by decide +kernel) ?_
  skip
  refine V_aastT (pc := 19) dL_told_19 (mT_news (M := m) rfl) (by omega) ((if_neg (kS_ne hM_ (by decide))).trans (StrO.lit (B := 0) (i := 2) hM_ (by decide)).2.1) ?_
  refine V_dup (pc := 20) dL_told_20 rfl ?_
  refine V_iconst (pc := 21) dL_told_21 (by unfold I32; omega) ?_
  refine V_ldcS (pc := 22) dL_told_22 (i := 3) rfl (by decide) (by decide +kernel) ?_
  skip
  refine V_aastT (pc := 24) dL_told_24 (mT_news (M := m) rfl) (by omega) ((if_neg (kS_ne hM_ (by decide))).trans (StrO.lit (B := 0) (i := 3) hM_ (by decide)).2.1) ?_
  refine V_dup (pc := 25) dL_told_25 rfl ?_
  refine V_iconst (pc := 26) dL_told_26 (by unfold I32; omega) ?_
  refine V_ldcS (pc := 27) dL_told_27 (i := 4) rfl (by decide) (by decide +kernel) ?_
  skip
  refine V_aastT (pc := 29) dL_told_29 (mT_news (M := m) rfl) (by omega) ((if_neg (kS_ne hM_ (by decide))).trans (StrO.lit (B := 0) (i := 4) hM_ (by decide)).2.1) ?_
  refine V_dup (pc := 30) dL_told_30 rfl ?_
  refine V_iconst (pc := 31) dL_told_31 (by unfold I32; omega) ?_
  refine V_ldcS (pc := 32) dL_told_32 (i := 5) rfl (by decide) (by decide +kernel) ?_
  skip
  refine V_aastT (pc := 34) dL_told_34 (mT_news (M := m) rfl) (by omega) ((if_neg (kS_ne hM_ (by decide))).trans (StrO.lit (B := 0) (i := 5) hM_ (by decide)).2.1) ?_
  refine V_dup (pc := 35) dL_told_35 rfl ?_
  refine V_bipush (pc := 36) dL_told_36 (by unfold I32; omega) (by decide) ?_
  refine V_ldcS (pc := 38) dL_told_38 (i := 6) rfl (by decide) (by decide +kernel) ?_
  skip
  refine V_aastT (pc := 40) dL_told_40 (mT_news (M := m) rfl) (by omega) ((if_neg (kS_ne hM_ (by decide))).trans (StrO.lit (B := 0) (i := 6) hM_ (by decide)).2.1) ?_
  refine V_dup (pc := 41) dL_told_41 rfl ?_
  refine V_bipush (pc := 42) dL_told_42 (by unfold I32; omega) (by decide) ?_
  refine V_ldcS (pc := 44) dL_told_44 (i := 7) rfl (by decide) (by decide +kernel) ?_
  skip
  refine V_aastT (pc := 46) dL_told_46 (mT_news (M := m) rfl) (by omega) ((if_neg (kS_ne hM_ (by decide))).trans (StrO.lit (B := 0) (i := 7) hM_ (by decide)).2.1) ?_
  refine V_st (pc := 47) dL_told_47 (ls' := [(1, vr (mN m)), (0, vi 4)]) rfl (Nat.le_of_ble_eq_true rfl) rfl ?_
  refine V_ld (pc := 48) dL_told_48 (v := vr (mN m)) rfl rfl ?_
  refine V_ld (pc := 49) dL_told_49 (v := vi 4) rfl rfl ?_
  refine V_aaldQ (pc := 50) dL_told_50 (q := some (kS 4)) (mT_news (M := m) rfl) (by decide) (by omega) ((mR_setne (M := (setR (setR (setR (setR (setR (setR (setR (newO m 26 8) (mN m) 0 (some (kS 0))) (mN m) 1 (some (kS 1))) (mN m) 2 (some (kS 2))) (mN m) 3 (some (kS 3))) (mN m) 4 (some (kS 4))) (mN m) 5 (some (kS 5))) (mN m) 6 (some (kS 6)))) (by omega)).trans ((mR_setne (M := (setR (setR (setR (setR (setR (setR (newO m 26 8) (mN m) 0 (some (kS 0))) (mN m) 1 (some (kS 1))) (mN m) 2 (some (kS 2))) (mN m) 3 (some (kS 3))) (mN m) 4 (some (kS 4))) (mN m) 5 (some (kS 5)))) (by omega)).trans ((mR_setne (M := (setR (setR (setR (setR (setR (newO m 26 8) (mN m) 0 (some (kS 0))) (mN m) 1 (some (kS 1))) (mN m) 2 (some (kS 2))) (mN m) 3 (some (kS 3))) (mN m) 4 (some (kS 4)))) (by omega)).trans mR_sets))) ?_
  refine V_retq (pc := 51) dL_told_51 trivial ?_
  exact ⟨rfl, (((((((((Kp.rf.new (Nat.le_refl _) (by omega)).setR (Nat.le_refl _) (Nat.lt_succ_self _) hr.1).setR (Nat.le_refl _) (Nat.lt_succ_self _) hr.1).setR (Nat.le_refl _) (Nat.lt_succ_self _) hr.1).setR (Nat.le_refl _) (Nat.lt_succ_self _) hr.1).setR (Nat.le_refl _) (Nat.lt_succ_self _) hr.1).setR (Nat.le_refl _) (Nat.lt_succ_self _) hr.1).setR (Nat.le_refl _) (Nat.lt_succ_self _) hr.1).setR (Nat.le_refl _) (Nat.lt_succ_self _) hr.1), rfl, rfl⟩

set_option maxHeartbeats 4000000 in
theorem w_told5  (m : Mem)    (hr : mN m + 1 ≤ NN ∧ mZ m + 8 ≤ ZZ) : Ct μL_told 0 [vi 5] m (rq fun x_ m' => (x_ = some (kS 5)) ∧ Kp (mN m) m m' ∧ mN m' = mN m + 1 ∧ mZ m' = mZ m + 8) := by
  refine Ct_of_V rfl (by decide) rfl (Nat.le_of_ble_eq_true rfl) ?_
  show V μL_told 0 m _ 0 [(0, vi 5)] [] m
  refine V_rg (k := 0) (x := 5) rfl fun r_5 => ?_
  refine V_okM fun hM_ => ?_
  refine V_bipush (pc := 0) dL_told_0 (by unfold I32; omega) (by decide) ?_
  refine V_newTv (pc := 2) (N := 8) (mN m) rfl rfl dL_told_2 (by omega) (by omega) (by omega) (by omega) cl_RL_28 ?_
  refine V_dup (pc := 5) dL_told_5 rfl ?_
  refine V_iconst (pc := 6) dL_told_6 (by unfold I32; omega) ?_
  refine V_ldcS (pc := 7) dL_told_7 (i := 0) rfl (by decide) (by decide +kernel) ?_
  skip
  refine V_aastT (pc := 9) dL_told_9 (mT_news (M := m) rfl) (by omega) ((if_neg (kS_ne hM_ (by decide))).trans (StrO.lit (B := 0) (i := 0) hM_ (by decide)).2.1) ?_
  refine V_dup (pc := 10) dL_told_10 rfl ?_
  refine V_iconst (pc := 11) dL_told_11 (by unfold I32; omega) ?_
  refine V_ldcS (pc := 12) dL_told_12 (i := 1) rfl (by decide) (by decide +kernel) ?_
  skip
  refine V_aastT (pc := 14) dL_told_14 (mT_news (M := m) rfl) (by omega) ((if_neg (kS_ne hM_ (by decide))).trans (StrO.lit (B := 0) (i := 1) hM_ (by decide)).2.1) ?_
  refine V_dup (pc := 15) dL_told_15 rfl ?_
  refine V_iconst (pc := 16) dL_told_16 (by unfold I32; omega) ?_
  refine V_ldcS (pc := 17) dL_told_17 (i := 2) rfl (by decide) (by decide +kernel) ?_
  skip
  refine V_aastT (pc := 19) dL_told_19 (mT_news (M := m) rfl) (by omega) ((if_neg (kS_ne hM_ (by decide))).trans (StrO.lit (B := 0) (i := 2) hM_ (by decide)).2.1) ?_
  refine V_dup (pc := 20) dL_told_20 rfl ?_
  refine V_iconst (pc := 21) dL_told_21 (by unfold I32; omega) ?_
  refine V_ldcS (pc := 22) dL_told_22 (i := 3) rfl (by decide) (by decide +kernel) ?_
  skip
  refine V_aastT (pc := 24) dL_told_24 (mT_news (M := m) rfl) (by omega) ((if_neg (kS_ne hM_ (by decide))).trans (StrO.lit (B := 0) (i := 3) hM_ (by decide)).2.1) ?_
  refine V_dup (pc := 25) dL_told_25 rfl ?_
  refine V_iconst (pc := 26) dL_told_26 (by unfold I32; omega) ?_
  refine V_ldcS (pc := 27) dL_told_27 (i := 4) rfl (by decide) (by decide +kernel) ?_
  skip
  refine V_aastT (pc := 29) dL_told_29 (mT_news (M := m) rfl) (by omega) ((if_neg (kS_ne hM_ (by decide))).trans (StrO.lit (B := 0) (i := 4) hM_ (by decide)).2.1) ?_
  refine V_dup (pc := 30) dL_told_30 rfl ?_
  refine V_iconst (pc := 31) dL_told_31 (by unfold I32; omega) ?_
  refine V_ldcS (pc := 32) dL_told_32 (i := 5) rfl (by decide) (by decide +kernel) ?_
  skip
  refine V_aastT (pc := 34) dL_told_34 (mT_news (M := m) rfl) (by omega) ((if_neg (kS_ne hM_ (by decide))).trans (StrO.lit (B := 0) (i := 5) hM_ (by decide)).2.1) ?_
  refine V_dup (pc := 35) dL_told_35 rfl ?_
  refine V_bipush (pc := 36) dL_told_36 (by unfold I32; omega) (by decide) ?_
  refine V_ldcS (pc := 38) dL_told_38 (i := 6) rfl (by decide) (by decide +kernel) ?_
  skip
  refine V_aastT (pc := 40) dL_told_40 (mT_news (M := m) rfl) (by omega) ((if_neg (kS_ne hM_ (by decide))).trans (StrO.lit (B := 0) (i := 6) hM_ (by decide)).2.1) ?_
  refine V_dup (pc := 41) dL_told_41 rfl ?_
  refine V_bipush (pc := 42) dL_told_42 (by unfold I32; omega) (by decide) ?_
  refine V_ldcS (pc := 44) dL_told_44 (i := 7) rfl (by decide) (by decide +kernel) ?_
  skip
  refine V_aastT (pc := 46) dL_told_46 (mT_news (M := m) rfl) (by omega) ((if_neg (kS_ne hM_ (by decide))).trans (StrO.lit (B := 0) (i := 7) hM_ (by decide)).2.1) ?_
  refine V_st (pc := 47) dL_told_47 (ls' := [(1, vr (mN m)), (0, vi 5)]) rfl (Nat.le_of_ble_eq_true rfl) rfl ?_
  refine V_ld (pc := 48) dL_told_48 (v := vr (mN m)) rfl rfl ?_
  refine V_ld (pc := 49) dL_told_49 (v := vi 5) rfl rfl ?_
  refine V_aaldQ (pc := 50) dL_told_50 (q := some (kS 5)) (mT_news (M := m) rfl) (by decide) (by omega) ((mR_setne (M := (setR (setR (setR (setR (setR (setR (setR (newO m 26 8) (mN m) 0 (some (kS 0))) (mN m) 1 (some (kS 1))) (mN m) 2 (some (kS 2))) (mN m) 3 (some (kS 3))) (mN m) 4 (some (kS 4))) (mN m) 5 (some (kS 5))) (mN m) 6 (some (kS 6)))) (by omega)).trans ((mR_setne (M := (setR (setR (setR (setR (setR (setR (newO m 26 8) (mN m) 0 (some (kS 0))) (mN m) 1 (some (kS 1))) (mN m) 2 (some (kS 2))) (mN m) 3 (some (kS 3))) (mN m) 4 (some (kS 4))) (mN m) 5 (some (kS 5)))) (by omega)).trans mR_sets)) ?_
  refine V_retq (pc := 51) dL_told_51 trivial ?_
  exact ⟨rfl, (((((((((Kp.rf.new (Nat.le_refl _) (by omega)).setR (Nat.le_refl _) (Nat.lt_succ_self _) hr.1).setR (Nat.le_refl _) (Nat.lt_succ_self _) hr.1).setR (Nat.le_refl _) (Nat.lt_succ_self _) hr.1).setR (Nat.le_refl _) (Nat.lt_succ_self _) hr.1).setR (Nat.le_refl _) (Nat.lt_succ_self _) hr.1).setR (Nat.le_refl _) (Nat.lt_succ_self _) hr.1).setR (Nat.le_refl _) (Nat.lt_succ_self _) hr.1).setR (Nat.le_refl _) (Nat.lt_succ_self _) hr.1), rfl, rfl⟩

set_option maxHeartbeats 4000000 in
theorem w_told6  (m : Mem)    (hr : mN m + 1 ≤ NN ∧ mZ m + 8 ≤ ZZ) : Ct μL_told 0 [vi 6] m (rq fun x_ m' => (x_ = some (kS 6)) ∧ Kp (mN m) m m' ∧ mN m' = mN m + 1 ∧ mZ m' = mZ m + 8) := by
  refine Ct_of_V rfl (by decide) rfl (Nat.le_of_ble_eq_true rfl) ?_
  show V μL_told 0 m _ 0 [(0, vi 6)] [] m
  refine V_rg (k := 0) (x := 6) rfl fun r_6 => ?_
  refine V_okM fun hM_ => ?_
  refine V_bipush (pc := 0) dL_told_0 (by unfold I32; omega) (by decide) ?_
  refine V_newTv (pc := 2) (N := 8) (mN m) rfl rfl dL_told_2 (by omega) (by omega) (by omega) (by omega) cl_RL_28 ?_
  refine V_dup (pc := 5) dL_told_5 rfl ?_
  refine V_iconst (pc := 6) dL_told_6 (by unfold I32; omega) ?_
  refine V_ldcS (pc := 7) dL_told_7 (i := 0) rfl (by decide) (by decide +kernel) ?_
  skip
  refine V_aastT (pc := 9) dL_told_9 (mT_news (M := m) rfl) (by omega) ((if_neg (kS_ne hM_ (by decide))).trans (StrO.lit (B := 0) (i := 0) hM_ (by decide)).2.1) ?_
  refine V_dup (pc := 10) dL_told_10 rfl ?_
  refine V_iconst (pc := 11) dL_told_11 (by unfold I32; omega) ?_
  refine V_ldcS (pc := 12) dL_told_12 (i := 1) rfl (by decide) (by decide +kernel) ?_
  skip
  refine V_aastT (pc := 14) dL_told_14 (mT_news (M := m) rfl) (by omega) ((if_neg (kS_ne hM_ (by decide))).trans (StrO.lit (B := 0) (i := 1) hM_ (by decide)).2.1) ?_
  refine V_dup (pc := 15) dL_told_15 rfl ?_
  refine V_iconst (pc := 16) dL_told_16 (by unfold I32; omega) ?_
  refine V_ldcS (pc := 17) dL_told_17 (i := 2) rfl (by decide) (by decide +kernel) ?_
  skip
  refine V_aastT (pc := 19) dL_told_19 (mT_news (M := m) rfl) (by omega) ((if_neg (kS_ne hM_ (by decide))).trans (StrO.lit (B := 0) (i := 2) hM_ (by decide)).2.1) ?_
  refine V_dup (pc := 20) dL_told_20 rfl ?_
  refine V_iconst (pc := 21) dL_told_21 (by unfold I32; omega) ?_
  refine V_ldcS (pc := 22) dL_told_22 (i := 3) rfl (by decide) (by decide +kernel) ?_
  skip
  refine V_aastT (pc := 24) dL_told_24 (mT_news (M := m) rfl) (by omega) ((if_neg (kS_ne hM_ (by decide))).trans (StrO.lit (B := 0) (i := 3) hM_ (by decide)).2.1) ?_
  refine V_dup (pc := 25) dL_told_25 rfl ?_
  refine V_iconst (pc := 26) dL_told_26 (by unfold I32; omega) ?_
  refine V_ldcS (pc := 27) dL_told_27 (i := 4) rfl (by decide) (by decide +kernel) ?_
  skip
  refine V_aastT (pc := 29) dL_told_29 (mT_news (M := m) rfl) (by omega) ((if_neg (kS_ne hM_ (by decide))).trans (StrO.lit (B := 0) (i := 4) hM_ (by decide)).2.1) ?_
  refine V_dup (pc := 30) dL_told_30 rfl ?_
  refine V_iconst (pc := 31) dL_told_31 (by unfold I32; omega) ?_
  refine V_ldcS (pc := 32) dL_told_32 (i := 5) rfl (by decide) (by decide +kernel) ?_
  skip
  refine V_aastT (pc := 34) dL_told_34 (mT_news (M := m) rfl) (by omega) ((if_neg (kS_ne hM_ (by decide))).trans (StrO.lit (B := 0) (i := 5) hM_ (by decide)).2.1) ?_
  refine V_dup (pc := 35) dL_told_35 rfl ?_
  refine V_bipush (pc := 36) dL_told_36 (by unfold I32; omega) (by decide) ?_
  refine V_ldcS (pc := 38) dL_told_38 (i := 6) rfl (by decide) (by decide +kernel) ?_
  skip
  refine V_aastT (pc := 40) dL_told_40 (mT_news (M := m) rfl) (by omega) ((if_neg (kS_ne hM_ (by decide))).trans (StrO.lit (B := 0) (i := 6) hM_ (by decide)).2.1) ?_
  refine V_dup (pc := 41) dL_told_41 rfl ?_
  refine V_bipush (pc := 42) dL_told_42 (by unfold I32; omega) (by decide) ?_
  refine V_ldcS (pc := 44) dL_told_44 (i := 7) rfl (by decide) (by decide +kernel) ?_
  skip
  refine V_aastT (pc := 46) dL_told_46 (mT_news (M := m) rfl) (by omega) ((if_neg (kS_ne hM_ (by decide))).trans (StrO.lit (B := 0) (i := 7) hM_ (by decide)).2.1) ?_
  refine V_st (pc := 47) dL_told_47 (ls' := [(1, vr (mN m)), (0, vi 6)]) rfl (Nat.le_of_ble_eq_true rfl) rfl ?_
  refine V_ld (pc := 48) dL_told_48 (v := vr (mN m)) rfl rfl ?_
  refine V_ld (pc := 49) dL_told_49 (v := vi 6) rfl rfl ?_
  refine V_aaldQ (pc := 50) dL_told_50 (q := some (kS 6)) (mT_news (M := m) rfl) (by decide) (by omega) ((mR_setne (M := (setR (setR (setR (setR (setR (setR (setR (newO m 26 8) (mN m) 0 (some (kS 0))) (mN m) 1 (some (kS 1))) (mN m) 2 (some (kS 2))) (mN m) 3 (some (kS 3))) (mN m) 4 (some (kS 4))) (mN m) 5 (some (kS 5))) (mN m) 6 (some (kS 6)))) (by omega)).trans mR_sets) ?_
  refine V_retq (pc := 51) dL_told_51 trivial ?_
  exact ⟨rfl, (((((((((Kp.rf.new (Nat.le_refl _) (by omega)).setR (Nat.le_refl _) (Nat.lt_succ_self _) hr.1).setR (Nat.le_refl _) (Nat.lt_succ_self _) hr.1).setR (Nat.le_refl _) (Nat.lt_succ_self _) hr.1).setR (Nat.le_refl _) (Nat.lt_succ_self _) hr.1).setR (Nat.le_refl _) (Nat.lt_succ_self _) hr.1).setR (Nat.le_refl _) (Nat.lt_succ_self _) hr.1).setR (Nat.le_refl _) (Nat.lt_succ_self _) hr.1).setR (Nat.le_refl _) (Nat.lt_succ_self _) hr.1), rfl, rfl⟩

set_option maxHeartbeats 4000000 in
theorem w_told7  (m : Mem)    (hr : mN m + 1 ≤ NN ∧ mZ m + 8 ≤ ZZ) : Ct μL_told 0 [vi 7] m (rq fun x_ m' => (x_ = some (kS 7)) ∧ Kp (mN m) m m' ∧ mN m' = mN m + 1 ∧ mZ m' = mZ m + 8) := by
  refine Ct_of_V rfl (by decide) rfl (Nat.le_of_ble_eq_true rfl) ?_
  show V μL_told 0 m _ 0 [(0, vi 7)] [] m
  refine V_rg (k := 0) (x := 7) rfl fun r_7 => ?_
  refine V_okM fun hM_ => ?_
  refine V_bipush (pc := 0) dL_told_0 (by unfold I32; omega) (by decide) ?_
  refine V_newTv (pc := 2) (N := 8) (mN m) rfl rfl dL_told_2 (by omega) (by omega) (by omega) (by omega) cl_RL_28 ?_
  refine V_dup (pc := 5) dL_told_5 rfl ?_
  refine V_iconst (pc := 6) dL_told_6 (by unfold I32; omega) ?_
  refine V_ldcS (pc := 7) dL_told_7 (i := 0) rfl (by decide) (by decide +kernel) ?_
  skip
  refine V_aastT (pc := 9) dL_told_9 (mT_news (M := m) rfl) (by omega) ((if_neg (kS_ne hM_ (by decide))).trans (StrO.lit (B := 0) (i := 0) hM_ (by decide)).2.1) ?_
  refine V_dup (pc := 10) dL_told_10 rfl ?_
  refine V_iconst (pc := 11) dL_told_11 (by unfold I32; omega) ?_
  refine V_ldcS (pc := 12) dL_told_12 (i := 1) rfl (by decide) (by decide +kernel) ?_
  skip
  refine V_aastT (pc := 14) dL_told_14 (mT_news (M := m) rfl) (by omega) ((if_neg (kS_ne hM_ (by decide))).trans (StrO.lit (B := 0) (i := 1) hM_ (by decide)).2.1) ?_
  refine V_dup (pc := 15) dL_told_15 rfl ?_
  refine V_iconst (pc := 16) dL_told_16 (by unfold I32; omega) ?_
  refine V_ldcS (pc := 17) dL_told_17 (i := 2) rfl (by decide) (by decide +kernel) ?_
  skip
  refine V_aastT (pc := 19) dL_told_19 (mT_news (M := m) rfl) (by omega) ((if_neg (kS_ne hM_ (by decide))).trans (StrO.lit (B := 0) (i := 2) hM_ (by decide)).2.1) ?_
  refine V_dup (pc := 20) dL_told_20 rfl ?_
  refine V_iconst (pc := 21) dL_told_21 (by unfold I32; omega) ?_
  refine V_ldcS (pc := 22) dL_told_22 (i := 3) rfl (by decide) (by decide +kernel) ?_
  skip
  refine V_aastT (pc := 24) dL_told_24 (mT_news (M := m) rfl) (by omega) ((if_neg (kS_ne hM_ (by decide))).trans (StrO.lit (B := 0) (i := 3) hM_ (by decide)).2.1) ?_
  refine V_dup (pc := 25) dL_told_25 rfl ?_
  refine V_iconst (pc := 26) dL_told_26 (by unfold I32; omega) ?_
  refine V_ldcS (pc := 27) dL_told_27 (i := 4) rfl (by decide) (by decide +kernel) ?_
  skip
  refine V_aastT (pc := 29) dL_told_29 (mT_news (M := m) rfl) (by omega) ((if_neg (kS_ne hM_ (by decide))).trans (StrO.lit (B := 0) (i := 4) hM_ (by decide)).2.1) ?_
  refine V_dup (pc := 30) dL_told_30 rfl ?_
  refine V_iconst (pc := 31) dL_told_31 (by unfold I32; omega) ?_
  refine V_ldcS (pc := 32) dL_told_32 (i := 5) rfl (by decide) (by decide +kernel) ?_
  skip
  refine V_aastT (pc := 34) dL_told_34 (mT_news (M := m) rfl) (by omega) ((if_neg (kS_ne hM_ (by decide))).trans (StrO.lit (B := 0) (i := 5) hM_ (by decide)).2.1) ?_
  refine V_dup (pc := 35) dL_told_35 rfl ?_
  refine V_bipush (pc := 36) dL_told_36 (by unfold I32; omega) (by decide) ?_
  refine V_ldcS (pc := 38) dL_told_38 (i := 6) rfl (by decide) (by decide +kernel) ?_
  skip
  refine V_aastT (pc := 40) dL_told_40 (mT_news (M := m) rfl) (by omega) ((if_neg (kS_ne hM_ (by decide))).trans (StrO.lit (B := 0) (i := 6) hM_ (by decide)).2.1) ?_
  refine V_dup (pc := 41) dL_told_41 rfl ?_
  refine V_bipush (pc := 42) dL_told_42 (by unfold I32; omega) (by decide) ?_
  refine V_ldcS (pc := 44) dL_told_44 (i := 7) rfl (by decide) (by decide +kernel) ?_
  skip
  refine V_aastT (pc := 46) dL_told_46 (mT_news (M := m) rfl) (by omega) ((if_neg (kS_ne hM_ (by decide))).trans (StrO.lit (B := 0) (i := 7) hM_ (by decide)).2.1) ?_
  refine V_st (pc := 47) dL_told_47 (ls' := [(1, vr (mN m)), (0, vi 7)]) rfl (Nat.le_of_ble_eq_true rfl) rfl ?_
  refine V_ld (pc := 48) dL_told_48 (v := vr (mN m)) rfl rfl ?_
  refine V_ld (pc := 49) dL_told_49 (v := vi 7) rfl rfl ?_
  refine V_aaldQ (pc := 50) dL_told_50 (q := some (kS 7)) (mT_news (M := m) rfl) (by decide) (by omega) mR_sets ?_
  refine V_retq (pc := 51) dL_told_51 trivial ?_
  exact ⟨rfl, (((((((((Kp.rf.new (Nat.le_refl _) (by omega)).setR (Nat.le_refl _) (Nat.lt_succ_self _) hr.1).setR (Nat.le_refl _) (Nat.lt_succ_self _) hr.1).setR (Nat.le_refl _) (Nat.lt_succ_self _) hr.1).setR (Nat.le_refl _) (Nat.lt_succ_self _) hr.1).setR (Nat.le_refl _) (Nat.lt_succ_self _) hr.1).setR (Nat.le_refl _) (Nat.lt_succ_self _) hr.1).setR (Nat.le_refl _) (Nat.lt_succ_self _) hr.1).setR (Nat.le_refl _) (Nat.lt_succ_self _) hr.1), rfl, rfl⟩

/-- the law's rows, one behind the other -/
def RwX (m : Mem) (o n : Nat) (v : Nat → Nat → Int) : Prop := mT m o = (25, n) ∧ n ≤ 7 ∧ o + n < mN m ∧ ∀ r, r < n → mR m o r = some (o + 1 + r) ∧ mT m (o + 1 + r) = (20, 2) ∧ (mI m (o + 1 + r) 0 = v r 0 ∧ mI m (o + 1 + r) 1 = v r 1) ∧ (-10 ≤ v r 0 ∧ v r 0 ≤ 1000) ∧ -10 ≤ v r 1 ∧ v r 1 ≤ 1000
theorem RwX.rwo {m : Mem} {o n : Nat} {v : Nat → Nat → Int} (h : RwX m o n v) : RwO m o n v := ⟨h.1, h.2.1, fun r hr => ⟨_, h.2.2.2 r hr⟩⟩
theorem RwX.fr {m m' : Mem} {o n : Nat} {v : Nat → Nat → Int} (h : RwX m o n v) (hN : mN m ≤ mN m') (hk : ∀ q, o ≤ q → q ≤ o + n → mT m' q = mT m q ∧ (∀ k, mI m' q k = mI m q k) ∧ ∀ k, mR m' q k = mR m q k) : RwX m' o n v := by
  refine ⟨(hk o (Nat.le_refl _) (Nat.le_add_right _ _)).1.trans h.1, h.2.1, by have := h.2.2.1; omega, fun r hr => ?_⟩
  obtain ⟨h1, h2, h3, h4⟩ := h.2.2.2 r hr
  have k1 := hk o (Nat.le_refl _) (Nat.le_add_right _ _)
  have k2 := hk (o + 1 + r) (by omega) (by omega)
  exact ⟨(k1.2.2 r).trans h1, k2.1.trans h2, ⟨(k2.2.1 0).trans h3.1, (k2.2.1 1).trans h3.2⟩, h4⟩
theorem RwX.kp {m m' : Mem} {o n b : Nat} {v : Nat → Nat → Int} (h : RwX m o n v) (hN : mN m ≤ mN m') (hk : Kp b m m') (hb : mN m ≤ b) : RwX m' o n v :=
  h.fr hN fun q _ h2 => hk q (Or.inl (by have := h.2.2.1; omega))
/-- while they are made -/
def RwI (m0 m : Mem) (n r : Nat) (v : Nat → Nat → Int) : Prop := Kp (mN m0) m0 m ∧ mN m = mN m0 + 1 + r ∧ mZ m = mZ m0 + n + 2 * r ∧ mT m (mN m0) = (25, n) ∧ ∀ k, k < r → mR m (mN m0) k = some (mN m0 + 1 + k) ∧ mT m (mN m0 + 1 + k) = (20, 2) ∧ (mI m (mN m0 + 1 + k) 0 = v k 0 ∧ mI m (mN m0 + 1 + k) 1 = v k 1) ∧ (-10 ≤ v k 0 ∧ v k 0 ≤ 1000) ∧ -10 ≤ v k 1 ∧ v k 1 ≤ 1000
def RwV (v : Nat → Nat → Int) (r : Nat) (X Y : Int) : Nat → Nat → Int := fun k c => if k = r then (if c = 0 then X else Y) else v k c
theorem RwV_0 {v : Nat → Nat → Int} {r : Nat} {X Y : Int} : RwV v r X Y r 0 = X := (if_pos rfl).trans (if_pos rfl)
theorem RwV_1 {v : Nat → Nat → Int} {r : Nat} {X Y : Int} : RwV v r X Y r 1 = Y := (if_pos rfl).trans (if_neg (by decide))
theorem RwV_ne {v : Nat → Nat → Int} {r k c : Nat} {X Y : Int} (h : ¬ k = r) : RwV v r X Y k c = v k c := if_neg h
theorem RwI.step {m0 m : Mem} {n r : Nat} {v : Nat → Nat → Int} (h : RwI m0 m n r v) {X Y : Int} (hX : -10 ≤ X ∧ X ≤ 1000) (hY : -10 ≤ Y ∧ Y ≤ 1000) (hN : mN m + 1 ≤ NN) : RwI m0 (_root_.Jvm.Pilot.@@N@@.setR (_root_.Jvm.Pilot.@@N@@.setI (_root_.Jvm.Pilot.@@N@@.setI (newO m 20 2) (mN m) 0 X) (mN m) 1 Y) (mN m0) r (some (mN m))) n (r + 1) (RwV v r X Y) := by
  obtain ⟨h1, h2, h3, h4, h5⟩ := h
  have hb : mN m0 ≤ mN m := by omega
  refine ⟨(((h1.new hb (by omega)).setI hb (Nat.lt_succ_self _) hN).setI hb (Nat.lt_succ_self _) hN).setR (Nat.le_refl _) (show mN m0 < mN m + 1 by omega) hN, by show mN m + 1 = _; omega, by show mZ m + 2 = _; omega, ?_, fun k hk => ?_⟩
  · show mT (newO m 20 2) (mN m0) = _
    rw [mT_newN (by omega)]; exact h4
  · have eT : ∀ q, q ≠ mN m → mT (_root_.Jvm.Pilot.@@N@@.setR (_root_.Jvm.Pilot.@@N@@.setI (_root_.Jvm.Pilot.@@N@@.setI (newO m 20 2) (mN m) 0 X) (mN m) 1 Y) (mN m0) r (some (mN m))) q = mT m q := fun q hq => mT_newN hq
    have eI : ∀ q c, q ≠ mN m → mI (_root_.Jvm.Pilot.@@N@@.setR (_root_.Jvm.Pilot.@@N@@.setI (_root_.Jvm.Pilot.@@N@@.setI (newO m 20 2) (mN m) 0 X) (mN m) 1 Y) (mN m0) r (some (mN m))) q c = mI m q c := fun q c hq => (if_neg (fun e => hq e.1)).trans ((if_neg (fun e => hq e.1)).trans (mI_newN hq))
    by_cases c : k = r
    · subst c
      refine ⟨(if_pos ⟨rfl, rfl⟩).trans (by rw [h2]), ?_, ⟨?_, ?_⟩, ?_⟩
      · rw [← h2]; exact if_pos rfl
      · rw [← h2, RwV_0]
        exact (if_neg (fun e => by have := e.2; omega)).trans (if_pos ⟨rfl, rfl⟩)
      · rw [← h2, RwV_1]
        exact if_pos ⟨rfl, rfl⟩
      · rw [RwV_0, RwV_1]
        exact ⟨hX, hY⟩
    · obtain ⟨k1, k2, k3, k4⟩ := h5 k (by omega)
      have ne : mN m0 + 1 + k ≠ mN m := by omega
      refine ⟨?_, (eT _ ne).trans k2, ⟨?_, ?_⟩, ?_⟩
      · refine (if_neg (fun e => c e.2)).trans ?_
        exact (if_neg (show ¬ mN m0 = mN m by omega)).trans k1
      · rw [eI _ _ ne, RwV_ne c]; exact k3.1
      · rw [eI _ _ ne, RwV_ne c]; exact k3.2
      · rw [RwV_ne c, RwV_ne c]
        exact k4
set_option maxHeartbeats 4000000 in
theorem L_rowsL {F : Nat} {m0 : Mem} {n : Nat} {at_ : Int} {post : Option AV → Mem → Prop} (hn : n ≤ 7) (ha : 0 ≤ at_ ∧ at_ ≤ 100) (hr : mN m0 + 1 + n ≤ NN ∧ mZ m0 + 3 * n ≤ ZZ) (kx : ∀ m v, RwI m0 m n n v → V μL_rows (F + 2) m0 post 101 [(4, vi ((n : Nat) : Int)), (3, vr (mN m0)), (0, vr SC), (1, vi at_), (2, vi ((n : Nat) : Int))] [] m) : ∀ (dd : Nat) (m : Mem) (v : Nat → Nat → Int) (i : Nat), dd + i = n → RwI m0 m n i v → V μL_rows (F + 2) m0 post 8 [(4, vi ((i : Nat) : Int)), (3, vr (mN m0)), (0, vr SC), (1, vi at_), (2, vi ((n : Nat) : Int))] [] m := by
  intro dd
  induction dd with
  | zero =>
    intro m v i hi hI
    obtain rfl : n = i := by omega
    refine V_ld (pc := 8) dL_rows_8 (v := vi ((n : Nat) : Int)) rfl rfl ?_
    refine V_ld (pc := 10) dL_rows_10 (v := vi ((n : Nat) : Int)) rfl rfl ?_
    refine V_icmp_ge (pc := 11) dL_rows_11 (tgt := 101) rfl (fun h11 => ?_) (fun h11 => ?_)
    · skip
      exact kx m v hI
    · skip
      exfalso; omega
  | succ dd ih =>
    intro m v i hi hI
    have e2_ := hI.2.1
    have e3_ := hI.2.2.1
    refine V_ld (pc := 8) dL_rows_8 (v := vi ((i : Nat) : Int)) rfl rfl ?_
    refine V_ld (pc := 10) dL_rows_10 (v := vi ((n : Nat) : Int)) rfl rfl ?_
    refine V_icmp_ge (pc := 11) dL_rows_11 (tgt := 101) rfl (fun h11 => ?_) (fun h11 => ?_)
    · skip
      exfalso; omega
    · skip
      refine V_ld (pc := 14) dL_rows_14 (v := vi at_) rfl rfl ?_
      refine V_iconst (pc := 15) dL_rows_15 (by unfold I32; omega) ?_
      refine V_ld (pc := 16) dL_rows_16 (v := vi ((i : Nat) : Int)) rfl rfl ?_
      refine V_imul (pc := 18) dL_rows_18 (by unfold I32 at *; omega) ?_
      refine V_iadd (pc := 19) dL_rows_19 (by unfold I32 at *; omega) ?_
      refine V_st (pc := 20) dL_rows_20 (ls' := [(5, vi (at_ + (4 * ((i : Nat) : Int)))), (4, vi ((i : Nat) : Int)), (3, vr (mN m0)), (0, vr SC), (1, vi at_), (2, vi ((n : Nat) : Int))]) rfl (Nat.le_of_ble_eq_true rfl) rfl ?_
      refine V_ld (pc := 22) dL_rows_22 (v := vr (mN m0)) rfl rfl ?_
      refine V_ld (pc := 23) dL_rows_23 (v := vi ((i : Nat) : Int)) rfl rfl ?_
      refine V_iconst (pc := 25) dL_rows_25 (by unfold I32; omega) ?_
      refine V_newIv (pc := 26) (N := 2) (mN m) rfl rfl dL_rows_26 (by omega) (by omega) (by omega) (by omega) wa_int ?_
      refine V_dup (pc := 28) dL_rows_28 rfl ?_
      refine V_iconst (pc := 29) dL_rows_29 (by unfold I32; omega) ?_
      refine V_ld (pc := 30) dL_rows_30 (v := vr SC) rfl rfl ?_
      refine V_ld (pc := 31) dL_rows_31 (v := vi (at_ + (4 * ((i : Nat) : Int)))) rfl rfl ?_
      refine V_bipush (pc := 33) dL_rows_33 (by unfold I32; omega) (by decide) ?_
      refine V_callS (pc := 35) dL_rows_35 (F' := 1) (As := [vr SC, vi (at_ + (4 * ((i : Nat) : Int))), vi 8]) (st := [vi 0, vr (mN m), vr (mN m), vi ((i : Nat) : Int), vr (mN m0)]) cw_RL_17 rfl rfl (Nat.le_of_ble_eq_true rfl) (by omega) (w_pick  (newO m 20 2) (at_ + (4 * ((i : Nat) : Int))) 8   (by omega)) ?_
      rintro _ _ ⟨x35, rfl, hx35, rfl⟩ ok35 le35
      refine V_if_ne (pc := 38) dL_rows_38 (tgt := 47) rfl (fun h38 => ?_) (fun h38 => ?_)
      · skip
        refine V_ld (pc := 47) dL_rows_47 (v := vr SC) rfl rfl ?_
        refine V_ld (pc := 48) dL_rows_48 (v := vi (at_ + (4 * ((i : Nat) : Int)))) rfl rfl ?_
        refine V_iconst (pc := 50) dL_rows_50 (by unfold I32; omega) ?_
        refine V_iadd (pc := 51) dL_rows_51 (by unfold I32 at *; omega) ?_
        refine V_bipush (pc := 52) dL_rows_52 (by unfold I32; omega) (by decide) ?_
        refine V_callS (pc := 54) dL_rows_54 (F' := 1) (As := [vr SC, vi ((at_ + (4 * ((i : Nat) : Int))) + 1), vi 13]) (st := [vi 0, vr (mN m), vr (mN m), vi ((i : Nat) : Int), vr (mN m0)]) cw_RL_17 rfl rfl (Nat.le_of_ble_eq_true rfl) (by omega) (w_pick  (newO m 20 2) ((at_ + (4 * ((i : Nat) : Int))) + 1) 13   (by omega)) ?_
        rintro _ _ ⟨x54, rfl, hx54, rfl⟩ ok54 le54
        refine V_iconst (pc := 57) dL_rows_57 (by unfold I32; omega) ?_
        refine V_isub (pc := 58) dL_rows_58 (by unfold I32 at *; omega) ?_
        refine V_iast (pc := 59) dL_rows_59 (mT_news (M := m) rfl) (by omega) ?_
        refine V_dup (pc := 60) dL_rows_60 rfl ?_
        refine V_iconst (pc := 61) dL_rows_61 (by unfold I32; omega) ?_
        refine V_ld (pc := 62) dL_rows_62 (v := vr SC) rfl rfl ?_
        refine V_ld (pc := 63) dL_rows_63 (v := vi (at_ + (4 * ((i : Nat) : Int)))) rfl rfl ?_
        refine V_iconst (pc := 65) dL_rows_65 (by unfold I32; omega) ?_
        refine V_iadd (pc := 66) dL_rows_66 (by unfold I32 at *; omega) ?_
        refine V_bipush (pc := 67) dL_rows_67 (by unfold I32; omega) (by decide) ?_
        refine V_callS (pc := 69) dL_rows_69 (F' := 1) (As := [vr SC, vi ((at_ + (4 * ((i : Nat) : Int))) + 2), vi 8]) (st := [vi 1, vr (mN m), vr (mN m), vi ((i : Nat) : Int), vr (mN m0)]) cw_RL_17 rfl rfl (Nat.le_of_ble_eq_true rfl) (by omega) (w_pick  (setI (newO m 20 2) (mN m) 0 (x54 - 3)) ((at_ + (4 * ((i : Nat) : Int))) + 2) 8   (by omega)) ?_
        rintro _ _ ⟨x69, rfl, hx69, rfl⟩ ok69 le69
        refine V_if_ne (pc := 72) dL_rows_72 (tgt := 81) rfl (fun h72 => ?_) (fun h72 => ?_)
        · skip
          refine V_ld (pc := 81) dL_rows_81 (v := vr SC) rfl rfl ?_
          refine V_ld (pc := 82) dL_rows_82 (v := vi (at_ + (4 * ((i : Nat) : Int)))) rfl rfl ?_
          refine V_iconst (pc := 84) dL_rows_84 (by unfold I32; omega) ?_
          refine V_iadd (pc := 85) dL_rows_85 (by unfold I32 at *; omega) ?_
          refine V_bipush (pc := 86) dL_rows_86 (by unfold I32; omega) (by decide) ?_
          refine V_callS (pc := 88) dL_rows_88 (F' := 1) (As := [vr SC, vi ((at_ + (4 * ((i : Nat) : Int))) + 3), vi 13]) (st := [vi 1, vr (mN m), vr (mN m), vi ((i : Nat) : Int), vr (mN m0)]) cw_RL_17 rfl rfl (Nat.le_of_ble_eq_true rfl) (by omega) (w_pick  (setI (newO m 20 2) (mN m) 0 (x54 - 3)) ((at_ + (4 * ((i : Nat) : Int))) + 3) 13   (by omega)) ?_
          rintro _ _ ⟨x88, rfl, hx88, rfl⟩ ok88 le88
          refine V_iconst (pc := 91) dL_rows_91 (by unfold I32; omega) ?_
          refine V_isub (pc := 92) dL_rows_92 (by unfold I32 at *; omega) ?_
          refine V_iast (pc := 93) dL_rows_93 (mT_news (M := m) rfl) (by omega) ?_
          refine V_aastA (pc := 94) dL_rows_94 ((mT_newne (M := m) (c := 20) (n := 2) (o := (mN m0)) (mN m) rfl (by omega)).trans hI.2.2.2.1) (by omega) (mT_news (M := m) rfl) ?_
          refine V_iinc (pc := 95) dL_rows_95 (x := ((i : Nat) : Int)) (ls' := [(4, vi (((i : Nat) : Int) + 1)), (5, vi (at_ + (4 * ((i : Nat) : Int)))), (3, vr (mN m0)), (0, vr SC), (1, vi at_), (2, vi ((n : Nat) : Int))]) rfl (by unfold I32 at *; omega) (Nat.le_of_ble_eq_true rfl) rfl ?_
          refine V_goto (pc := 98) dL_rows_98 (tgt := 8) rfl ?_
          refine V_ls (ls' := [(4, vi (((i : Nat) : Int) + 1)), (3, vr (mN m0)), (0, vr SC), (1, vi at_), (2, vi ((n : Nat) : Int))]) (by intro q_ h_; simp only [List.mem_cons, List.not_mem_nil, or_false] at h_ ⊢; rcases h_ with rfl | rfl | rfl | rfl | rfl <;> simp) ?_
          have h_ := ih _ _ (i + 1) (by omega) (hI.step (X := x54 - 3) (Y := x88 - 5) (by omega) (by omega) (by omega))
          rw [show ((i + 1 : Nat) : Int) = (i : Int) + 1 by omega] at h_
          rw [Int.toNat_natCast]
          exact h_
        · skip
          refine V_sipush (pc := 75) dL_rows_75 (by unfold I32; omega) (by decide) ?_
          refine V_goto (pc := 78) dL_rows_78 (tgt := 93) rfl ?_
          refine V_iast (pc := 93) dL_rows_93 (mT_news (M := m) rfl) (by omega) ?_
          refine V_aastA (pc := 94) dL_rows_94 ((mT_newne (M := m) (c := 20) (n := 2) (o := (mN m0)) (mN m) rfl (by omega)).trans hI.2.2.2.1) (by omega) (mT_news (M := m) rfl) ?_
          refine V_iinc (pc := 95) dL_rows_95 (x := ((i : Nat) : Int)) (ls' := [(4, vi (((i : Nat) : Int) + 1)), (5, vi (at_ + (4 * ((i : Nat) : Int)))), (3, vr (mN m0)), (0, vr SC), (1, vi at_), (2, vi ((n : Nat) : Int))]) rfl (by unfold I32 at *; omega) (Nat.le_of_ble_eq_true rfl) rfl ?_
          refine V_goto (pc := 98) dL_rows_98 (tgt := 8) rfl ?_
          refine V_ls (ls' := [(4, vi (((i : Nat) : Int) + 1)), (3, vr (mN m0)), (0, vr SC), (1, vi at_), (2, vi ((n : Nat) : Int))]) (by intro q_ h_; simp only [List.mem_cons, List.not_mem_nil, or_false] at h_ ⊢; rcases h_ with rfl | rfl | rfl | rfl | rfl <;> simp) ?_
          have h_ := ih _ _ (i + 1) (by omega) (hI.step (X := x54 - 3) (Y := 1000) (by omega) (by omega) (by omega))
          rw [show ((i + 1 : Nat) : Int) = (i : Int) + 1 by omega] at h_
          rw [Int.toNat_natCast]
          exact h_
      · skip
        refine V_sipush (pc := 41) dL_rows_41 (by unfold I32; omega) (by decide) ?_
        refine V_goto (pc := 44) dL_rows_44 (tgt := 59) rfl ?_
        refine V_iast (pc := 59) dL_rows_59 (mT_news (M := m) rfl) (by omega) ?_
        refine V_dup (pc := 60) dL_rows_60 rfl ?_
        refine V_iconst (pc := 61) dL_rows_61 (by unfold I32; omega) ?_
        refine V_ld (pc := 62) dL_rows_62 (v := vr SC) rfl rfl ?_
        refine V_ld (pc := 63) dL_rows_63 (v := vi (at_ + (4 * ((i : Nat) : Int)))) rfl rfl ?_
        refine V_iconst (pc := 65) dL_rows_65 (by unfold I32; omega) ?_
        refine V_iadd (pc := 66) dL_rows_66 (by unfold I32 at *; omega) ?_
        refine V_bipush (pc := 67) dL_rows_67 (by unfold I32; omega) (by decide) ?_
        refine V_callS (pc := 69) dL_rows_69 (F' := 1) (As := [vr SC, vi ((at_ + (4 * ((i : Nat) : Int))) + 2), vi 8]) (st := [vi 1, vr (mN m), vr (mN m), vi ((i : Nat) : Int), vr (mN m0)]) cw_RL_17 rfl rfl (Nat.le_of_ble_eq_true rfl) (by omega) (w_pick  (setI (newO m 20 2) (mN m) 0 1000) ((at_ + (4 * ((i : Nat) : Int))) + 2) 8   (by omega)) ?_
        rintro _ _ ⟨x69, rfl, hx69, rfl⟩ ok69 le69
        refine V_if_ne (pc := 72) dL_rows_72 (tgt := 81) rfl (fun h72 => ?_) (fun h72 => ?_)
        · skip
          refine V_ld (pc := 81) dL_rows_81 (v := vr SC) rfl rfl ?_
          refine V_ld (pc := 82) dL_rows_82 (v := vi (at_ + (4 * ((i : Nat) : Int)))) rfl rfl ?_
          refine V_iconst (pc := 84) dL_rows_84 (by unfold I32; omega) ?_
          refine V_iadd (pc := 85) dL_rows_85 (by unfold I32 at *; omega) ?_
          refine V_bipush (pc := 86) dL_rows_86 (by unfold I32; omega) (by decide) ?_
          refine V_callS (pc := 88) dL_rows_88 (F' := 1) (As := [vr SC, vi ((at_ + (4 * ((i : Nat) : Int))) + 3), vi 13]) (st := [vi 1, vr (mN m), vr (mN m), vi ((i : Nat) : Int), vr (mN m0)]) cw_RL_17 rfl rfl (Nat.le_of_ble_eq_true rfl) (by omega) (w_pick  (setI (newO m 20 2) (mN m) 0 1000) ((at_ + (4 * ((i : Nat) : Int))) + 3) 13   (by omega)) ?_
          rintro _ _ ⟨x88, rfl, hx88, rfl⟩ ok88 le88
          refine V_iconst (pc := 91) dL_rows_91 (by unfold I32; omega) ?_
          refine V_isub (pc := 92) dL_rows_92 (by unfold I32 at *; omega) ?_
          refine V_iast (pc := 93) dL_rows_93 (mT_news (M := m) rfl) (by omega) ?_
          refine V_aastA (pc := 94) dL_rows_94 ((mT_newne (M := m) (c := 20) (n := 2) (o := (mN m0)) (mN m) rfl (by omega)).trans hI.2.2.2.1) (by omega) (mT_news (M := m) rfl) ?_
          refine V_iinc (pc := 95) dL_rows_95 (x := ((i : Nat) : Int)) (ls' := [(4, vi (((i : Nat) : Int) + 1)), (5, vi (at_ + (4 * ((i : Nat) : Int)))), (3, vr (mN m0)), (0, vr SC), (1, vi at_), (2, vi ((n : Nat) : Int))]) rfl (by unfold I32 at *; omega) (Nat.le_of_ble_eq_true rfl) rfl ?_
          refine V_goto (pc := 98) dL_rows_98 (tgt := 8) rfl ?_
          refine V_ls (ls' := [(4, vi (((i : Nat) : Int) + 1)), (3, vr (mN m0)), (0, vr SC), (1, vi at_), (2, vi ((n : Nat) : Int))]) (by intro q_ h_; simp only [List.mem_cons, List.not_mem_nil, or_false] at h_ ⊢; rcases h_ with rfl | rfl | rfl | rfl | rfl <;> simp) ?_
          have h_ := ih _ _ (i + 1) (by omega) (hI.step (X := 1000) (Y := x88 - 5) (by omega) (by omega) (by omega))
          rw [show ((i + 1 : Nat) : Int) = (i : Int) + 1 by omega] at h_
          rw [Int.toNat_natCast]
          exact h_
        · skip
          refine V_sipush (pc := 75) dL_rows_75 (by unfold I32; omega) (by decide) ?_
          refine V_goto (pc := 78) dL_rows_78 (tgt := 93) rfl ?_
          refine V_iast (pc := 93) dL_rows_93 (mT_news (M := m) rfl) (by omega) ?_
          refine V_aastA (pc := 94) dL_rows_94 ((mT_newne (M := m) (c := 20) (n := 2) (o := (mN m0)) (mN m) rfl (by omega)).trans hI.2.2.2.1) (by omega) (mT_news (M := m) rfl) ?_
          refine V_iinc (pc := 95) dL_rows_95 (x := ((i : Nat) : Int)) (ls' := [(4, vi (((i : Nat) : Int) + 1)), (5, vi (at_ + (4 * ((i : Nat) : Int)))), (3, vr (mN m0)), (0, vr SC), (1, vi at_), (2, vi ((n : Nat) : Int))]) rfl (by unfold I32 at *; omega) (Nat.le_of_ble_eq_true rfl) rfl ?_
          refine V_goto (pc := 98) dL_rows_98 (tgt := 8) rfl ?_
          refine V_ls (ls' := [(4, vi (((i : Nat) : Int) + 1)), (3, vr (mN m0)), (0, vr SC), (1, vi at_), (2, vi ((n : Nat) : Int))]) (by intro q_ h_; simp only [List.mem_cons, List.not_mem_nil, or_false] at h_ ⊢; rcases h_ with rfl | rfl | rfl | rfl | rfl <;> simp) ?_
          have h_ := ih _ _ (i + 1) (by omega) (hI.step (X := 1000) (Y := 1000) (by omega) (by omega) (by omega))
          rw [show ((i + 1 : Nat) : Int) = (i : Int) + 1 by omega] at h_
          rw [Int.toNat_natCast]
          exact h_

set_option maxHeartbeats 4000000 in
theorem w_rows (n : Nat) (m : Mem) (a : Int)   (hn : n ≤ 7) (ha : 0 ≤ a ∧ a ≤ 100) (hr : mN m + 1 + n ≤ NN ∧ mZ m + 3 * n ≤ ZZ) : Ct μL_rows 2 [vr SC, vi a, vi ((n : Nat) : Int)] m (rq fun x_ m' => (x_ = some (mN m)) ∧ (∃ v, RwI m m' n n v)) := by
  refine Ct_of_V rfl (by decide) rfl (Nat.le_of_ble_eq_true rfl) ?_
  show V μL_rows 2 m _ 0 [(0, vr SC), (1, vi a), (2, vi ((n : Nat) : Int))] [] m
  refine V_ld (pc := 0) dL_rows_0 (v := vi ((n : Nat) : Int)) rfl rfl ?_
  refine V_newAv (pc := 1) (N := n) (mN m) rfl (by omega) dL_rows_1 (by omega) (by omega) (by omega) (by omega) cl_RL_15 ?_
  refine V_st (pc := 4) dL_rows_4 (ls' := [(3, vr (mN m)), (0, vr SC), (1, vi a), (2, vi ((n : Nat) : Int))]) rfl (Nat.le_of_ble_eq_true rfl) rfl ?_
  refine V_iconst (pc := 5) dL_rows_5 (by unfold I32; omega) ?_
  refine V_st (pc := 6) dL_rows_6 (ls' := [(4, vi 0), (3, vr (mN m)), (0, vr SC), (1, vi a), (2, vi ((n : Nat) : Int))]) rfl (Nat.le_of_ble_eq_true rfl) rfl ?_
  skip
  refine L_rowsL (F := 0) (m0 := m) hn ha hr (fun m' v hI => ?_) n _ (fun _ _ => 0) 0 (by omega) ⟨Kp.rf.new (Nat.le_refl _) (by omega), rfl, rfl, if_pos rfl, fun k hk => absurd hk (Nat.not_lt_zero _)⟩
  refine V_ld (pc := 101) dL_rows_101 (v := vr (mN m)) rfl rfl ?_
  refine V_retq (pc := 102) dL_rows_102 trivial ?_
  exact ⟨rfl, v, hI⟩

