/-! a new situation: the class -/
set_option maxHeartbeats 4000000 in
theorem c_Table_init  (m : Mem) (t : Nat)   (T_t : mT m t = (8, 2)) (hp : t < mN m ∧ mN m + 1 ≤ NN ∧ mZ m + 64 ≤ ZZ) : Ct μX8_init 1 [vr t] m (rv fun m' => setR (newO m 20 64) t 0 (some (mN m)) = m') := by
  refine Ct_of_V rfl (by decide) rfl (Nat.le_of_ble_eq_true rfl) ?_
  show V μX8_init 1 m _ 0 [(0, vr t)] [] m
  refine V_ld (pc := 0) dX8_init_0 (v := vr t) rfl rfl ?_
  refine V_objInit (pc := 1) dX8_init_1 oi_RX8_3 wo_i wo_c (by omega) (Nat.le_of_ble_eq_true rfl) ?_
  refine V_ld (pc := 4) dX8_init_4 (v := vr t) rfl rfl ?_
  refine V_bipush (pc := 5) dX8_init_5 (by unfold I32; omega) (by decide) ?_
  refine V_newIv (pc := 7) (N := 64) (mN m) rfl rfl dX8_init_7 (by omega) (by show mZ m + 64 ≤ ZZ; omega) (by omega) (by omega) wa_int ?_
  refine V_putR (pc := 9) dX8_init_9 fw_RX8_9 rfl ((mT_newne (M := m) (c := 20) (n := 64) (o := t) (mN m) rfl (by omega)).trans T_t) (Or.inr ⟨rfl, rfl⟩) (fun o_ h_ => by cases h_; (try unfold NN at *); unfold SC; omega) ?_
  refine V_retv (pc := 12) dX8_init_12 trivial ?_
  first | exact ⟨rfl, rfl⟩ | exact rfl

set_option maxHeartbeats 4000000 in
theorem c_Mat_init  (m : Mem) (M : Nat)   (T_M : mT m M = (3, 4)) (hp : M < mN m ∧ mN m + 3 ≤ NN ∧ mZ m + 1122 ≤ ZZ) : Ct μX3_init 1 [vr M] m (rv fun m' => setR (newO (setR (newO (setR (newO m 20 33) M 0 (some (mN m))) 20 33) M 1 (some (mN m + 1))) 20 1056) M 2 (some (mN m + 2)) = m') := by
  refine Ct_of_V rfl (by decide) rfl (Nat.le_of_ble_eq_true rfl) ?_
  show V μX3_init 1 m _ 0 [(0, vr M)] [] m
  refine V_ld (pc := 0) dX3_init_0 (v := vr M) rfl rfl ?_
  refine V_objInit (pc := 1) dX3_init_1 oi_RX3_3 wo_i wo_c (by omega) (Nat.le_of_ble_eq_true rfl) ?_
  refine V_ld (pc := 4) dX3_init_4 (v := vr M) rfl rfl ?_
  refine V_bipush (pc := 5) dX3_init_5 (by unfold I32; omega) (by decide) ?_
  refine V_newIv (pc := 7) (N := 33) (mN m) rfl rfl dX3_init_7 (by omega) (by show mZ m + 33 ≤ ZZ; omega) (by omega) (by omega) wa_int ?_
  refine V_putR (pc := 9) dX3_init_9 fw_RX3_11 rfl ((mT_newne (M := m) (c := 20) (n := 33) (o := M) (mN m) rfl (by omega)).trans T_M) (Or.inr ⟨rfl, rfl⟩) (fun o_ h_ => by cases h_; (try unfold NN at *); unfold SC; omega) ?_
  refine V_ld (pc := 12) dX3_init_12 (v := vr M) rfl rfl ?_
  refine V_bipush (pc := 13) dX3_init_13 (by unfold I32; omega) (by decide) ?_
  refine V_newIv (pc := 15) (N := 33) (mN m + 1) rfl rfl dX3_init_15 (by omega) (by show mZ m + 33 + 33 ≤ ZZ; omega) (by omega) (by omega) wa_int ?_
  refine V_putR (pc := 17) dX3_init_17 fw_RX3_15 rfl ((mT_newne (M := (setR (newO m 20 33) M 0 (some (mN m)))) (c := 20) (n := 33) (o := M) (mN m + 1) rfl (by omega)).trans ((mT_newne (M := m) (c := 20) (n := 33) (o := M) (mN m) rfl (by omega)).trans T_M)) (Or.inr ⟨rfl, rfl⟩) (fun o_ h_ => by cases h_; (try unfold NN at *); unfold SC; omega) ?_
  refine V_ld (pc := 20) dX3_init_20 (v := vr M) rfl rfl ?_
  refine V_sipush (pc := 21) dX3_init_21 (by unfold I32; omega) (by decide) ?_
  refine V_newIv (pc := 24) (N := 1056) (mN m + 2) rfl rfl dX3_init_24 (by omega) (by show mZ m + 33 + 33 + 1056 ≤ ZZ; omega) (by omega) (by omega) wa_int ?_
  refine V_putR (pc := 26) dX3_init_26 fw_RX3_18 rfl ((mT_newne (M := (setR (newO (setR (newO m 20 33) M 0 (some (mN m))) 20 33) M 1 (some (mN m + 1)))) (c := 20) (n := 1056) (o := M) (mN m + 2) rfl (by omega)).trans ((mT_newne (M := (setR (newO m 20 33) M 0 (some (mN m)))) (c := 20) (n := 33) (o := M) (mN m + 1) rfl (by omega)).trans ((mT_newne (M := m) (c := 20) (n := 33) (o := M) (mN m) rfl (by omega)).trans T_M))) (Or.inr ⟨rfl, rfl⟩) (fun o_ h_ => by cases h_; (try unfold NN at *); unfold SC; omega) ?_
  refine V_retv (pc := 29) dX3_init_29 trivial ?_
  first | exact ⟨rfl, rfl⟩ | exact rfl

theorem mI_newO {M : Mem} {c n o k : Nat} : mI (newO M c n) o k = if o = mN M then 0 else mI M o k := rfl
theorem mR_newO {M : Mem} {c n o k : Nat} : mR (newO M c n) o k = if o = mN M then none else mR M o k := rfl
theorem mT_newO {M : Mem} {c n o : Nat} : mT (newO M c n) o = if o = mN M then (c, n) else mT M o := rfl
theorem mN_newO {M : Mem} {c n : Nat} : mN (newO M c n) = mN M + 1 := rfl
theorem mZ_newOs {M : Mem} {c n : Nat} : mZ (newO M c n) = mZ M + n := rfl
theorem mZ_setRs {M : Mem} {o k : Nat} {v : Option Nat} : mZ (setR M o k v) = mZ M := rfl
theorem mZ_setIs {M : Mem} {o k : Nat} {v : Int} : mZ (setI M o k v) = mZ M := rfl
