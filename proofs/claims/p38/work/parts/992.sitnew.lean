/-! a new situation: the class -/
theorem mR_sRif {M : Mem} {o k : Nat} {v : Option Nat} {o' k' : Nat} : mR (setR M o k v) o' k' = if o' = o ∧ k' = k then v else mR M o' k' := rfl
def sitE (m : Mem) (S : Nat) : Mem := setR (newO (setR (newO (setR (newO (newO (setR (newO (setR (setR (newO (newO m 8 2) 20 64) (mN m) 0 (some (mN (newO m 8 2)))) S 0 (some (mN m))) 23 26) S 1 (some (mN m + 2))) 3 4) 20 33) (mN m + 3) 0 (some (mN (newO (setR (newO (setR (setR (newO (newO m 8 2) 20 64) (mN m) 0 (some (mN (newO m 8 2)))) S 0 (some (mN m))) 23 26) S 1 (some (mN m + 2))) 3 4)))) 20 33) (mN m + 3) 1 (some (mN (newO (setR (newO (setR (setR (newO (newO m 8 2) 20 64) (mN m) 0 (some (mN (newO m 8 2)))) S 0 (some (mN m))) 23 26) S 1 (some (mN m + 2))) 3 4) + 1))) 20 1056) (mN m + 3) 2 (some (mN (newO (setR (newO (setR (setR (newO (newO m 8 2) 20 64) (mN m) 0 (some (mN (newO m 8 2)))) S 0 (some (mN m))) 23 26) S 1 (some (mN m + 2))) 3 4) + 2))
/-- what stands before the matches are hung in -/
def SitM (m b : Mem) (S : Nat) : Prop := (mT b S = (7, 8) ∧ mR b S 0 = some (S + 1) ∧ mR b S 1 = some (S + 1 + 2) ∧ mT b (S + 1) = (8, 2) ∧ mR b (S + 1) 0 = some (S + 1 + 1) ∧ mT b (S + 1 + 1) = (20, 64) ∧ mT b (S + 1 + 2) = (23, 26) ∧ mT b (S + 1 + 3) = (3, 4) ∧ mR b (S + 1 + 3) 0 = some (S + 1 + 4) ∧ mR b (S + 1 + 3) 1 = some (S + 1 + 5) ∧ mR b (S + 1 + 3) 2 = some (S + 1 + 6) ∧ mT b (S + 1 + 4) = (20, 33) ∧ mT b (S + 1 + 5) = (20, 33) ∧ mT b (S + 1 + 6) = (20, 1056)) ∧ mN b = S + 8 ∧ mZ b = mZ m + 1218 ∧ (∀ o, o < S → mT b o = mT m o) ∧ (∀ o k, o < S → mI b o k = mI m o k) ∧ (∀ o k, o < S → mR b o k = mR m o k) ∧ (∀ k, mR b (S + 3) k = none) ∧ mR b S 2 = none
theorem sitM_of (m : Mem) (S : Nat) (h : mN m = S + 1) (hT : mT m S = (7, 8)) (hR : ∀ k, mR m S k = none) : SitM m (sitE m S) S := by
  have t : ∀ o, mT (sitE m S) o = if o = mN m + 6 then (20, 1056) else if o = mN m + 5 then (20, 33) else if o = mN m + 4 then (20, 33) else if o = mN m + 3 then (3, 4) else if o = mN m + 2 then (23, 26) else if o = mN m + 1 then (20, 64) else if o = mN m then (8, 2) else mT m o := fun o => by unfold sitE; simp only [mT_setR, mT_newO, mN_newO, mN_setR, Nat.add_assoc, Nat.reduceAdd]; try rfl
  have i : ∀ o k, mI (sitE m S) o k = if o = mN m + 6 then 0 else if o = mN m + 5 then 0 else if o = mN m + 4 then 0 else if o = mN m + 3 then 0 else if o = mN m + 2 then 0 else if o = mN m + 1 then 0 else if o = mN m then 0 else mI m o k := fun o k => by unfold sitE; simp only [mI_setR, mI_newO, mN_newO, mN_setR, Nat.add_assoc, Nat.reduceAdd]; try rfl
  have r : ∀ o k, mR (sitE m S) o k = if o = mN m + 3 ∧ k = 2 then some (mN m + 6) else if o = mN m + 6 then none else if o = mN m + 3 ∧ k = 1 then some (mN m + 5) else if o = mN m + 5 then none else if o = mN m + 3 ∧ k = 0 then some (mN m + 4) else if o = mN m + 4 then none else if o = mN m + 3 then none else if o = S ∧ k = 1 then some (mN m + 2) else if o = mN m + 2 then none else if o = S ∧ k = 0 then some (mN m) else if o = mN m ∧ k = 0 then some (mN m + 1) else if o = mN m + 1 then none else if o = mN m then none else mR m o k := fun o k => by unfold sitE; simp only [mR_sRif, mR_newO, mN_newO, mN_setR, Nat.add_assoc, Nat.reduceAdd]; try rfl
  have n : mN (sitE m S) = mN m + 7 := by unfold sitE; simp only [mN_newO, mN_setR]
  have z : mZ (sitE m S) = mZ m + 1218 := by unfold sitE; simp only [mZ_newOs, mZ_setRs]
  generalize sitE m S = b at t i r n z
  refine ⟨⟨?_, ?_, ?_, ?_, ?_, ?_, ?_, ?_, ?_, ?_, ?_, ?_, ?_, ?_⟩, by omega, z, fun o ho => ?_, fun o k ho => ?_, fun o k ho => ?_, fun k => ?_, ?_⟩
  · rw [t]; (repeat rw [if_neg (by omega)]); exact hT
  · rw [r]; (repeat (first | rw [if_pos (by omega)] | rw [if_neg (by omega)])) <;> (first | rfl | exact congrArg some (by omega))
  · rw [r]; (repeat (first | rw [if_pos (by omega)] | rw [if_neg (by omega)])) <;> (first | rfl | exact congrArg some (by omega))
  · rw [t]; (repeat (first | rw [if_pos (by omega)] | rw [if_neg (by omega)])) <;> (first | rfl | exact congrArg some (by omega))
  · rw [r]; (repeat (first | rw [if_pos (by omega)] | rw [if_neg (by omega)])) <;> (first | rfl | exact congrArg some (by omega))
  · rw [t]; (repeat (first | rw [if_pos (by omega)] | rw [if_neg (by omega)])) <;> (first | rfl | exact congrArg some (by omega))
  · rw [t]; (repeat (first | rw [if_pos (by omega)] | rw [if_neg (by omega)])) <;> (first | rfl | exact congrArg some (by omega))
  · rw [t]; (repeat (first | rw [if_pos (by omega)] | rw [if_neg (by omega)])) <;> (first | rfl | exact congrArg some (by omega))
  · rw [r]; (repeat (first | rw [if_pos (by omega)] | rw [if_neg (by omega)])) <;> (first | rfl | exact congrArg some (by omega))
  · rw [r]; (repeat (first | rw [if_pos (by omega)] | rw [if_neg (by omega)])) <;> (first | rfl | exact congrArg some (by omega))
  · rw [r]; (repeat (first | rw [if_pos (by omega)] | rw [if_neg (by omega)])) <;> (first | rfl | exact congrArg some (by omega))
  · rw [t]; (repeat (first | rw [if_pos (by omega)] | rw [if_neg (by omega)])) <;> (first | rfl | exact congrArg some (by omega))
  · rw [t]; (repeat (first | rw [if_pos (by omega)] | rw [if_neg (by omega)])) <;> (first | rfl | exact congrArg some (by omega))
  · rw [t]; (repeat (first | rw [if_pos (by omega)] | rw [if_neg (by omega)])) <;> (first | rfl | exact congrArg some (by omega))
  · rw [t]; (repeat rw [if_neg (by omega)])
  · rw [i]; (repeat rw [if_neg (by omega)])
  · rw [r]; (repeat rw [if_neg (by omega)])
  · rw [r]; (repeat (first | rw [if_pos (by omega)] | rw [if_neg (by omega)]))
  · rw [r]; (repeat rw [if_neg (by omega)]); exact hR 2

set_option maxHeartbeats 4000000 in
theorem c_sitInit  (m : Mem) (S : Nat)   (T_S : mT m S = (7, 8)) (hp : mN m = S + 1 ∧ S + 8 ≤ NN ∧ mZ m + 1218 ≤ ZZ ∧ 59 ≤ S ∧ ∀ k, mR m S k = none) : Ct μX7_init 3 [vr S] m (rv fun m' => SitN m m' S) := by
  refine Ct_of_V rfl (by decide) rfl (Nat.le_of_ble_eq_true rfl) ?_
  show V μX7_init 3 m _ 0 [(0, vr S)] [] m
  refine V_ld (pc := 0) dX7_init_0 (v := vr S) rfl rfl ?_
  refine V_objInit (pc := 1) dX7_init_1 oi_RX7_3 wo_i wo_c (by omega) (Nat.le_of_ble_eq_true rfl) ?_
  refine V_ld (pc := 4) dX7_init_4 (v := vr S) rfl rfl ?_
  refine V_newv (pc := 5) (mN m) rfl dX7_init_5 nw_RX7_9 (by omega) (by show mZ m + 2 ≤ ZZ; omega) ?_
  refine V_dup (pc := 8) dX7_init_8 rfl ?_
  refine V_callN (pc := 9) dX7_init_9 (F' := 1) (As := []) (st := [vr (mN m), vr S]) cn_RX7_11 rfl rfl (Nat.le_of_ble_eq_true rfl) (by omega) (c_Table_init  (newO m 8 2) (mN m)   (mT_news (M := m) rfl) ⟨Nat.lt_succ_self _, (by simp only [mN_newO, mN_setR, mN_setI]; omega), (by simp only [mZ_newOs, mZ_setRs, mZ_setIs]; omega)⟩) ?_
  rintro _ _ ⟨rfl, rfl⟩ ok9 le9
  refine V_putR (pc := 12) dX7_init_12 fw_RX7_12 rfl ((mT_newne (M := (newO m 8 2)) (o := S) (mN m + 1) rfl (by omega)).trans ((mT_newne (M := m) (c := 8) (n := 2) (o := S) (mN m) rfl (by omega)).trans T_S)) (Or.inr ⟨rfl, rfl⟩) (fun o_ h_ => by cases h_; (try unfold NN at *); unfold SC; omega) ?_
  refine V_ld (pc := 15) dX7_init_15 (v := vr S) rfl rfl ?_
  refine V_bipush (pc := 16) dX7_init_16 (by unfold I32; omega) (by decide) ?_
  refine V_newQv (pc := 18) (N := 26) (mN m + 2) rfl rfl dX7_init_18 (by omega) (by show mZ m + 2 + 64 + 26 ≤ ZZ; omega) (by omega) (by omega) (Or.inr ⟨rfl, rfl⟩) cl_RX7_18 ?_
  refine V_putR (pc := 21) dX7_init_21 fw_RX7_20 rfl ((mT_newne (M := (setR (setR (newO (newO m 8 2) 20 64) (mN m) 0 (some (mN (newO m 8 2)))) S 0 (some (mN m)))) (c := 23) (n := 26) (o := S) (mN m + 2) rfl (by omega)).trans ((mT_newne (M := (newO m 8 2)) (o := S) (mN m + 1) rfl (by omega)).trans ((mT_newne (M := m) (c := 8) (n := 2) (o := S) (mN m) rfl (by omega)).trans T_S))) (Or.inr ⟨rfl, rfl⟩) (fun o_ h_ => by cases h_; (try unfold NN at *); unfold SC; omega) ?_
  refine V_ld (pc := 24) dX7_init_24 (v := vr S) rfl rfl ?_
  refine V_newv (pc := 25) (mN m + 3) rfl dX7_init_25 nw_RX7_24 (by omega) (by show mZ m + 2 + 64 + 26 + 4 ≤ ZZ; omega) ?_
  refine V_dup (pc := 28) dX7_init_28 rfl ?_
  refine V_callN (pc := 29) dX7_init_29 (F' := 1) (As := []) (st := [vr (mN m + 3), vr S]) cn_RX7_26 rfl rfl (Nat.le_of_ble_eq_true rfl) (by omega) (c_Mat_init  (newO (setR (newO (setR (setR (newO (newO m 8 2) 20 64) (mN m) 0 (some (mN (newO m 8 2)))) S 0 (some (mN m))) 23 26) S 1 (some (mN m + 2))) 3 4) (mN m + 3)   (mT_news (M := (setR (newO (setR (setR (newO (newO m 8 2) 20 64) (mN m) 0 (some (mN (newO m 8 2)))) S 0 (some (mN m))) 23 26) S 1 (some (mN m + 2)))) rfl) ⟨Nat.lt_succ_self _, (by simp only [mN_newO, mN_setR, mN_setI]; omega), (by simp only [mZ_newOs, mZ_setRs, mZ_setIs]; omega)⟩) ?_
  rintro _ _ ⟨rfl, rfl⟩ ok29 le29
  clear ok9 le9 ok29 le29
  show V μX7_init 3 m _ 32 _ _ (sitE m S)
  have hb := sitM_of m S hp.1 T_S hp.2.2.2.2
  generalize sitE m S = b at hb ⊢
  obtain ⟨⟨b1, b2, b3, b5, b6, b7, b8, b9, b10, b11, b12, b13, b14, b15⟩, bn, bz, bT, bI, bR, bc, b2n⟩ := hb
  refine V_putR (pc := 32) dX7_init_32 fw_RX7_27 rfl b1 (Or.inl rfl) (fun o_ h_ => by cases h_; (try unfold NN at *); unfold SC; omega) ?_
  refine V_ld (pc := 35) dX7_init_35 (v := vr S) rfl rfl ?_
  refine V_iconst (pc := 36) dX7_init_36 (by unfold I32; omega) ?_
  have hT37 : mT (setR b S 3 (some (mN m + 3))) S = (7, 8) := (congrFun mT_setR S).trans b1
  refine V_putI (pc := 37) dX7_init_37 fw_RX7_31 rfl hT37 (Or.inl rfl) (Or.inl rfl) ?_
  refine V_ld (pc := 40) dX7_init_40 (v := vr S) rfl rfl ?_
  refine V_iconst (pc := 41) dX7_init_41 (by unfold I32; omega) ?_
  have hT42 : mT (setI (setR b S 3 (some (mN m + 3))) S 4 0) S = (7, 8) := (congrFun mT_setI S).trans hT37
  refine V_putI (pc := 42) dX7_init_42 fw_RX7_35 rfl hT42 (Or.inl rfl) (Or.inl rfl) ?_
  refine V_ld (pc := 45) dX7_init_45 (v := vr S) rfl rfl ?_
  refine V_sipush (pc := 46) dX7_init_46 (by unfold I32; omega) (by decide) ?_
  have hT49 : mT (setI (setI (setR b S 3 (some (mN m + 3))) S 4 0) S 6 1) S = (7, 8) := (congrFun mT_setI S).trans hT42
  refine V_putI (pc := 49) dX7_init_49 fw_RX7_38 rfl hT49 (Or.inl rfl) (Or.inl rfl) ?_
  refine V_retv (pc := 52) dX7_init_52 trivial ?_
  have hTT : ∀ o, mT (setI (setI (setI (setR b S 3 (some (mN m + 3))) S 4 0) S 6 1) S 7 5000) o = mT b o := fun o => (congrFun mT_setI o).trans ((congrFun mT_setI o).trans ((congrFun mT_setI o).trans (congrFun mT_setR o)))
  have hRR : ∀ o k, ¬ (o = S ∧ k = 3) → mR (setI (setI (setI (setR b S 3 (some (mN m + 3))) S 4 0) S 6 1) S 7 5000) o k = mR b o k := fun o k h => by rw [mR_setI, mR_setI, mR_setI]; exact mR_setne (by omega)
  have hR3 : mR (setI (setI (setI (setR b S 3 (some (mN m + 3))) S 4 0) S 6 1) S 7 5000) S 3 = some (mN m + 3) := by rw [mR_setI, mR_setI, mR_setI]; exact mR_sets
  have hII : ∀ o k, o ≠ S → mI (setI (setI (setI (setR b S 3 (some (mN m + 3))) S 4 0) S 6 1) S 7 5000) o k = mI b o k := fun o k h => (mI_setne (by omega)).trans ((mI_setne (by omega)).trans ((mI_setne (by omega)).trans (by rw [mI_setR])))
  have hNN : mN (setI (setI (setI (setR b S 3 (some (mN m + 3))) S 4 0) S 6 1) S 7 5000) = mN b := by rw [mN_setI, mN_setI, mN_setI, mN_setR]
  have hZZ : mZ (setI (setI (setI (setR b S 3 (some (mN m + 3))) S 4 0) S 6 1) S 7 5000) = mZ b := by rw [mZ_setIs, mZ_setIs, mZ_setIs, mZ_setRs]
  generalize (setI (setI (setI (setR b S 3 (some (mN m + 3))) S 4 0) S 6 1) S 7 5000) = f at hTT hRR hR3 hII hNN hZZ ⊢
  have hN3 : mN m + 3 = S + 4 := by omega
  rw [hN3] at hR3
  refine ⟨⟨(hTT _).trans b1, (hRR _ _ (by omega)).trans b2, (hRR _ _ (by omega)).trans b3, hR3, (hTT _).trans b5, (hRR _ _ (by omega)).trans b6, (hTT _).trans b7, (hTT _).trans b8, (hTT _).trans b9, (hRR _ _ (by omega)).trans b10, (hRR _ _ (by omega)).trans b11, (hRR _ _ (by omega)).trans b12, (hTT _).trans b13, (hTT _).trans b14, (hTT _).trans b15⟩, hNN.trans bn, hZZ.trans bz, fun o ho => (hTT o).trans (bT o ho), fun o k ho => (hII o k (by omega)).trans (bI o k ho), fun o k ho => (hRR o k (by omega)).trans (bR o k ho), fun k => (hRR _ _ (by omega)).trans (bc k), (hRR _ _ (by omega)).trans b2n⟩
