/-! THE LAW'S WALK, whole -/
set_option maxHeartbeats 8000000 in
theorem law_all {m0 : Mem} (h0 : St m0 0 0 [] [] []) : _root_.Jvm.Pilot.@@N@@.V μL_law 2048 m0 lpost 0 [(0, vr SC)] [] m0 := by
  have hNN : NN = 600000 := rfl
  have hZZ : ZZ = 7302250 := rfl
  refine V_newv (pc := 0) 0 h0.1 dL_law_0 nw_RL_22 (by omega) (by rw [h0.2.1]; omega) ?_
  refine V_abs (fun m => St m 1 7 [(0, 10, 7)] [] []) (h0.new 10 7 1 7 rfl rfl rfl rfl) ?_
  intro m1 h1
  refine V_dup (pc := 3) dL_law_3 rfl ?_
  refine V_callI (pc := 4) dL_law_4 (F' := 4) (As := []) (st := [vr 0]) cw_RL_146 rfl rfl (Nat.le_of_ble_eq_true rfl) (by omega) (c_init10 m1 h1) ?_
  rintro _ m2 ⟨rfl, h2⟩ ok2 le2
  have hi := init_in1 h2
  have n2 := hi.1.1
  have z2 := hi.1.2
  refine V_st (pc := 7) dL_law_7 (ls' := [(1, vr 0), (0, vr SC)]) rfl (Nat.le_of_ble_eq_true rfl) rfl ?_
  refine V_ld (pc := 8) dL_law_8 (v := vr SC) rfl rfl ?_
  refine V_iconst (pc := 9) dL_law_9 (by unfold I32; omega) ?_
  refine V_bipush (pc := 10) dL_law_10 (by unfold I32; omega) (by decide) ?_
  refine V_callS (pc := 12) dL_law_12 (F' := 1) (As := [vr SC, vi 0, vi 8]) (st := []) cw_RL_17 rfl rfl (Nat.le_of_ble_eq_true rfl) (by omega) (w_pick  m2 0 8   (by omega)) ?_
  rintro _ _ ⟨x12, rfl, hx12, rfl⟩ ok12 le12
  obtain ⟨nn, rfl⟩ : ∃ nn : Nat, x12 = (nn : Int) := ⟨x12.toNat, by omega⟩
  refine V_st (pc := 15) dL_law_15 (ls' := [(2, vi ((nn : Nat) : Int)), (1, vr 0), (0, vr SC)]) rfl (Nat.le_of_ble_eq_true rfl) rfl ?_
  refine V_ld (pc := 16) dL_law_16 (v := vr SC) rfl rfl ?_
  refine V_iconst (pc := 17) dL_law_17 (by unfold I32; omega) ?_
  refine V_ld (pc := 18) dL_law_18 (v := vi ((nn : Nat) : Int)) rfl rfl ?_
  refine V_callS (pc := 19) dL_law_19 (F' := 2) (As := [vr SC, vi 1, vi ((nn : Nat) : Int)]) (st := []) cw_RL_147 rfl rfl (Nat.le_of_ble_eq_true rfl) (by omega) (w_rows nn m2 1   (by omega) (by omega) ⟨by omega, by omega⟩) ?_
  rintro _ m3 ⟨x19, rfl, hx19, ⟨v0, hR0⟩⟩ ok19 le19
  subst hx19
  obtain ⟨v, hR, hv⟩ := hR0.bd
  have hc3 := In1.cnd hi hR
  have n3 := hc3.2.2.1.1
  have z3 := hc3.2.2.1.2
  rw [n2]
  refine V_st (pc := 22) dL_law_22 (ls' := [(3, vr 30), (2, vi ((nn : Nat) : Int)), (1, vr 0), (0, vr SC)]) rfl (Nat.le_of_ble_eq_true rfl) rfl ?_
  refine V_ld (pc := 23) dL_law_23 (v := vr 0) rfl rfl ?_
  refine V_ld (pc := 24) dL_law_24 (v := vr SC) rfl rfl ?_
  refine V_bipush (pc := 25) dL_law_25 (by unfold I32; omega) (by decide) ?_
  refine V_callS (pc := 27) dL_law_27 (F' := 23) (As := [vr 0, vr SC, vi 40]) (st := []) cw_RL_151 rfl rfl (Nat.le_of_ble_eq_true rfl) (by omega) (w_conditions  m3 40   hc3.1 hc3.2.1 (by omega) ⟨by omega, by omega⟩ (by omega) hc3.2.2.2.1 hc3.2.2.2.2) ?_
  rintro _ m4 ⟨x27, rfl, hx27, ⟨wv, hC3⟩⟩ ok27 le27
  subst hx27
  have hL4 := hC3.lay (by omega) hc3.1
  have n4 := hC3.1
  refine V_st (pc := 30) dL_law_30 (ls' := [(4, vr (mN m3)), (3, vr 30), (2, vi ((nn : Nat) : Int)), (1, vr 0), (0, vr SC)]) rfl (Nat.le_of_ble_eq_true rfl) rfl ?_
  refine V_ld (pc := 32) dL_law_32 (v := vr 0) rfl rfl ?_
  refine V_ld (pc := 33) dL_law_33 (v := vr SC) rfl rfl ?_
  refine V_bipush (pc := 34) dL_law_34 (by unfold I32; omega) (by decide) ?_
  refine V_callS (pc := 36) dL_law_36 (F' := 35) (As := [vr 0, vr SC, vi 50]) (st := []) cw_RL_155 rfl rfl (Nat.le_of_ble_eq_true rfl) (by omega) (w_pattern  m4 50   hL4 ((hC3.2.2.2.1 1 3 (by omega) (by decide)).trans hc3.2.1) (by omega) (by omega) hC3.2.2.2.2.1 ⟨by omega, by omega⟩) ?_
  rintro _ m5 ⟨x36, rfl, -, ⟨t5, hx36, tT, hP⟩⟩ ok36 le36
  subst hx36
  have hL5 := hP.lay (by omega) hL4
  have n5 := hP.1
  refine V_st (pc := 39) dL_law_39 (ls' := [(5, vr t5), (4, vr (mN m3)), (3, vr 30), (2, vi ((nn : Nat) : Int)), (1, vr 0), (0, vr SC)]) rfl (Nat.le_of_ble_eq_true rfl) rfl ?_
  refine V_ld (pc := 41) dL_law_41 (v := vr t5) rfl rfl ?_
  refine V_alenQ (pc := 43) dL_law_43 tT (by decide) (by omega) ?_
  refine V_if_eq (pc := 44) dL_law_44 (tgt := 55) rfl (fun h_ => absurd h_ (by decide)) (fun _ => ?_)
  refine V_ld (pc := 47) dL_law_47 (v := vr 0) rfl rfl ?_
  refine V_ld (pc := 48) dL_law_48 (v := vr 30) rfl rfl ?_
  refine V_callS (pc := 49) dL_law_49 (F' := 4) (As := [vr 0, vr 30]) (st := []) cw_RL_158 rfl rfl (Nat.le_of_ble_eq_true rfl) (by omega) (w_tell nn v m5 30   hL5 ((hP.2.2.2.1 1 3 (by omega) (by decide)).trans ((hC3.2.2.2.1 1 3 (by omega) (by decide)).trans hc3.2.1)) (RwX.to4 hi hR (by omega) hC3 hP) (by decide) ⟨((hP.2.2.1 2 1 (by omega) (by omega) (by omega) (by omega)).trans ((hC3.2.2.1 2 1 (by omega) (by omega) (by omega) (by omega)).trans (((hR.1 2 (Or.inl (by omega))).2.1 1).trans hi.2.2.2.2.1.2.2.1))), hP.2.2.2.2.1.2⟩) ?_
  rintro _ _ ⟨x49, rfl, hx49, ⟨I, hw_, hT5⟩⟩ ok49 le49
  subst hx49
  subst hw_
  refine V_if_ne (pc := 52) dL_law_52 (tgt := 57) rfl (fun _ => ?_) (fun h_ => absurd h_ (by decide))
  refine V_ld (pc := 57) dL_law_57 (v := vr 0) rfl rfl ?_
  refine V_sipush (pc := 58) dL_law_58 (by unfold I32; omega) (by decide) ?_
  refine V_callV (pc := 61) dL_law_61 (F' := 0) (As := [vi 800]) (st := []) cw_RL_162 rfl rfl hL5.t0 (by decide) (Nat.le_of_ble_eq_true rfl) (by omega) (l_may hL5 (by decide)) ?_
  rintro _ _ ⟨x61, rfl, -, rfl⟩ ok61 le61
  refine V_pop (pc := 64) dL_law_64 rfl ?_
  refine V_iconst (pc := 65) dL_law_65 (by unfold I32; omega) ?_
  refine V_st (pc := 66) dL_law_66 (ls' := [(6, vi 0), (5, vr t5), (4, vr (mN m3)), (3, vr 30), (2, vi ((nn : Nat) : Int)), (1, vr 0), (0, vr SC)]) rfl (Nat.le_of_ble_eq_true rfl) rfl ?_
  refine V_ls (ls' := [(6, vi 0), (5, vr t5), (4, vr (mN m3)), (3, vr 30), (2, vi ((nn : Nat) : Int)), (1, vr 0), (0, vr SC)]) (by intro q_ h_; simp only [List.mem_cons, List.not_mem_nil, or_false] at h_ ⊢; rcases h_ with rfl | rfl | rfl | rfl | rfl | rfl | rfl <;> simp) ?_
  obtain ⟨P, Q, L, x, hC, hrm, hreg, hM, h05⟩ := LawC.mk hi hR (by omega) hv hC3 hP hT5
  refine V_abs (fun b => LawC b P Q L x 30 (mN m3) nn v wv ∧ (mN b + 152000 ≤ NN + lnA b + lnB b ∧ mZ b + 322000 ≤ ZZ + 2 * lnA b + 2 * lnB b) ∧ (0 ≤ mI b 1 4 ∧ mI b 1 4 ≤ 3 ∧ 0 ≤ mI b 1 5 ∧ mI b 1 5 ≤ 25) ∧ MtB b 5 x.2.2.1 [] ∧ mR b 0 5 = some 18) ⟨hC, hrm, hreg, hM, h05⟩ ?_
  rintro b ⟨hC, hrm, hreg, hM, h05⟩
  exact L_sts (F := 2048) hC (by omega) (fun m s hs hm => L_end hC (by omega) hs hm hrm hreg hM h05 (fun _ => rfl)) (nn + 1) 0 b (by omega) (LawM.rf hC.1)
