/-! run(): both sides -/
set_option maxHeartbeats 4000000 in
theorem z_run (P : Nat) (Q : Nat) (L : Nat) (F : Tb) (c : Nat) (n : Int) (may : Int) (hcn : Nat → CEnv → Int) (cl : Nat → Int) (J : SJ) (mo : Int) (by_ : Int) (em : Int) (M : Nat) (M2 : Nat) (m : Mem)    (hS : SB m P Q L F c n may hcn cl) (hr : 1 ≤ c ∧ F (c - 1) 9 ≤ 6 ∧ F (c - 1) 10 ≤ 23) (hl : ∀ k, k < 32 → mI m 10 k = J.2.1 k) (hmd : mI m 1 4 = mo ∧ mI m 1 5 = by_ ∧ mI m 1 6 = em ∧ 0 ≤ mo ∧ mo ≤ 3) (hmr : mR m 1 3 = some M ∧ mR m 0 5 = some M2 ∧ (M2 = 5 ∨ M2 = 18) ∧ M ≠ SC) : Ct μX10_run 9 [vr 0] m (ri fun x_ m' => (True) ∧ RunC m m' M M2 (rnA F c n may hcn cl mo by_ em 33 0 [] J) x_) := by
  refine Ct_of_V rfl (by decide) rfl (Nat.le_of_ble_eq_true rfl) ?_
  show V μX10_run 9 m _ 0 [(0, vr 0)] [] m
  have hL := hS.1.1
  have hma := hL.mat hmr.2.2.1
  refine V_ld (pc := 0) dX10_run_0 (v := vr 0) rfl rfl ?_
  refine V_getRv (pc := 1) dX10_run_1 (o' := M2) fw_RX10_46 rfl (hL.t0) hmr.2.1 ?_
  refine V_st (pc := 4) dX10_run_4 (ls' := [(1, vr M2), (0, vr 0)]) rfl (Nat.le_of_ble_eq_true rfl) rfl ?_
  refine V_ld (pc := 5) dX10_run_5 (v := vr M2) rfl rfl ?_
  refine V_iconst (pc := 6) dX10_run_6 (by unfold I32; omega) ?_
  refine V_putI (pc := 7) dX10_run_7 fw_RX10_72 rfl hma.1 (Or.inl rfl) (Or.inl rfl) ?_
  refine V_iconst (pc := 10) dX10_run_10 (by unfold I32; omega) ?_
  refine V_st (pc := 11) dX10_run_11 (ls' := [(2, vi 0), (1, vr M2), (0, vr 0)]) rfl (Nat.le_of_ble_eq_true rfl) rfl ?_
  refine V_iconst (pc := 12) dX10_run_12 (by unfold I32; omega) ?_
  refine V_st (pc := 13) dX10_run_13 (ls' := [(3, vi 0), (2, vi 0), (1, vr M2), (0, vr 0)]) rfl (Nat.le_of_ble_eq_true rfl) rfl ?_
  skip
  have hI : ∀ o k, ¬ (M2 ≤ o ∧ o ≤ M2 + 3) → up2 (mI m) M2 3 0 o k = mI m o k := fun o k ho => up2_nx (by omega)
  exact L_zrun hmr.2.2.1 hmr.2.2.2 hr hmd.2.2.2 (by omega) 33 0 0 [] J (wI m (up2 (mI m) M2 3 0)) (SB.wr hS (fun o k h1 h2 => hI o k (by omega))) (CZy.w (I2 := up2 (mI m) M2 3 0) (CZy.rf hS) hI) ⟨up2_s, fun j s e le hj => by simp at hj⟩ (Int.le_refl _) (fun k hk => (hI 10 k (by omega)).trans (hl k hk)) ⟨(hI 1 4 (by omega)).trans hmd.1, (hI 1 5 (by omega)).trans hmd.2.1, (hI 1 6 (by omega)).trans hmd.2.2.1⟩ ⟨hmr.1, hmr.2.1⟩ (by have := hS.2.2.2.1; omega) (Int.le_refl _) (Int.le_refl _) (fun x m' h_ => ⟨trivial, h_⟩)

