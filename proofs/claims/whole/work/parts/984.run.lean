/-! run(): both sides -/
set_option maxHeartbeats 4000000 in
theorem z_run (P : Nat) (Q : Nat) (L : Nat) (F : Tb) (c : Nat) (n : Int) (may : Int) (hcn : Nat → CEnv → Int) (cl : Nat → Int) (J : SJ) (mo : Int) (by_ : Int) (em : Int) (M : Nat) (M2 : Nat) (m : Mem)    (hS : SB m P Q L F c n may hcn cl) (hr : 1 ≤ c ∧ F (c - 1) 9 ≤ 6 ∧ F (c - 1) 10 ≤ 23) (hl : ∀ k, k < 32 → mI m 10 k = J.2.1 k) (hmd : mI m 1 4 = mo ∧ mI m 1 5 = by_ ∧ mI m 1 6 = em ∧ 0 ≤ mo ∧ mo ≤ 3) (hmr : mR m 1 3 = some M ∧ mR m 0 5 = some M2 ∧ (M2 = 5 ∨ M2 = 18) ∧ M ≠ SC) : Ct μX10_run 9 [vr 0] m (ri fun x_ m' => (True) ∧ RunC m m' M M2 (rnA F c n may hcn cl mo by_ em 33 0 [] J) x_) := by
  refine Ct_of_V rfl (by decide) rfl (Nat.le_of_ble_eq_true rfl) ?_
  show V μX10_run 9 m _ 0 [(0, vr 0)] [] m
  have hL := hS.1.1
  have hma := hL.mat hmr.2.2.1
  refine V_ld (pc := 0) dX10_run_0 (v := vr 0) rfl rfl ?_
  refine V_getRv (pc := 1) dX10_run_1 (o' := M2) fw_RX10_46 rfl (hL.t0) hmr.2.1 ?_
  refine V_st (pc := 4) dX10_run_4 (ls' := [(1, vr M2), (0, vr 0)]) rfl (Nat.le_of_ble_eq_true rfl) rfl ?_
  refine V_ld (pc := 5) dX10_run_5 (v := vr M2) rfl rfl ?_
  refine V_iconst (pc := 6) dX10_run_6 (by unfold I32; omega) ?_
  refine V_putI (pc := 7) dX10_run_7 fw_RX10_72 rfl hma.1 (Or.inl rfl) (Or.inl rfl) ?_
  refine V_iconst (pc := 10) dX10_run_10 (by unfold I32; omega) ?_
  refine V_st (pc := 11) dX10_run_11 (ls' := [(2, vi 0), (1, vr M2), (0, vr 0)]) rfl (Nat.le_of_ble_eq_true rfl) rfl ?_
  refine V_iconst (pc := 12) dX10_run_12 (by unfold I32; omega) ?_
  refine V_st (pc := 13) dX10_run_13 (ls' := [(3, vi 0), (2, vi 0), (1, vr M2), (0, vr 0)]) rfl (Nat.le_of_ble_eq_true rfl) rfl ?_
  skip
  have hI : ∀ o k, ¬ (M2 ≤ o ∧ o ≤ M2 + 3) → up2 (mI m) M2 3 0 o k = mI m o k := fun o k ho => up2_nx (by omega)
  exact L_zrun hmr.2.2.1 hmr.2.2.2 hr hmd.2.2.2 (by omega) 33 0 0 [] J (wI m (up2 (mI m) M2 3 0)) (SB.wr hS (fun o k h1 h2 => hI o k (by omega))) (CZy.w (I2 := up2 (mI m) M2 3 0) (CZy.rf hS) hI) ⟨up2_s, fun j s e le hj => by simp at hj⟩ (Int.le_refl _) (fun k hk => (hI 10 k (by omega)).trans (hl k hk)) ⟨(hI 1 4 (by omega)).trans hmd.1, (hI 1 5 (by omega)).trans hmd.2.1, (hI 1 6 (by omega)).trans hmd.2.2.1⟩ ⟨hmr.1, hmr.2.1⟩ (by have := hS.2.2.2.1; omega) (Int.le_refl _) (Int.le_refl _) (fun x m' h_ => ⟨trivial, h_⟩)

set_option maxHeartbeats 4000000 in
theorem y_runS (tx : Nat → Int) (nt : Nat) (F : Tb) (c : Nat) (n : Int) (may : Int) (hcn : Nat → CEnv → Int) (cl : Nat → Int) (J : SJ) (mo : Int) (by_ : Int) (em : Int) (m : Mem)    (hL : Lay (mT m) (mR m)) (ht : mI m 31 65 = (nt : Int) ∧ 0 < nt ∧ nt ≤ 120) (htx : txR (mI m) 31 66 tx nt ∧ PatW tx nt) (hFc : F = (altL tx nt 5 S0).2.2.2.2 ∧ c = (altL tx nt 5 S0).2.2.2.1) (hB : RB1 (mI m) n may hcn cl) (hl : (∀ k, mI m 45 k = J.2.1 k) ∧ (mI m 30 27 = 0 ∨ mI m 30 27 = 1)) (hLt : LtrOK J) (hmd : mI m 31 3332 = mo ∧ mI m 31 3333 = by_ ∧ mI m 31 3334 = em ∧ 0 ≤ mo ∧ mo ≤ 3) : Ct μX11_run 35 [vr 30] m (ri fun x_ m' => ∃ I_ : Nat → Nat → Int, wI m I_ = m' ∧ (True) ∧ RunR (mI m) I_ (rnA F c n may hcn cl mo by_ em 33 0 [] J) x_) := by
  refine Ct_of_V rfl (by decide) rfl (Nat.le_of_ble_eq_true rfl) ?_
  show V μX11_run 35 m _ 0 [(0, vr 30)] [] m
  refine V_ld (pc := 0) dX11_run_0 (v := vr 30) rfl rfl ?_
  refine V_getRv (pc := 1) dX11_run_1 (o' := 31) fw_RX11_9 rfl hL.t30 hL.r30_0 ?_
  refine V_bipush (pc := 4) dX11_run_4 (by unfold I32; omega) (by decide) ?_
  refine V_ialdv (pc := 6) dX11_run_6 (v := (nt : Int)) hL.t31 (by omega) ht.1 (fun g6 => ?_)
  refine V_if_ne (pc := 7) dX11_run_7 (tgt := 13) rfl (fun h7 => ?_) (fun h7 => ?_)
  · skip
    refine V_iconst (pc := 13) dX11_run_13 (by unfold I32; omega) ?_
    refine V_st (pc := 14) dX11_run_14 (ls' := [(1, vi 0), (0, vr 30)]) rfl (Nat.le_of_ble_eq_true rfl) rfl ?_
    refine V_iconst (pc := 15) dX11_run_15 (by unfold I32; omega) ?_
    refine V_st (pc := 16) dX11_run_16 (ls' := [(2, vi 0), (1, vi 0), (0, vr 30)]) rfl (Nat.le_of_ble_eq_true rfl) rfl ?_
    skip
    exact L_yrun (m := m) hL ht htx hFc hB hmd (by omega) 33 0 [] J (mI m) RFw.rf hl.1 hl.2 (fun j s e le hj => by simp at hj) (Int.le_refl _) (fun x hx => by cases hx) hLt (by have := hB.1; omega) (Int.le_refl _) (by have := hB.1; omega) (fun x I' h_ => ⟨I', rfl, trivial, h_⟩)
  · skip
    refine V_bipush (pc := 10) dX11_run_10 (by unfold I32; omega) (by decide) ?_
    refine V_reti (pc := 12) dX11_run_12 trivial ?_
    exfalso; omega
