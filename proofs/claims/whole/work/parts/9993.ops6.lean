/-! run(): class and reference in one step -/
set_option maxHeartbeats 4000000 in
theorem z_runN (n : Int) (M2 : Nat) (m : Mem)    (hL : Lay (mT m) (mR m)) (hn : mI m 2 1 = n ∧ 0 ≤ n ∧ n ≤ 32) (hq : mR m 1 2 = none) (R_0_5 : mR m 0 5 = some M2) (T_M2 : mT m M2 = (3, 4)) (hM : M2 = 5 ∨ M2 = 18) : Ct μX10_run 9 [vr 0] m (ri fun x_ m' => (x_ = -3) ∧ setI m M2 3 0 = m') := by
  refine Ct_of_V rfl (by decide) rfl (Nat.le_of_ble_eq_true rfl) ?_
  show V μX10_run 9 m _ 0 [(0, vr 0)] [] m
  refine V_ld (pc := 0) dX10_run_0 (v := vr 0) rfl rfl ?_
  refine V_getRv (pc := 1) dX10_run_1 (o' := M2) fw_RX10_46 rfl hL.t0 R_0_5 ?_
  refine V_st (pc := 4) dX10_run_4 (ls' := [(1, vr M2), (0, vr 0)]) rfl (Nat.le_of_ble_eq_true rfl) rfl ?_
  refine V_ld (pc := 5) dX10_run_5 (v := vr M2) rfl rfl ?_
  refine V_iconst (pc := 6) dX10_run_6 (by unfold I32; omega) ?_
  refine V_putI (pc := 7) dX10_run_7 fw_RX10_72 rfl T_M2 (Or.inl rfl) (Or.inl rfl) ?_
  refine V_iconst (pc := 10) dX10_run_10 (by unfold I32; omega) ?_
  refine V_st (pc := 11) dX10_run_11 (ls' := [(2, vi 0), (1, vr M2), (0, vr 0)]) rfl (Nat.le_of_ble_eq_true rfl) rfl ?_
  refine V_iconst (pc := 12) dX10_run_12 (by unfold I32; omega) ?_
  refine V_st (pc := 13) dX10_run_13 (ls' := [(3, vi 0), (2, vi 0), (1, vr M2), (0, vr 0)]) rfl (Nat.le_of_ble_eq_true rfl) rfl ?_
  refine V_ld (pc := 14) dX10_run_14 (v := vi 0) rfl rfl ?_
  refine V_ld (pc := 15) dX10_run_15 (v := vr 0) rfl rfl ?_
  refine V_getRv (pc := 16) dX10_run_16 (o' := 1) fw_RX10_12 rfl hL.t0 hL.r0_0 ?_
  refine V_getRv (pc := 19) dX10_run_19 (o' := 2) fw_RX10_55 rfl hL.t1 hL.r1_0 ?_
  refine V_getIv (pc := 22) dX10_run_22 (v := n) fw_RX10_59 rfl hL.t2 (by first | exact hn.1 | (simp only [mI_setI, up2]; repeat (first | exact hn.1 | rw [if_neg (by omega)]))) (fun g22 => ?_)
  refine V_icmp_gt (pc := 25) dX10_run_25 (tgt := 115) rfl (fun h25 => ?_) (fun h25 => ?_)
  · skip
    exfalso; omega
  · skip
    refine V_ld (pc := 28) dX10_run_28 (v := vi 0) rfl rfl ?_
    refine V_ld (pc := 29) dX10_run_29 (v := vi 0) rfl rfl ?_
    refine V_icmp_ge (pc := 30) dX10_run_30 (tgt := 36) rfl (fun _ => ?_) (fun h_ => absurd h_ (by decide))
    refine V_ld (pc := 36) dX10_run_36 (v := vr 0) rfl rfl ?_
    refine V_getRv (pc := 37) dX10_run_37 (o' := 9) fw_RX10_23 rfl hL.t0 hL.r0_1 ?_
    refine V_ld (pc := 40) dX10_run_40 (v := vi 0) rfl rfl ?_
    refine V_iconst (pc := 41) dX10_run_41 (by unfold I32; omega) ?_
    refine V_callV (pc := 42) dX10_run_42 (F' := 7) (As := [vi 0, vi (-1)]) (st := []) cw_RX10_154 rfl rfl hL.t9 (by decide) (Nat.le_of_ble_eq_true rfl) (by omega) (z_seekN n (setI m M2 3 0) 0 (-1)   hL ⟨(mI_setne (by omega)).trans hn.1, hn.2⟩ hq (by omega)) ?_
    rintro _ _ ⟨x42, rfl, hx42, rfl⟩ ok42 le42
    refine V_st (pc := 45) dX10_run_45 (ls' := [(4, vi x42), (3, vi 0), (2, vi 0), (1, vr M2), (0, vr 0)]) rfl (Nat.le_of_ble_eq_true rfl) rfl ?_
    refine V_ld (pc := 47) dX10_run_47 (v := vi x42) rfl rfl ?_
    refine V_if_ge (pc := 49) dX10_run_49 (tgt := 55) rfl (fun h49 => ?_) (fun h49 => ?_)
    · skip
      exfalso; omega
    · skip
      refine V_ld (pc := 52) dX10_run_52 (v := vi x42) rfl rfl ?_
      refine V_reti (pc := 54) dX10_run_54 trivial ?_
      first | (exfalso; omega) | exact ⟨by omega, rfl⟩

theorem MaR.fr2 {I I' : Nat → Nat → Int} {Ms : ML} (h : MaR I 31 3337 Ms) (hI : ∀ k, 3337 ≤ k → I' 31 k = I 31 k) : MaR I' 31 3337 Ms := fun j s e le hj => by
  have q := h j s e le hj
  exact ⟨(hI _ (by omega)).trans q.1, (hI _ (by omega)).trans q.2.1, fun r hr => (hI _ (by omega)).trans (q.2.2 r hr)⟩

theorem op_run {tt : Nat} {m : Mem} (h : Inv tt m) (ht : tt ≤ 512) : Op tt m μX10_run μX11_run 9 35 [] := by
  obtain ⟨⟨hr, hL, ha⟩, ⟨g1, g2, g3, g4⟩, hk, M, M2, hM, r1, r2, s1, s2, s3, s4, s5, s6⟩ := id h
  have hM' : M = 5 ∨ M = 18 := by omega
  have e1 : mI m 2 1 = mI m 31 64 ∧ 0 ≤ mI m 31 64 ∧ mI m 31 64 ≤ 32 := s2.1
  have e2 : ∀ k, k < 64 → mI m 3 k = mI m 31 k ∧ -999 ≤ mI m 31 k ∧ mI m 31 k ≤ 1000 := s2.2
  have e3 := g1.1
  have tM := hL.mat hM'
  have hn := hr.1
  have hM2 : M2 = 5 ∨ M2 = 18 := by omega
  have tM2 := hL.mat hM2
  rcases h.sb ht with ⟨q1, q2⟩ | ⟨tx, nt, P, A, L, hc, ⟨p1, p2, p3, p4, p5⟩, hS, hB⟩
  · refine ⟨_, z_runN (mI m 31 64) M2 m hL e1 q1 r2 tM2.1 hM2, fun x m1 hp => ?_⟩
    obtain ⟨rfl, hm⟩ := hp
    have T1 : mT m1 = mT m := by rw [← hm]; rfl
    have R1 : mR m1 = mR m := by rw [← hm]; rfl
    have N1 : mN m1 = mN m := by rw [← hm]; rfl
    have Z1 : mZ m1 = mZ m := by rw [← hm]; rfl
    have fr : ∀ o k, ¬ (o = M2 ∧ k = 3) → mI m1 o k = mI m o k := fun o k ho => by rw [← hm]; exact mI_setne (by omega)
    refine ⟨(by first | exact hL.t30 | exact L1.t30 | exact (hC.lay hS).t30 | (rw [T1]; exact hL.t30) | (rw [b1]; exact hL.t30)), _, y_runN m1 (by rw [T1, R1]; exact hL) (by rw [fr _ _ (by omega)]; exact q2), fun y m2 hq => ?_⟩
    obtain ⟨rfl, rfl⟩ := hq
    exact ⟨rfl, h.low T1 R1 N1 Z1 (fun o k ho => fr o k (by omega)) (fun q => q.fr (fun o k ho => fr o k (by omega))) (fun q => q.fr (fun o k ho => fr o k (by omega))) (fun q => q.fr (fun o k ho => fr o k (by omega))) (fun q => q.fr (fun o k ho => fr o k (by omega))) r1 ⟨fun q => q.fr (fr _ _ (by omega)) (fun k _ => fr _ _ (by omega)) (fun k _ => fr _ _ (by omega)), fun q => q.fr (fun k _ _ => fr _ _ (by omega)) (fun k _ _ => fr _ _ (by omega)), fun k _ _ => fr _ _ (by omega), fun q => q.mv (fun x k _ _ => fr _ _ (by omega)) (fr _ _ (by omega)) (fun k _ => fr _ _ (by omega))⟩⟩
  · obtain ⟨w1, w2, w3, w4, w5, w6, w7, w8⟩ := pat_wf p2 _ _ _ rfl rfl rfl
    obtain ⟨J, hJ⟩ : ∃ J : SJ, J = ((fun _ => 0), (fun k => mI m 45 k), (fun _ _ => 0), (fun _ _ => 0)) := ⟨_, rfl⟩
    have hJl : J.2.1 = fun k => mI m 45 k := by rw [hJ]
    have hlt : LtrOK J := fun k => by rw [hJl]; exact g4.2.1 k
    obtain ⟨d1, d2, d3, d4⟩ := id s3
    have hi := rnA_inv (hc := hc) (cl := fun k => mI m 31 k) (mo := mI m 31 3332) (by_ := mI m 31 3333) (em := mI m 31 3334) (n := mI m 31 64) (may := mI m 31 3335) w3 ⟨w1, w7, w8⟩ e1.2 ⟨d4.2.1, d4.2.2⟩ 33 0 [] J (Int.le_refl _) (Int.le_refl _) (by omega) (fun x hx => by cases hx) hlt
    refine ⟨_, z_run P A L _ _ (mI m 31 64) (mI m 31 3335) hc (fun k => mI m 31 k) J (mI m 31 3332) (mI m 31 3333) (mI m 31 3334) M M2 m hS ⟨w1, w7, w8⟩ (fun k hk => by rw [hJl]; exact g4.1 k hk) ⟨d1.1, d2.1, d3, d1.2.1, d1.2.2⟩ ⟨r1, r2, hM2, by unfold SC; omega⟩, fun x m1 hp => ?_⟩
    obtain ⟨_, mz, hz, hzl, hx⟩ := hp
    generalize hRN : rnA (altL tx nt 5 S0).2.2.2.2 (altL tx nt 5 S0).2.2.2.1 (mI m 31 64) (mI m 31 3335) hc (fun k => mI m 31 k) (mI m 31 3332) (mI m 31 3333) (mI m 31 3334) 33 0 [] J = RN at hi hzl hx
    obtain ⟨zz, zF⟩ := h.zone hz.1 hz.2.1 hz.2.2.2.1 hz.2.2.2.2.1 (fun o k h5 ho a b => hz.2.2.2.2.2 o k ho (by omega) (by omega) a b (by omega))
    have zlow : ∀ o k, o < 59 → ¬ (o = 9 ∨ o = 10 ∨ o = 11 ∨ o = 12 ∨ (M2 ≤ o ∧ o ≤ M2 + 3)) → mI mz o k = mI m o k := fun o k h5 ho => hz.2.2.2.2.2 o k (by omega) (by omega) (by omega) (ha.low (by omega)).1 (ha.low (by omega)).2 (by omega)
    have zR : ∀ o k, o < mN m → ¬ (o = 9 ∧ (k = 2 ∨ k = 4)) → mR mz o k = mR m o k := hz.2.2.2.2.1
    have J31 : ∀ k, mI mz 31 k = mI m 31 k := fun k => zlow _ _ (by omega) (by omega)
    -- the memory behind the class's run: references of the matches may have changed places
    have hm1 : (RN.1 = -7 ∧ x = -7 ∧ m1 = mz) ∨ (RN.1 = 0 ∧ x = (RN.2.1.length : Int) ∧ MaC (mI mz) M2 (M2 + 1) (M2 + 2) (M2 + 3) RN.2.1 ∧ m1 = setR (setR mz 0 5 (some M)) 1 3 (some M2)) := hx
    have I1 : mI m1 = mI mz := by rcases hm1 with ⟨_, _, e⟩ | ⟨_, _, _, e⟩ <;> rw [e] <;> rfl
    have T1 : mT m1 = mT mz := by rcases hm1 with ⟨_, _, e⟩ | ⟨_, _, _, e⟩ <;> rw [e] <;> rfl
    have N1 : mN m1 = mN mz := by rcases hm1 with ⟨_, _, e⟩ | ⟨_, _, _, e⟩ <;> rw [e] <;> rfl
    have Z1 : mZ m1 = mZ mz := by rcases hm1 with ⟨_, _, e⟩ | ⟨_, _, _, e⟩ <;> rw [e] <;> rfl
    have R1 : ∀ o k, ¬ (o = 0 ∧ k = 5 ∨ o = 1 ∧ k = 3) → mR m1 o k = mR mz o k := fun o k ho => by
      rcases hm1 with ⟨_, _, e⟩ | ⟨_, _, _, e⟩
      · rw [e]
      · rw [e]; exact (mR_setne (by omega)).trans (mR_setne (by omega))
    have L1 : Lay (mT m1) (mR m1) := by
      rw [T1]
      refine ⟨zz.2.1.1, fun p hp => ?_⟩
      have hl : ¬ (p.1.1 = 0 ∧ p.1.2 = 5 ∨ p.1.1 = 1 ∧ p.1.2 = 3) := by
        have : ∀ q ∈ layR, ¬ (q.1.1 = 0 ∧ q.1.2 = 5 ∨ q.1.1 = 1 ∧ q.1.2 = 3) := by decide
        exact this p hp
      rw [R1 _ _ hl]
      exact zz.2.1.2 p hp
    refine ⟨(by first | exact hL.t30 | exact L1.t30 | exact (hC.lay hS).t30 | (rw [T1]; exact hL.t30) | (rw [b1]; exact hL.t30)), _, y_runS tx nt _ _ (mI m 31 64) (mI m 31 3335) hc (fun k => mI m 31 k) J (mI m 31 3332) (mI m 31 3333) (mI m 31 3334) m1 L1 ⟨by rw [I1, J31]; exact p3, p1, p4⟩ ⟨fun k hk => by rw [I1, J31]; exact p5 k hk, p2⟩ ⟨rfl, rfl⟩ (by rw [I1]; exact hB.mv J31) ⟨fun k => by rw [hJl, I1]; exact zlow _ _ (by omega) (by omega), by rw [I1, zlow _ _ (by omega) (by omega)]; exact g4.2.2⟩ hlt ⟨by rw [I1]; exact J31 _, by rw [I1]; exact J31 _, by rw [I1]; exact J31 _, d1.2.1, d1.2.2⟩, fun y m2 hq => ?_⟩
    obtain ⟨I_, hm2, _, hq⟩ := hq
    rw [hRN] at hq
    obtain ⟨q45, q27, hy⟩ := hq
    have I2 : mI m2 = I_ := by rw [← hm2]; rfl
    have T2 : mT m2 = mT mz := by rw [← hm2]; exact T1
    have R2 : mR m2 = mR m1 := by rw [← hm2]; rfl
    have N2 : mN m2 = mN mz := by rw [← hm2]; exact N1
    have Z2 : mZ m2 = mZ mz := by rw [← hm2]; exact Z1
    have wF : ∀ o k, ¬ ((34 ≤ o ∧ o ≤ 43) ∨ o = 45 ∨ (49 ≤ o ∧ o ≤ 55) ∨ o = 30 ∧ k ≠ 2 ∧ k ≠ 4 ∧ k ≠ 22) → ¬ (o = 31 ∧ 3336 ≤ k) → mI m2 o k = mI mz o k := fun o k h1 h2 => by
      rw [I2, ← I1]
      rcases hy with ⟨_, _, hF⟩ | ⟨_, _, _, _, I', hF, hE⟩
      · exact hF o k (by omega) (by omega) (by omega) (by omega)
      · exact (hE o k h2).trans (hF o k (by omega) (by omega) (by omega) (by omega))
    have fr : ∀ o k, o < 59 → ¬ (o = 9 ∨ o = 10 ∨ o = 11 ∨ o = 12 ∨ (M2 ≤ o ∧ o ≤ M2 + 3) ∨ (34 ≤ o ∧ o ≤ 43) ∨ o = 45 ∨ (49 ≤ o ∧ o ≤ 55) ∨ (o = 30 ∧ k ≠ 2 ∧ k ≠ 4 ∧ k ≠ 22) ∨ (o = 31 ∧ 3336 ≤ k)) → mI m2 o k = mI m o k := fun o k h5 ho =>
      (wF o k (by omega) (by omega)).trans (zlow o k h5 (by omega))
    have Rf : ∀ o k, o < mN m → ¬ (o = 9 ∧ (k = 2 ∨ k = 4)) → ¬ (o = 0 ∧ k = 5 ∨ o = 1 ∧ k = 3) → mR m2 o k = mR m o k := fun o k ho h1 h2 => by rw [R2, R1 o k h2]; exact zR o k ho h1
    have zF2 : FrS m m2 := zF.tr ⟨by omega, fun o _ => by rw [T2], fun A _ hA => by unfold noFa at *; rw [R2, R1 9 2 (by omega), R1 9 4 (by omega)]; exact hA, fun x k h5 _ => by rw [R2, R1 x k (by omega)], fun x k h5 _ _ => wF x k (by omega) (by omega), by rw [R2, R1 0 6 (by omega)]⟩
    have L2 : Lay (mT m2) (mR m2) := by rw [T2, R2, ← T1]; exact L1
    have hroom : RmG (tt + 1) m2 := by
      have e := zz.1
      unfold RmG lnA lnB at *
      rw [T2, R2, N2, Z2, R1 9 2 (by omega), R1 9 4 (by omega)]
      exact e
    have harr : ArrG m2 := by
      have e := zz.2.2
      unfold ArrG at *
      rw [T2, R2, N2, R1 9 2 (by omega), R1 9 4 (by omega)]
      exact e
    have hltr : LtrG m2 := ⟨fun k hk => by rw [wF 10 k (by omega) (by omega), hzl k hk, I2, q45], fun k => by rw [I2, q45]; exact hi.2.2.2 k, by rw [I2]; exact q27⟩
    have hkep : KepG m2 := hk.fr ha hn zF2 (fun o k ho => fr o k (by omega) (by omega))
    have hfour : TapG m2 ∧ PapG m2 ∧ LstG m2 ∧ LtrG m2 := ⟨g1.fr (fun o k ho => fr o k (by omega) (by omega)), g2.fr (fun o k ho => fr o k (by omega) (by omega)), g3.fr (fun o k ho => fr o k (by omega) (by omega)), hltr⟩
    have t2 : TabG m2 1 31 := s2.fr (fr _ _ (by omega) (by omega)) (fun k _ => fr _ _ (by omega) (by omega)) (fun k _ => fr _ _ (by omega) (by omega))
    have t3 : ModG m2 1 31 := s3.fr (fun k _ _ => fr _ _ (by omega) (by omega)) (fun k _ _ => fr _ _ (by omega) (by omega))
    have t4 : PatG m2 1 31 := s4.fr zF2.m (Rf _ _ (by omega) (by omega) (by omega)) (fun k _ _ => fr _ _ (by omega) (by omega))
    have t5 : CndG m2 4 31 := s5.fr zF2.m (fun w _ => Rf _ _ (by omega) (by omega) (by omega)) (fun k _ _ => fr _ _ (by omega) (by omega))
    rcases hm1 with ⟨c1, hx1, em⟩ | ⟨c1, hx1, hMC, em⟩
    · rcases hy with ⟨_, hy1, hF⟩ | ⟨c2, _⟩
      · have f31 : ∀ k, mI m2 31 k = mI m 31 k := fun k => by
          rw [I2, hF 31 k (by omega) (by omega) (by omega) (by omega), I1]; exact J31 k
        have r13 : mR m2 1 3 = some M := by rw [R2, em, zR 1 3 (by omega) (by omega)]; exact r1
        have r05 : mR m2 0 5 = some M2 := by rw [R2, em, zR 0 5 (by omega) (by omega)]; exact r2
        refine ⟨by rw [hy1, hx1], ⟨hroom, L2, harr⟩, hfour, hkep, M, M2, hM, r13, r05, ?_, t2, t3, t4, t5, s6.mv (fun x k _ _ => fr _ _ (by omega) (by omega)) (f31 _) (fun k _ => f31 k)⟩
        have tm := L2.mat hM'
        exact ⟨L2.t1, L2.r1_0, L2.r1_1, r13, L2.t2, L2.r2_0, L2.t3, L2.t4, tm⟩
      · omega
    · rcases hy with ⟨c2, _⟩ | ⟨_, hy1, hl1, hMR, _⟩
      · omega
      · have r13 : mR m2 1 3 = some M2 := by rw [R2, em]; exact mR_sets
        have r05 : mR m2 0 5 = some M := by rw [R2, em]; exact (mR_setne (by omega)).trans mR_sets
        have tm := L2.mat hM2
        refine ⟨by rw [hy1, hx1], ⟨hroom, L2, harr⟩, hfour, hkep, M2, M, by omega, r13, r05, ⟨L2.t1, L2.r1_0, L2.r1_1, r13, L2.t2, L2.r2_0, L2.t3, L2.t4, tm⟩, t2, t3, t4, t5, RN.2.1, ⟨by have := hi.2.2.1; omega, by rw [I2]; exact hl1⟩, ?_, by rw [I2]; exact hMR, by rw [fr 31 64 (by omega) (by omega)]; exact hi.2.1⟩
        exact hMC.fr (fun o k h1 h2 => wF o k (by omega) (by omega))
