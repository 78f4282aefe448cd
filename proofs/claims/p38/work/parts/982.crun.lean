/-! run(): the class -/
def CZy (b m : Mem) (M2 : Nat) : Prop := (∃ A B LA LB, CZr b m A B LA LB) ∧ mN b ≤ mN m ∧ mZ b ≤ mZ m ∧ (∀ o, o < mN b → mT m o = mT b o) ∧ (∀ o k, o < mN b → ¬ (o = 9 ∧ (k = 2 ∨ k = 4)) → mR m o k = mR b o k) ∧ ∀ o k, o < mN b → o ≠ 9 → o ≠ 10 → mR b 9 2 ≠ some o → mR b 9 4 ≠ some o → ¬ (M2 ≤ o ∧ o ≤ M2 + 3) → mI m o k = mI b o k
theorem CZr.rf {b : Mem} {P Q L c : Nat} {F : Tb} {n may : Int} {hc : Nat → CEnv → Int} {cl : Nat → Int} (hS : SB b P Q L F c n may hc cl) : ∃ A B LA LB, CZr b b A B LA LB := by
  obtain ⟨-, -, -, -, -, -, A, B, LA, LB, h1, h2, h3, h4, h5, h6, h7, h8, q1, q2, q3, q4, q5, -⟩ := hS
  have eA : lnA b = LA := by
    show (mT b ((mR b 9 2).getD 0)).2 = LA
    rw [h1]
    show (mT b A).2 = LA
    rw [h2]
  have eB : lnB b = LB := by
    show (mT b ((mR b 9 4).getD 0)).2 = LB
    rw [h5]
    show (mT b B).2 = LB
    rw [h6]
  exact ⟨A, B, LA, LB, ⟨h1, h2, q1, h3, h4, q2, Or.inl h1⟩, ⟨h5, h6, q3, h7, h8, q4, Or.inl h5⟩, q5, by rw [eA, eB]; omega, by rw [eA, eB]; omega⟩
theorem CZy.rf {b : Mem} {M2 P Q L c : Nat} {F : Tb} {n may : Int} {hc : Nat → CEnv → Int} {cl : Nat → Int} (hS : SB b P Q L F c n may hc cl) : CZy b b M2 := ⟨CZr.rf hS, Nat.le_refl _, Nat.le_refl _, fun _ _ => rfl, fun _ _ _ _ => rfl, fun _ _ _ _ _ _ _ _ => rfl⟩
theorem CZy.w {b m : Mem} {M2 : Nat} {I2 : Nat → Nat → Int} (h : CZy b m M2) (hI : ∀ o k, ¬ (M2 ≤ o ∧ o ≤ M2 + 3) → I2 o k = mI m o k) : CZy b (wI m I2) M2 :=
  ⟨h.1, h.2.1, h.2.2.1, h.2.2.2.1, h.2.2.2.2.1, fun o k a1 a2 a3 a4 a5 a6 => (hI o k a6).trans (h.2.2.2.2.2 o k a1 a2 a3 a4 a5 a6)⟩
theorem CZy.cz {b m m' : Mem} {M2 : Nat} {F : Tb} {J : SJ} (h : CZy b m M2) (h2 : CZ m m' F J) : CZy b m' M2 := by
  obtain ⟨⟨A, B, LA, LB, ⟨a1, a2, a3, a4, a5, a6, a7⟩, ⟨b1, b2, b3, b4, b5, b6, b7⟩, hAB, r1, r2⟩, hN, hZ, hT, hR, hI⟩ := h
  obtain ⟨A', B', LA', LB', ⟨⟨a1', a2', a3', a4', a5', a6', a7'⟩, ⟨b1', b2', b3', b4', b5', b6', b7'⟩, hAB', r1', r2'⟩, hz, -⟩ := h2
  have eA : lnA m = LA := by
    show (mT m ((mR m 9 2).getD 0)).2 = LA
    rw [a1]
    show (mT m A).2 = LA
    rw [a2]
  have eB : lnB m = LB := by
    show (mT m ((mR m 9 4).getD 0)).2 = LB
    rw [b1]
    show (mT m B).2 = LB
    rw [b2]
  rw [eA, eB] at r1' r2'
  refine ⟨⟨A', B', LA', LB', ⟨a1', a2', a3', a4', a5', a6', ?_⟩, ⟨b1', b2', b3', b4', b5', b6', ?_⟩, hAB', by omega, by omega⟩, by have := hz.1; omega, by have := hz.2.1; omega, fun o ho => ?_, fun o k ho hk => ?_, fun o k ho h9 h10 hx hy hm => ?_⟩
  · rcases a7' with e | e
    · rw [a1] at e; cases e; exact a7
    · exact Or.inr (by omega)
  · rcases b7' with e | e
    · rw [b1] at e; cases e; exact b7
    · exact Or.inr (by omega)
  · exact (hz.2.2.1 o (by omega)).trans (hT o ho)
  · exact (hz.2.2.2.1 o k (by omega) hk).trans (hR o k ho hk)
  · refine (hz.2.2.2.2 o k (by omega) h9 h10 ?_ ?_).trans (hI o k ho h9 h10 hx hy hm)
    · rw [a1]; intro e; cases e
      rcases a7 with a7 | a7
      · exact hx a7
      · omega
    · rw [b1]; intro e; cases e
      rcases b7 with b7 | b7
      · exact hy b7
      · omega
theorem Lay.mat {T : Nat → Nat × Nat} {R : Nat → Nat → Option Nat} (h : Lay T R) {M : Nat} (hM : M = 5 ∨ M = 18) : T M = (3, 4) ∧ R M 0 = some (M + 1) ∧ R M 1 = some (M + 2) ∧ R M 2 = some (M + 3) ∧ T (M + 1) = (20, 33) ∧ T (M + 2) = (20, 33) ∧ T (M + 3) = (20, 1056) := by
  rcases hM with rfl | rfl
  · exact ⟨h.t5, h.r5_0, h.r5_1, h.r5_2, h.t6, h.t7, h.t8⟩
  · exact ⟨h.t18, h.r18_0, h.r18_1, h.r18_2, h.t19, h.t20, h.t21⟩
theorem MaC.fr {I I' : Nat → Nat → Int} {M : Nat} {Ms : ML} (h : MaC I M (M + 1) (M + 2) (M + 3) Ms) (hI : ∀ o k, M ≤ o → o ≤ M + 3 → I' o k = I o k) : MaC I' M (M + 1) (M + 2) (M + 3) Ms := by
  refine ⟨(hI M 3 (by omega) (by omega)).trans h.1, fun j s e le hj => ?_⟩
  obtain ⟨g1, g2, g3⟩ := h.2 j s e le hj
  exact ⟨(hI _ _ (by omega) (by omega)).trans g1, (hI _ _ (by omega) (by omega)).trans g2, fun r hr => (hI _ _ (by omega) (by omega)).trans (g3 r hr)⟩
def RunC (m m' : Mem) (M M2 : Nat) (rn : Int × ML × SJ) (x : Int) : Prop := ∃ m1, CZy m m1 M2 ∧ (∀ k, k < 32 → mI m1 10 k = rn.2.2.2.1 k) ∧ ((rn.1 = -7 ∧ x = -7 ∧ m' = m1) ∨ (rn.1 = 0 ∧ x = (rn.2.1.length : Int) ∧ MaC (mI m1) M2 (M2 + 1) (M2 + 2) (M2 + 3) rn.2.1 ∧ m' = setR (setR m1 0 5 (some M)) 1 3 (some M2)))
section RNS
variable {F : Tb} {c : Nat} {n may : Int} {hc : Nat → CEnv → Int} {cl : Nat → Int} {mo by_ em : Int} {f : Nat} {st : Int} {Ms : ML} {J : SJ} {R : Int × SJ}
theorem rnA_end (h : n < st) : rnA F c n may hc cl mo by_ em f st Ms J = (0, Ms, J) := by
  cases f with
  | zero => rfl
  | succ f => unfold rnA; rw [if_pos h]
theorem rnA_7 (h : ¬ n < st) (hR : seekA F c n may hc cl (-1) st J = R) (h1 : R.1 = -7) : rnA F c n may hc cl mo by_ em (f + 1) st Ms J = (-7, Ms, R.2) := by
  unfold rnA; rw [if_neg h, hR, if_pos h1]
theorem rnA_m (h : ¬ n < st) (hR : seekA F c n may hc cl (-1) st J = R) (h1 : ¬ R.1 = -7) (h2 : R.1 = 1 ∧ (st < R.2.1 9 ∨ em = 1)) : rnA F c n may hc cl mo by_ em (f + 1) st Ms J = rnA F c n may hc cl mo by_ em f (nextA mo by_ st (R.2.1 9) R.2.2.1) (Ms ++ [(st, R.2.1 9, R.2.2.1)]) R.2 := by
  rw [rnA, if_neg h, hR, if_neg h1, if_pos h2]
theorem rnA_n (h : ¬ n < st) (hR : seekA F c n may hc cl (-1) st J = R) (h1 : ¬ R.1 = -7) (h2 : ¬ (R.1 = 1 ∧ (st < R.2.1 9 ∨ em = 1))) : rnA F c n may hc cl mo by_ em (f + 1) st Ms J = rnA F c n may hc cl mo by_ em f (st + 1) Ms R.2 := by
  rw [rnA, if_neg h, hR, if_neg h1, if_neg h2]
end RNS

set_option maxHeartbeats 4000000 in
theorem L_zskip {F0 : Nat} {m0 m : Mem} {post : Option AV → Mem → Prop} {M2 : Nat} {n nx : Int} (hL : Lay (mT m) (mR m)) (hn : mI m 2 1 = n ∧ n ≤ 32) (hx : nx ≤ n + 1) (kx : V μX10_run F0 m0 post 14 [(3, vi nx), (2, vi nx), (1, vr M2), (0, vr 0)] [] m) : ∀ (d : Nat) (i : Int), i + (d : Int) = nx → 0 ≤ i → V μX10_run F0 m0 post 14 [(3, vi i), (2, vi nx), (1, vr M2), (0, vr 0)] [] m := by
  intro d
  induction d with
  | zero =>
    intro i hi h0
    obtain rfl : i = nx := by omega
    exact kx
  | succ d ih =>
    intro i hi h0
    refine V_ld (pc := 14) dX10_run_14 (v := vi i) rfl rfl ?_
    refine V_ld (pc := 15) dX10_run_15 (v := vr 0) rfl rfl ?_
    refine V_getRv (pc := 16) dX10_run_16 (o' := 1) fw_RX10_12 rfl hL.t0 hL.r0_0 ?_
    refine V_getRv (pc := 19) dX10_run_19 (o' := 2) fw_RX10_55 rfl hL.t1 hL.r1_0 ?_
    refine V_getIv (pc := 22) dX10_run_22 (v := n) fw_RX10_59 rfl hL.t2 hn.1 (fun g22 => ?_)
    refine V_icmp_gt (pc := 25) dX10_run_25 (tgt := 115) rfl (fun h25 => ?_) (fun h25 => ?_)
    · skip
      exfalso; omega
    · skip
      refine V_ld (pc := 28) dX10_run_28 (v := vi i) rfl rfl ?_
      refine V_ld (pc := 29) dX10_run_29 (v := vi nx) rfl rfl ?_
      refine V_icmp_ge (pc := 30) dX10_run_30 (tgt := 36) rfl (fun h30 => ?_) (fun h30 => ?_)
      · skip
        exfalso; omega
      · skip
        refine V_goto (pc := 33) dX10_run_33 (tgt := 109) rfl ?_
        refine V_iinc (pc := 109) dX10_run_109 (x := i) (ls' := [(3, vi (i + 1)), (2, vi nx), (1, vr M2), (0, vr 0)]) rfl (by unfold I32 at *; omega) (Nat.le_of_ble_eq_true rfl) rfl ?_
        refine V_goto (pc := 112) dX10_run_112 (tgt := 14) rfl ?_
        skip
        exact ih (i + 1) (by omega) (by omega)

set_option maxHeartbeats 16000000 in
theorem L_zrun {F0 : Nat} {m0 : Mem} {PP : Int → Mem → Prop} {b : Mem} {P Q L c M2 M : Nat} {F : Tb} {n may : Int} {hcn : Nat → CEnv → Int} {cl : Nat → Int} {mo by_ em : Int} (hM : M2 = 5 ∨ M2 = 18) (hMsc : M ≠ SC) (hr : 1 ≤ c ∧ F (c - 1) 9 ≤ 6 ∧ F (c - 1) 10 ≤ 23) (hmo : 0 ≤ mo ∧ mo ≤ 3) (hF : 8 < F0) : ∀ (f : Nat) (st nx : Int) (Ms : ML) (J : SJ) (m : Mem), SB m P Q L F c n may hcn cl → CZy b m M2 → MaC (mI m) M2 (M2 + 1) (M2 + 2) (M2 + 3) Ms → (Ms.length : Int) ≤ st → (∀ k, k < 32 → mI m 10 k = J.2.1 k) → (mI m 1 4 = mo ∧ mI m 1 5 = by_ ∧ mI m 1 6 = em) → (mR m 1 3 = some M ∧ mR m 0 5 = some M2) → n + 1 ≤ (f : Int) + st → 0 ≤ st → nx ≤ st → (∀ x m', RunC b m' M M2 (rnA F c n may hcn cl mo by_ em f st Ms J) x → PP x m') → V μX10_run F0 m0 (ri PP) 14 [(3, vi st), (2, vi nx), (1, vr M2), (0, vr 0)] [] m := by
  intro f
  induction f with
  | zero =>
    intro st nx Ms J m hS hY hMa hlen hl hmd hmr hf h0 hnx kx
    have hL := hS.1.1
    have hSn := hS.2.2.2.1
    have hma := hL.mat hM
    refine V_ld (pc := 14) dX10_run_14 (v := vi st) rfl rfl ?_
    refine V_ld (pc := 15) dX10_run_15 (v := vr 0) rfl rfl ?_
    refine V_getRv (pc := 16) dX10_run_16 (o' := 1) fw_RX10_12 rfl hL.t0 hL.r0_0 ?_
    refine V_getRv (pc := 19) dX10_run_19 (o' := 2) fw_RX10_55 rfl hL.t1 hL.r1_0 ?_
    refine V_getIv (pc := 22) dX10_run_22 (v := n) fw_RX10_59 rfl hL.t2 hSn.1 (fun g22 => ?_)
    refine V_icmp_gt (pc := 25) dX10_run_25 (tgt := 115) rfl (fun h25 => ?_) (fun h25 => ?_)
    · skip
      refine V_ld (pc := 115) dX10_run_115 (v := vr 0) rfl rfl ?_
      refine V_ld (pc := 116) dX10_run_116 (v := vr 0) rfl rfl ?_
      refine V_getRv (pc := 117) dX10_run_117 (o' := 1) fw_RX10_12 rfl hL.t0 hL.r0_0 ?_
      refine V_getRv (pc := 120) dX10_run_120 (o' := M) fw_RX10_69 rfl hL.t1 hmr.1 ?_
      refine V_putR (pc := 123) dX10_run_123 fw_RX10_46 rfl hL.t0 (Or.inl rfl) (fun o_ h_ => by cases h_; exact hMsc) ?_
      refine V_ld (pc := 126) dX10_run_126 (v := vr 0) rfl rfl ?_
      refine V_getRv (pc := 127) dX10_run_127 (o' := 1) fw_RX10_12 rfl hL.t0 hL.r0_0 ?_
      refine V_ld (pc := 130) dX10_run_130 (v := vr M2) rfl rfl ?_
      refine V_putR (pc := 131) dX10_run_131 fw_RX10_69 rfl hL.t1 (Or.inl rfl) (fun o_ h_ => by cases h_; unfold SC; omega) ?_
      refine V_ld (pc := 134) dX10_run_134 (v := vr M2) rfl rfl ?_
      refine V_getIv (pc := 135) dX10_run_135 (v := (Ms.length : Int)) fw_RX10_72 rfl hma.1 hMa.1 (fun g135 => ?_)
      refine V_reti (pc := 138) dX10_run_138 trivial ?_
      first
        | (exfalso; omega)
        | exact kx _ _ ⟨m, hY, by rw [rnA_end (by omega)]; exact hl, Or.inr ⟨by rw [rnA_end (by omega)], by rw [rnA_end (by omega)], by rw [rnA_end (by omega)]; exact hMa, rfl⟩⟩
    · skip
      exfalso; omega
  | succ f ih =>
    intro st nx Ms J m hS hY hMa hlen hl hmd hmr hf h0 hnx kx
    have hL := hS.1.1
    have hSn := hS.2.2.2.1
    have hma := hL.mat hM
    have h59 := hS.1.2.1
    obtain ⟨R, hR⟩ : ∃ R, seekA F c n may hcn cl (-1) st J = R := ⟨_, rfl⟩
    have hinv := fun (h_ : st ≤ n) => seekA_inv (hc := hcn) (cl := cl) (e := -1) (J := J) (SB.w hS) hr (st := st) ⟨h0, h_, hSn.2.2.1⟩ ⟨hSn.2.2.2.2.1, hSn.2.2.2.2.2⟩
    rw [hR] at hinv
    refine V_ld (pc := 14) dX10_run_14 (v := vi st) rfl rfl ?_
    refine V_ld (pc := 15) dX10_run_15 (v := vr 0) rfl rfl ?_
    refine V_getRv (pc := 16) dX10_run_16 (o' := 1) fw_RX10_12 rfl hL.t0 hL.r0_0 ?_
    refine V_getRv (pc := 19) dX10_run_19 (o' := 2) fw_RX10_55 rfl hL.t1 hL.r1_0 ?_
    refine V_getIv (pc := 22) dX10_run_22 (v := n) fw_RX10_59 rfl hL.t2 hSn.1 (fun g22 => ?_)
    refine V_icmp_gt (pc := 25) dX10_run_25 (tgt := 115) rfl (fun h25 => ?_) (fun h25 => ?_)
    · skip
      refine V_ld (pc := 115) dX10_run_115 (v := vr 0) rfl rfl ?_
      refine V_ld (pc := 116) dX10_run_116 (v := vr 0) rfl rfl ?_
      refine V_getRv (pc := 117) dX10_run_117 (o' := 1) fw_RX10_12 rfl hL.t0 hL.r0_0 ?_
      refine V_getRv (pc := 120) dX10_run_120 (o' := M) fw_RX10_69 rfl hL.t1 hmr.1 ?_
      refine V_putR (pc := 123) dX10_run_123 fw_RX10_46 rfl hL.t0 (Or.inl rfl) (fun o_ h_ => by cases h_; exact hMsc) ?_
      refine V_ld (pc := 126) dX10_run_126 (v := vr 0) rfl rfl ?_
      refine V_getRv (pc := 127) dX10_run_127 (o' := 1) fw_RX10_12 rfl hL.t0 hL.r0_0 ?_
      refine V_ld (pc := 130) dX10_run_130 (v := vr M2) rfl rfl ?_
      refine V_putR (pc := 131) dX10_run_131 fw_RX10_69 rfl hL.t1 (Or.inl rfl) (fun o_ h_ => by cases h_; unfold SC; omega) ?_
      refine V_ld (pc := 134) dX10_run_134 (v := vr M2) rfl rfl ?_
      refine V_getIv (pc := 135) dX10_run_135 (v := (Ms.length : Int)) fw_RX10_72 rfl hma.1 hMa.1 (fun g135 => ?_)
      refine V_reti (pc := 138) dX10_run_138 trivial ?_
      first
        | (exfalso; omega)
        | exact kx _ _ ⟨m, hY, by rw [rnA_end (by omega)]; exact hl, Or.inr ⟨by rw [rnA_end (by omega)], by rw [rnA_end (by omega)], by rw [rnA_end (by omega)]; exact hMa, rfl⟩⟩
    · skip
      refine V_ld (pc := 28) dX10_run_28 (v := vi st) rfl rfl ?_
      refine V_ld (pc := 29) dX10_run_29 (v := vi nx) rfl rfl ?_
      refine V_icmp_ge (pc := 30) dX10_run_30 (tgt := 36) rfl (fun h30 => ?_) (fun h30 => ?_)
      · skip
        refine V_ld (pc := 36) dX10_run_36 (v := vr 0) rfl rfl ?_
        refine V_getRv (pc := 37) dX10_run_37 (o' := 9) fw_RX10_23 rfl hL.t0 hL.r0_1 ?_
        refine V_ld (pc := 40) dX10_run_40 (v := vi st) rfl rfl ?_
        refine V_iconst (pc := 41) dX10_run_41 (by unfold I32; omega) ?_
        refine V_callV (pc := 42) dX10_run_42 (F' := 7) (As := [vi st, vi (-1)]) (st := []) cw_RX10_154 rfl rfl hL.t9 (by decide) (Nat.le_of_ble_eq_true rfl) (by omega) (z_seek P Q L F c n may hcn cl J m st (-1)   hS hr hl ⟨by omega, by omega⟩) ?_
        rintro _ m42 ⟨x42, rfl, hx42, hm42⟩ ok42 le42
        have hx42 : x42 = R.1 := hx42.trans (congrArg Prod.fst hR)
        have hm42 : CZ m m42 F R.2 := by rw [← hR]; exact hm42
        have hinv2 := hinv (by omega)
        have hS2 := SB.nx hS hm42
        have hY2 := CZy.cz hY hm42
        have hL2 := hS2.1.1
        have hma2 := hL2.mat hM
        have hf42 := hm42.f
        have hl2 : ∀ k, k < 32 → mI m42 10 k = R.2.2.1 k := fun k hk => hm42.l hk
        have hno : ∀ o k, o < 59 → o ≠ 9 → o ≠ 10 → o ≠ 11 → o ≠ 12 → mI m42 o k = mI m o k := fun o k g1 g2 g3 g4 g5 => hf42.2.2.2.2 o k (by omega) g2 g3 (hS.no2 ⟨g1, g4, g5⟩).1 (hS.no2 ⟨g1, g4, g5⟩).2
        have hMa2 : MaC (mI m42) M2 (M2 + 1) (M2 + 2) (M2 + 3) Ms := hMa.fr (fun o k g1 g2 => hno o k (by omega) (by omega) (by omega) (by omega) (by omega))
        have hmd2 : mI m42 1 4 = mo ∧ mI m42 1 5 = by_ ∧ mI m42 1 6 = em := by rw [hno 1 4 (by decide) (by decide) (by decide) (by decide) (by decide), hno 1 5 (by decide) (by decide) (by decide) (by decide) (by decide), hno 1 6 (by decide) (by decide) (by decide) (by decide) (by decide)]; exact hmd
        have hmr2 : mR m42 1 3 = some M ∧ mR m42 0 5 = some M2 := ⟨(hf42.2.2.2.1 1 3 (by omega) (by omega)).trans hmr.1, (hf42.2.2.2.1 0 5 (by omega) (by omega)).trans hmr.2⟩
        refine V_st (pc := 45) dX10_run_45 (ls' := [(4, vi x42), (3, vi st), (2, vi nx), (1, vr M2), (0, vr 0)]) rfl (Nat.le_of_ble_eq_true rfl) rfl ?_
        refine V_ld (pc := 47) dX10_run_47 (v := vi x42) rfl rfl ?_
        refine V_if_ge (pc := 49) dX10_run_49 (tgt := 55) rfl (fun h49 => ?_) (fun h49 => ?_)
        · skip
          refine V_ld (pc := 55) dX10_run_55 (v := vi st) rfl rfl ?_
          refine V_iconst (pc := 56) dX10_run_56 (by unfold I32; omega) ?_
          refine V_iadd (pc := 57) dX10_run_57 (by unfold I32 at *; omega) ?_
          refine V_st (pc := 58) dX10_run_58 (ls' := [(2, vi (st + 1)), (4, vi x42), (3, vi st), (1, vr M2), (0, vr 0)]) rfl (Nat.le_of_ble_eq_true rfl) rfl ?_
          refine V_ld (pc := 59) dX10_run_59 (v := vi x42) rfl rfl ?_
          refine V_iconst (pc := 61) dX10_run_61 (by unfold I32; omega) ?_
          refine V_icmp_ne (pc := 62) dX10_run_62 (tgt := 109) rfl (fun h62 => ?_) (fun h62 => ?_)
          · skip
            refine V_iinc (pc := 109) dX10_run_109 (x := st) (ls' := [(3, vi (st + 1)), (2, vi (st + 1)), (4, vi x42), (1, vr M2), (0, vr 0)]) rfl (by unfold I32 at *; omega) (Nat.le_of_ble_eq_true rfl) rfl ?_
            refine V_goto (pc := 112) dX10_run_112 (tgt := 14) rfl ?_
            refine V_ls (ls' := [(3, vi (st + 1)), (2, vi (st + 1)), (1, vr M2), (0, vr 0)]) (by intro q_ h_; simp only [List.mem_cons, List.not_mem_nil, or_false] at h_ ⊢; rcases h_ with rfl | rfl | rfl | rfl <;> simp) ?_
            exact ih (st + 1) (st + 1) Ms R.2 m42 hS2 hY2 hMa2 (by omega) hl2 hmd2 hmr2 (by omega) (by omega) (Int.le_refl _) (fun x m' h_ => kx x m' (by rw [rnA_n (by omega) hR (by omega) (by omega)]; exact h_))
          · skip
            refine V_ld (pc := 65) dX10_run_65 (v := vr 0) rfl rfl ?_
            refine V_getRv (pc := 66) dX10_run_66 (o' := 9) fw_RX10_23 rfl (hL2.t0) (hL2.r0_1) ?_
            refine V_getIv (pc := 69) dX10_run_69 (v := (R.2.1 9)) fw_RX10_157 rfl (hL2.t9) (CZ.s hm42 (k := 9) (by decide)) (fun g69 => ?_)
            refine V_ld (pc := 72) dX10_run_72 (v := vi st) rfl rfl ?_
            refine V_icmp_gt (pc := 73) dX10_run_73 (tgt := 87) rfl (fun h73 => ?_) (fun h73 => ?_)
            · skip
              refine V_ld (pc := 87) dX10_run_87 (v := vr M2) rfl rfl ?_
              refine V_ld (pc := 88) dX10_run_88 (v := vi st) rfl rfl ?_
              refine V_ld (pc := 89) dX10_run_89 (v := vr 0) rfl rfl ?_
              refine V_getRv (pc := 90) dX10_run_90 (o' := 9) fw_RX10_23 rfl (hL2.t0) (hL2.r0_1) ?_
              refine V_getIv (pc := 93) dX10_run_93 (v := (R.2.1 9)) fw_RX10_157 rfl (hL2.t9) (CZ.s hm42 (k := 9) (by decide)) (fun g93 => ?_)
              refine V_ld (pc := 96) dX10_run_96 (v := vr 0) rfl rfl ?_
              refine V_getRv (pc := 97) dX10_run_97 (o' := 9) fw_RX10_23 rfl (hL2.t0) (hL2.r0_1) ?_
              refine V_callV (pc := 100) dX10_run_100 (F' := 1) (As := [vi st, vi (R.2.1 9), vr 9]) (st := []) cw_RX10_175 rfl rfl hma2.1 (by decide) (Nat.le_of_ble_eq_true rfl) (by omega) (z_add Ms R.2.2.1 m42 M2 st (R.2.1 9) (M2 + 1) (M2 + 2) (M2 + 3)  hL2 hma2.1 hma2.2.1 hma2.2.2.1 hma2.2.2.2.1 hma2.2.2.2.2.1 hma2.2.2.2.2.2.1 hma2.2.2.2.2.2.2 (by omega) ⟨hMa2, by omega⟩ hl2 ⟨by omega, by omega, by omega⟩) ?_
              rintro _ _ ⟨rfl, Ix100, rfl, hA100, hF100⟩ ok100 le100
              have hI10 : ∀ k, k < 32 → Ix100 10 k = R.2.2.1 k := fun k hk => (hF100 10 k (by omega) (by omega) (by omega) (by omega)).trans (hl2 k hk)
              refine V_ld (pc := 103) dX10_run_103 (v := vr 0) rfl rfl ?_
              refine V_ld (pc := 104) dX10_run_104 (v := vi st) rfl rfl ?_
              refine V_callV (pc := 105) dX10_run_105 (F' := 1) (As := [vi st]) (st := []) cw_RX10_178 rfl rfl (hL2.t0) (by decide) (Nat.le_of_ble_eq_true rfl) (by omega) (z_startBehind mo by_ (R.2.1 9) R.2.2.1 (wI m42 Ix100) st   hL2 ⟨(hF100 1 4 (by omega) (by omega) (by omega) (by omega)).trans hmd2.1, (hF100 1 5 (by omega) (by omega) (by omega) (by omega)).trans hmd2.2.1, (hF100 9 9 (by omega) (by omega) (by omega) (by omega)).trans (CZ.s hm42 (k := 9) (by decide))⟩ hI10 (by omega)) ?_
              rintro _ _ ⟨x105, rfl, hx105, rfl⟩ ok105 le105
              subst hx105
              refine V_st (pc := 108) dX10_run_108 (ls' := [(2, vi (nextA mo by_ st (R.2.1 9) R.2.2.1)), (4, vi x42), (3, vi st), (1, vr M2), (0, vr 0)]) rfl (Nat.le_of_ble_eq_true rfl) rfl ?_
              refine V_iinc (pc := 109) dX10_run_109 (x := st) (ls' := [(3, vi (st + 1)), (2, vi (nextA mo by_ st (R.2.1 9) R.2.2.1)), (4, vi x42), (1, vr M2), (0, vr 0)]) rfl (by unfold I32 at *; omega) (Nat.le_of_ble_eq_true rfl) rfl ?_
              refine V_goto (pc := 112) dX10_run_112 (tgt := 14) rfl ?_
              have hnb := nextA_b (mo := mo) (by_ := by_) (st := st) (pl := R.2.1 9) (le := R.2.2.1) ⟨h0, by omega⟩
              have hS3 : SB (wI m42 Ix100) P Q L F c n may hcn cl := SB.wr hS2 (fun o k g1 g2 => hF100 o k (by omega) (by omega) (by omega) (by omega))
              have hY3 := CZy.w (I2 := Ix100) hY2 (fun o k g1 => hF100 o k (by omega) (by omega) (by omega) (by omega))
              refine V_ls (ls' := [(3, vi (st + 1)), (2, vi (nextA mo by_ st (R.2.1 9) R.2.2.1)), (1, vr M2), (0, vr 0)]) (by intro q_ h_; simp only [List.mem_cons, List.not_mem_nil, or_false] at h_ ⊢; rcases h_ with rfl | rfl | rfl | rfl <;> simp) ?_
              refine L_zskip (m := wI m42 Ix100) hL2 ⟨hS3.2.2.2.1.1, hSn.2.2.1⟩ (by omega) ?_ ((nextA mo by_ st (R.2.1 9) R.2.2.1) - (st + 1)).toNat (st + 1) (by omega) (by omega)
              exact ih (nextA mo by_ st (R.2.1 9) R.2.2.1) (nextA mo by_ st (R.2.1 9) R.2.2.1) (Ms ++ [(st, R.2.1 9, R.2.2.1)]) R.2 (wI m42 Ix100) hS3 hY3 hA100 (by rw [List.length_append]; show ((Ms.length + 1 : Nat) : Int) ≤ _; omega) hI10 ⟨(hF100 1 4 (by omega) (by omega) (by omega) (by omega)).trans hmd2.1, (hF100 1 5 (by omega) (by omega) (by omega) (by omega)).trans hmd2.2.1, (hF100 1 6 (by omega) (by omega) (by omega) (by omega)).trans hmd2.2.2⟩ hmr2 (by omega) (by omega) (Int.le_refl _) (fun x m' h_ => kx x m' (by rw [rnA_m (by omega) hR (by omega) (by omega)]; exact h_))
            · skip
              refine V_ld (pc := 76) dX10_run_76 (v := vr 0) rfl rfl ?_
              refine V_getRv (pc := 77) dX10_run_77 (o' := 1) fw_RX10_12 rfl (hL2.t0) (hL2.r0_0) ?_
              refine V_getIv (pc := 80) dX10_run_80 (v := em) fw_RX10_144 rfl (hL2.t1) hmd2.2.2 (fun g80 => ?_)
              refine V_iconst (pc := 83) dX10_run_83 (by unfold I32; omega) ?_
              refine V_icmp_ne (pc := 84) dX10_run_84 (tgt := 109) rfl (fun h84 => ?_) (fun h84 => ?_)
              · skip
                refine V_iinc (pc := 109) dX10_run_109 (x := st) (ls' := [(3, vi (st + 1)), (2, vi (st + 1)), (4, vi x42), (1, vr M2), (0, vr 0)]) rfl (by unfold I32 at *; omega) (Nat.le_of_ble_eq_true rfl) rfl ?_
                refine V_goto (pc := 112) dX10_run_112 (tgt := 14) rfl ?_
                refine V_ls (ls' := [(3, vi (st + 1)), (2, vi (st + 1)), (1, vr M2), (0, vr 0)]) (by intro q_ h_; simp only [List.mem_cons, List.not_mem_nil, or_false] at h_ ⊢; rcases h_ with rfl | rfl | rfl | rfl <;> simp) ?_
                exact ih (st + 1) (st + 1) Ms R.2 m42 hS2 hY2 hMa2 (by omega) hl2 hmd2 hmr2 (by omega) (by omega) (Int.le_refl _) (fun x m' h_ => kx x m' (by rw [rnA_n (by omega) hR (by omega) (by omega)]; exact h_))
              · skip
                refine V_ld (pc := 87) dX10_run_87 (v := vr M2) rfl rfl ?_
                refine V_ld (pc := 88) dX10_run_88 (v := vi st) rfl rfl ?_
                refine V_ld (pc := 89) dX10_run_89 (v := vr 0) rfl rfl ?_
                refine V_getRv (pc := 90) dX10_run_90 (o' := 9) fw_RX10_23 rfl (hL2.t0) (hL2.r0_1) ?_
                refine V_getIv (pc := 93) dX10_run_93 (v := (R.2.1 9)) fw_RX10_157 rfl (hL2.t9) (CZ.s hm42 (k := 9) (by decide)) (fun g93 => ?_)
                refine V_ld (pc := 96) dX10_run_96 (v := vr 0) rfl rfl ?_
                refine V_getRv (pc := 97) dX10_run_97 (o' := 9) fw_RX10_23 rfl (hL2.t0) (hL2.r0_1) ?_
                refine V_callV (pc := 100) dX10_run_100 (F' := 1) (As := [vi st, vi (R.2.1 9), vr 9]) (st := []) cw_RX10_175 rfl rfl hma2.1 (by decide) (Nat.le_of_ble_eq_true rfl) (by omega) (z_add Ms R.2.2.1 m42 M2 st (R.2.1 9) (M2 + 1) (M2 + 2) (M2 + 3)  hL2 hma2.1 hma2.2.1 hma2.2.2.1 hma2.2.2.2.1 hma2.2.2.2.2.1 hma2.2.2.2.2.2.1 hma2.2.2.2.2.2.2 (by omega) ⟨hMa2, by omega⟩ hl2 ⟨by omega, by omega, by omega⟩) ?_
                rintro _ _ ⟨rfl, Ix100, rfl, hA100, hF100⟩ ok100 le100
                have hI10 : ∀ k, k < 32 → Ix100 10 k = R.2.2.1 k := fun k hk => (hF100 10 k (by omega) (by omega) (by omega) (by omega)).trans (hl2 k hk)
                refine V_ld (pc := 103) dX10_run_103 (v := vr 0) rfl rfl ?_
                refine V_ld (pc := 104) dX10_run_104 (v := vi st) rfl rfl ?_
                refine V_callV (pc := 105) dX10_run_105 (F' := 1) (As := [vi st]) (st := []) cw_RX10_178 rfl rfl (hL2.t0) (by decide) (Nat.le_of_ble_eq_true rfl) (by omega) (z_startBehind mo by_ (R.2.1 9) R.2.2.1 (wI m42 Ix100) st   hL2 ⟨(hF100 1 4 (by omega) (by omega) (by omega) (by omega)).trans hmd2.1, (hF100 1 5 (by omega) (by omega) (by omega) (by omega)).trans hmd2.2.1, (hF100 9 9 (by omega) (by omega) (by omega) (by omega)).trans (CZ.s hm42 (k := 9) (by decide))⟩ hI10 (by omega)) ?_
                rintro _ _ ⟨x105, rfl, hx105, rfl⟩ ok105 le105
                subst hx105
                refine V_st (pc := 108) dX10_run_108 (ls' := [(2, vi (nextA mo by_ st (R.2.1 9) R.2.2.1)), (4, vi x42), (3, vi st), (1, vr M2), (0, vr 0)]) rfl (Nat.le_of_ble_eq_true rfl) rfl ?_
                refine V_iinc (pc := 109) dX10_run_109 (x := st) (ls' := [(3, vi (st + 1)), (2, vi (nextA mo by_ st (R.2.1 9) R.2.2.1)), (4, vi x42), (1, vr M2), (0, vr 0)]) rfl (by unfold I32 at *; omega) (Nat.le_of_ble_eq_true rfl) rfl ?_
                refine V_goto (pc := 112) dX10_run_112 (tgt := 14) rfl ?_
                have hnb := nextA_b (mo := mo) (by_ := by_) (st := st) (pl := R.2.1 9) (le := R.2.2.1) ⟨h0, by omega⟩
                have hS3 : SB (wI m42 Ix100) P Q L F c n may hcn cl := SB.wr hS2 (fun o k g1 g2 => hF100 o k (by omega) (by omega) (by omega) (by omega))
                have hY3 := CZy.w (I2 := Ix100) hY2 (fun o k g1 => hF100 o k (by omega) (by omega) (by omega) (by omega))
                refine V_ls (ls' := [(3, vi (st + 1)), (2, vi (nextA mo by_ st (R.2.1 9) R.2.2.1)), (1, vr M2), (0, vr 0)]) (by intro q_ h_; simp only [List.mem_cons, List.not_mem_nil, or_false] at h_ ⊢; rcases h_ with rfl | rfl | rfl | rfl <;> simp) ?_
                refine L_zskip (m := wI m42 Ix100) hL2 ⟨hS3.2.2.2.1.1, hSn.2.2.1⟩ (by omega) ?_ ((nextA mo by_ st (R.2.1 9) R.2.2.1) - (st + 1)).toNat (st + 1) (by omega) (by omega)
                exact ih (nextA mo by_ st (R.2.1 9) R.2.2.1) (nextA mo by_ st (R.2.1 9) R.2.2.1) (Ms ++ [(st, R.2.1 9, R.2.2.1)]) R.2 (wI m42 Ix100) hS3 hY3 hA100 (by rw [List.length_append]; show ((Ms.length + 1 : Nat) : Int) ≤ _; omega) hI10 ⟨(hF100 1 4 (by omega) (by omega) (by omega) (by omega)).trans hmd2.1, (hF100 1 5 (by omega) (by omega) (by omega) (by omega)).trans hmd2.2.1, (hF100 1 6 (by omega) (by omega) (by omega) (by omega)).trans hmd2.2.2⟩ hmr2 (by omega) (by omega) (Int.le_refl _) (fun x m' h_ => kx x m' (by rw [rnA_m (by omega) hR (by omega) (by omega)]; exact h_))
        · skip
          refine V_ld (pc := 52) dX10_run_52 (v := vi x42) rfl rfl ?_
          refine V_reti (pc := 54) dX10_run_54 trivial ?_
          exact kx _ _ ⟨m42, hY2, by rw [rnA_7 (by omega) hR (by omega)]; exact hl2, Or.inl ⟨by rw [rnA_7 (by omega) hR (by omega)], by omega, rfl⟩⟩
      · skip
        exfalso; omega
