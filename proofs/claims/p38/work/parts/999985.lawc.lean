/-! THE LAW: from mode() to its end -/
theorem SB.reg {m : Mem} {P Q L c k : Nat} {F : Tb} {n may v : Int} {hc : Nat → CEnv → Int} {cl : Nat → Int} (hk : k ≠ 7) (hS : SB m P Q L F c n may hc cl) : SB (_root_.Jvm.Pilot.@@N@@.setI m 1 k v) P Q L F c n may hc cl := by
  have hI : ∀ o k', ¬ (o = 1 ∧ k' = k) → mI (_root_.Jvm.Pilot.@@N@@.setI m 1 k v) o k' = mI m o k' := fun o k' h => if_neg h
  obtain ⟨s0, ⟨p1, p2, p3, p4, p5, p6, p7⟩, ⟨t1, t2, t3, t4, t5⟩, ⟨n1, n2, n3, n4, n5⟩, hcl, hcd, ha⟩ := hS
  refine ⟨s0, ⟨p1, p2, p3, p4, p5, p6, p7⟩, ⟨(hI P 1 (by omega)).trans t1, t2, t3, fun p w hp hw => (hI Q _ (by omega)).trans (t4 p w hp hw), t5⟩, ⟨(hI 2 1 (by omega)).trans n1, n2, n3, (hI 1 7 (by omega)).trans n4, n5⟩, fun k' hk' => ?_, fun w hw => ?_, ha⟩
  · rw [hI 3 k' (by omega)]; exact hcl k' hk'
  · obtain ⟨q, g1, g2⟩ := hcd w hw
    refine ⟨q, ?_, g2⟩
    cases q with
    | none => exact g1
    | some cd =>
      obtain ⟨y, x1, A', y1, y2, y3, y4, y5, y6, y7, y8, y9⟩ := g1
      exact ⟨y, x1, A', y1, y2, y3, y4, y5, y6, y7, fun k' z hz => (hI A' k' (by omega)).trans (y8 k' z hz), y9⟩
section LBG
variable {b m : Mem} {P Q L s M : Nat} {x : CX}
theorem LawM.big (hB : LawB b P Q L x) (h : LawM b m s) (hs : s ≤ 20) (hrm : mN b + 152000 ≤ NN + lnA b + lnB b ∧ mZ b + 322000 ≤ ZZ + 2 * lnA b + 2 * lnB b) : mN m + 151000 ≤ NN + lnA m + lnB m ∧ mZ m + 320000 ≤ ZZ + 2 * lnA m + 2 * lnB m := by
  obtain ⟨hf, A, B, LA, LB, h1, h2, h3, h4, h5⟩ := h
  have eA : lnA m = LA := by
    show (mT m ((mR m 9 2).getD 0)).2 = LA
    rw [h1.1]
    show (mT m A).2 = LA
    rw [h1.2.1]
  have eB : lnB m = LB := by
    show (mT m ((mR m 9 4).getD 0)).2 = LB
    rw [h2.1]
    show (mT m B).2 = LB
    rw [h2.2.1]
  rw [eA, eB]
  exact ⟨by omega, by omega⟩
theorem l_told0 (hB : LawB b P Q L x) (hm : LawM b m s) (hs : s ≤ 100) (hM : MtB b M x.2.2.1 []) : Ct μX10_told 4 [vr 0, vi 2] m (ri fun y m' => y = 0 ∧ m = m') := l_told hB hm hs hM (Or.inl rfl)
end LBG

set_option maxHeartbeats 8000000 in
theorem L_end {F : Nat} {m0 b : Mem} {post : Option AV → Mem → Prop} {P Q L rw W nn t5 : Nat} {cx : CX} {v : Nat → Nat → Int} {wv : Nat → Int} (hC : LawC b P Q L cx rw W nn v wv) (hF : 100 < F) {m : Mem} {s : Nat} (hs : s ≤ 9) (hm : LawM b m s) (hrm : mN b + 152000 ≤ NN + lnA b + lnB b ∧ mZ b + 322000 ≤ ZZ + 2 * lnA b + 2 * lnB b) (hreg : 0 ≤ mI b 1 4 ∧ mI b 1 4 ≤ 3 ∧ 0 ≤ mI b 1 5 ∧ mI b 1 5 ≤ 25) (hM : MtB b 5 cx.2.2.1 []) (h05 : mR b 0 5 = some 18) (hp : ∀ m, post (some (vi 1)) m) : _root_.Jvm.Pilot.@@N@@.V μL_law F m0 post 474 [(5, vr t5), (4, vr W), (3, vr rw), (2, vi ((nn : Nat) : Int)), (1, vr 0), (0, vr SC)] [] m := by
  have hB := hC.1
  have hnn := hC.2.2.2.1
  have hMm := hM.mv hB hm
  have h59 := hB.1.1.2.1
  have hbig := hm.big hB (by omega) hrm
  have hbig0 : mN m + 150000 ≤ NN + lnA m + lnB m ∧ mZ m + 310000 ≤ ZZ + 2 * lnA m + 2 * lnB m := ⟨by omega, by omega⟩
  have hzz : 0 ≤ mI m 1 4 ∧ mI m 1 4 ≤ 3 ∧ 0 ≤ mI m 1 5 ∧ mI m 1 5 ≤ 25 := by
    rw [hm.low hB (o := 1) (by decide) (by decide) 4, hm.low hB (o := 1) (by decide) (by decide) 5]
    exact hreg
  refine V_ld (pc := 474) dL_law_474 (v := vr SC) rfl rfl ?_
  refine V_bipush (pc := 475) dL_law_475 (by unfold I32; omega) (by decide) ?_
  refine V_iconst (pc := 477) dL_law_477 (by unfold I32; omega) ?_
  refine V_callS (pc := 478) dL_law_478 (F' := 1) (As := [vr SC, vi 45, vi 4]) (st := []) cw_RL_17 rfl rfl (Nat.le_of_ble_eq_true rfl) (by omega) (w_pick  m 45 4   (by omega)) ?_
  rintro _ _ ⟨mo, rfl, hx478, rfl⟩ ok478 le478
  refine V_st (pc := 481) dL_law_481 (ls' := [(6, vi mo), (5, vr t5), (4, vr W), (3, vr rw), (2, vi ((nn : Nat) : Int)), (1, vr 0), (0, vr SC)]) rfl (Nat.le_of_ble_eq_true rfl) rfl ?_
  refine V_ld (pc := 483) dL_law_483 (v := vr SC) rfl rfl ?_
  refine V_bipush (pc := 484) dL_law_484 (by unfold I32; omega) (by decide) ?_
  refine V_iconst (pc := 486) dL_law_486 (by unfold I32; omega) ?_
  refine V_callS (pc := 487) dL_law_487 (F' := 1) (As := [vr SC, vi 46, vi 3]) (st := []) cw_RL_17 rfl rfl (Nat.le_of_ble_eq_true rfl) (by omega) (w_pick  m 46 3   (by omega)) ?_
  rintro _ _ ⟨by_, rfl, hx487, rfl⟩ ok487 le487
  refine V_st (pc := 490) dL_law_490 (ls' := [(7, vi by_), (6, vi mo), (5, vr t5), (4, vr W), (3, vr rw), (2, vi ((nn : Nat) : Int)), (1, vr 0), (0, vr SC)]) rfl (Nat.le_of_ble_eq_true rfl) rfl ?_
  refine V_ld (pc := 492) dL_law_492 (v := vr SC) rfl rfl ?_
  refine V_bipush (pc := 493) dL_law_493 (by unfold I32; omega) (by decide) ?_
  refine V_iconst (pc := 495) dL_law_495 (by unfold I32; omega) ?_
  refine V_callS (pc := 496) dL_law_496 (F' := 1) (As := [vr SC, vi 47, vi 2]) (st := []) cw_RL_17 rfl rfl (Nat.le_of_ble_eq_true rfl) (by omega) (w_pick  m 47 2   (by omega)) ?_
  rintro _ _ ⟨on, rfl, hx496, rfl⟩ ok496 le496
  refine V_st (pc := 499) dL_law_499 (ls' := [(8, vi on), (7, vi by_), (6, vi mo), (5, vr t5), (4, vr W), (3, vr rw), (2, vi ((nn : Nat) : Int)), (1, vr 0), (0, vr SC)]) rfl (Nat.le_of_ble_eq_true rfl) rfl ?_
  refine V_ld (pc := 501) dL_law_501 (v := vr 0) rfl rfl ?_
  refine V_ld (pc := 502) dL_law_502 (v := vi mo) rfl rfl ?_
  refine V_ld (pc := 504) dL_law_504 (v := vi by_) rfl rfl ?_
  refine V_callV (pc := 506) dL_law_506 (F' := 1) (As := [vi mo, vi by_]) (st := []) cw_RL_187 rfl rfl (hm.sb hB (by omega)).1.1.t0 (by decide) (Nat.le_of_ble_eq_true rfl) (by omega) (l_mode (hm.sb hB (by omega)).1.1 hzz (by omega)) ?_
  rintro _ _ ⟨x506, rfl, -, rfl⟩ ok506 le506
  refine V_pop (pc := 509) dL_law_509 rfl ?_
  refine V_ld (pc := 510) dL_law_510 (v := vr 0) rfl rfl ?_
  refine V_ld (pc := 511) dL_law_511 (v := vi on) rfl rfl ?_
  refine V_callV (pc := 513) dL_law_513 (F' := 0) (As := [vi on]) (st := []) cw_RL_190 rfl rfl (mT_sI.trans (mT_sI.trans (hm.sb hB (by omega)).1.1.t0)) (by decide) (Nat.le_of_ble_eq_true rfl) (by omega) (l_emp (hm.sb hB (by omega)).1.1 (by omega)) ?_
  rintro _ _ ⟨x513, rfl, -, rfl⟩ ok513 le513
  refine V_pop (pc := 516) dL_law_516 rfl ?_
  refine V_ls (ls' := [(8, vi on), (7, vi by_), (6, vi mo), (2, vi ((nn : Nat) : Int)), (1, vr 0), (0, vr SC)]) (by intro q_ h_; simp only [List.mem_cons, List.not_mem_nil, or_false] at h_ ⊢; rcases h_ with rfl | rfl | rfl | rfl | rfl | rfl <;> simp) ?_
  refine V_abs (fun b2 => LawB b2 P Q L cx ∧ (mN b2 + 151000 ≤ NN + lnA b2 + lnB b2 ∧ mZ b2 + 320000 ≤ ZZ + 2 * lnA b2 + 2 * lnB b2) ∧ (mI b2 1 4 = mo ∧ mI b2 1 5 = by_ ∧ mI b2 1 6 = on ∧ 0 ≤ mo ∧ mo ≤ 3) ∧ mR b2 0 5 = some 18 ∧ MtB b2 5 cx.2.2.1 []) ⟨⟨(((hm.sb hB (by omega)).reg (by decide)).reg (by decide)).reg (by decide), hB.2.1, hbig0.1, hbig0.2⟩, hbig, ⟨rfl, rfl, rfl, by omega, by omega⟩, (hm.ref (by omega) (by decide)).trans h05, ⟨Or.inl rfl, hMm.2.1, ⟨hMm.2.2.1.1, fun j s e le hj => by simp at hj⟩, hMm.2.2.2⟩⟩ ?_
  rintro b2 ⟨hB2, hrm2, hmd2, h052, hM2⟩
  refine V_ld (pc := 517) dL_law_517 (v := vr 0) rfl rfl ?_
  refine V_callV (pc := 518) dL_law_518 (F' := 9) (As := []) (st := []) cw_RL_193 rfl rfl hB2.1.1.1.t0 (by decide) (Nat.le_of_ble_eq_true rfl) (by omega) (l_runA hB2 (LawM.rf hB2) (by omega) hrm2 hmd2 ⟨h052, Or.inr rfl, by decide⟩ hM2) ?_
  rintro _ m5 ⟨x518, rfl, -, hru⟩ ok518 le518
  rcases hru with ⟨hy, hB3, hM3⟩ | ⟨Jx, Ms, hy, hB3, hM3, hch, hreg3, h053, hr0, hr2⟩
  · subst hy
    have hB := hB3
    have hM := hM3
    have hm := LawM.rf hB
    refine V_st (pc := 521) dL_law_521 (ls' := [(9, vi (-7)), (8, vi on), (7, vi by_), (6, vi mo), (2, vi ((nn : Nat) : Int)), (1, vr 0), (0, vr SC)]) rfl (Nat.le_of_ble_eq_true rfl) rfl ?_
    refine V_iconst (pc := 523) dL_law_523 (by unfold I32; omega) ?_
    refine V_st (pc := 524) dL_law_524 (ls' := [(10, vi 0), (9, vi (-7)), (8, vi on), (7, vi by_), (6, vi mo), (2, vi ((nn : Nat) : Int)), (1, vr 0), (0, vr SC)]) rfl (Nat.le_of_ble_eq_true rfl) rfl ?_
    refine V_iconst (pc := 526) dL_law_526 (by unfold I32; omega) ?_
    refine V_st (pc := 527) dL_law_527 (ls' := [(11, vi 0), (10, vi 0), (9, vi (-7)), (8, vi on), (7, vi by_), (6, vi mo), (2, vi ((nn : Nat) : Int)), (1, vr 0), (0, vr SC)]) rfl (Nat.le_of_ble_eq_true rfl) rfl ?_
    refine V_iconst (pc := 529) dL_law_529 (by unfold I32; omega) ?_
    refine V_st (pc := 530) dL_law_530 (ls' := [(12, vi 0), (11, vi 0), (10, vi 0), (9, vi (-7)), (8, vi on), (7, vi by_), (6, vi mo), (2, vi ((nn : Nat) : Int)), (1, vr 0), (0, vr SC)]) rfl (Nat.le_of_ble_eq_true rfl) rfl ?_
    refine V_ld (pc := 532) dL_law_532 (v := vi 0) rfl rfl ?_
    refine V_ld (pc := 534) dL_law_534 (v := vi (-7)) rfl rfl ?_
    refine V_icmp_ge (pc := 536) dL_law_536 (tgt := 891) rfl (fun _ => ?_) (fun h_ => absurd h_ (by decide))
    refine V_iconst (pc := 891) dL_law_891 (by unfold I32; omega) ?_
    refine V_st (pc := 892) dL_law_892 (ls' := [(12, vi 0), (11, vi 0), (10, vi 0), (9, vi (-7)), (8, vi on), (7, vi by_), (6, vi mo), (2, vi ((nn : Nat) : Int)), (1, vr 0), (0, vr SC)]) rfl (Nat.le_of_ble_eq_true rfl) rfl ?_
    refine V_iconst (pc := 894) dL_law_894 (by unfold I32; omega) ?_
    refine V_st (pc := 895) dL_law_895 (ls' := [(13, vi 0), (12, vi 0), (11, vi 0), (10, vi 0), (9, vi (-7)), (8, vi on), (7, vi by_), (6, vi mo), (2, vi ((nn : Nat) : Int)), (1, vr 0), (0, vr SC)]) rfl (Nat.le_of_ble_eq_true rfl) rfl ?_
    refine V_ld (pc := 897) dL_law_897 (v := vi 0) rfl rfl ?_
    refine V_ld (pc := 899) dL_law_899 (v := vi ((nn : Nat) : Int)) rfl rfl ?_
    refine V_icmp_ge (pc := 900) dL_law_900 (tgt := 982) rfl (fun h900 => ?_) (fun h900 => ?_)
    · skip
      refine V_ld (pc := 982) dL_law_982 (v := vi (-7)) rfl rfl ?_
      refine V_if_ge (pc := 984) dL_law_984 (tgt := 1010) rfl (fun h_ => absurd h_ (by decide)) (fun _ => ?_)
      refine V_ld (pc := 987) dL_law_987 (v := vi (-7)) rfl rfl ?_
      refine V_bipush (pc := 989) dL_law_989 (by unfold I32; omega) (by decide) ?_
      refine V_icmp_ne (pc := 991) dL_law_991 (tgt := 1006) rfl (fun h_ => absurd h_ (by decide)) (fun _ => ?_)
      refine V_ld (pc := 994) dL_law_994 (v := vr 0) rfl rfl ?_
      refine V_iconst (pc := 995) dL_law_995 (by unfold I32; omega) ?_
      refine V_callV (pc := 996) dL_law_996 (F' := 4) (As := [vi 2]) (st := []) cw_RL_205 rfl rfl (hm.sb hB (by omega)).1.1.t0 (by decide) (Nat.le_of_ble_eq_true rfl) (by omega) (l_told0 hB hm (by omega) hM) ?_
      rintro _ _ ⟨x996, rfl, hx996, rfl⟩ ok996 le996
      subst hx996
      refine V_if_ne (pc := 999) dL_law_999 (tgt := 1006) rfl (fun h_ => absurd h_ (by decide)) (fun _ => ?_)
      refine V_iconst (pc := 1002) dL_law_1002 (by unfold I32; omega) ?_
      refine V_goto (pc := 1003) dL_law_1003 (tgt := 1045) rfl ?_
      exact V_ret (r := some (vi 1)) dL_law_1045 (show (1 : Int) = 0 ∨ (1 : Int) = 1 from Or.inr rfl) (hp _)
    · skip
      refine V_ld (pc := 903) dL_law_903 (v := vi (-7)) rfl rfl ?_
      refine V_if_lt (pc := 905) dL_law_905 (tgt := 982) rfl (fun _ => ?_) (fun h_ => absurd h_ (by decide))
      refine V_ld (pc := 982) dL_law_982 (v := vi (-7)) rfl rfl ?_
      refine V_if_ge (pc := 984) dL_law_984 (tgt := 1010) rfl (fun h_ => absurd h_ (by decide)) (fun _ => ?_)
      refine V_ld (pc := 987) dL_law_987 (v := vi (-7)) rfl rfl ?_
      refine V_bipush (pc := 989) dL_law_989 (by unfold I32; omega) (by decide) ?_
      refine V_icmp_ne (pc := 991) dL_law_991 (tgt := 1006) rfl (fun h_ => absurd h_ (by decide)) (fun _ => ?_)
      refine V_ld (pc := 994) dL_law_994 (v := vr 0) rfl rfl ?_
      refine V_iconst (pc := 995) dL_law_995 (by unfold I32; omega) ?_
      refine V_callV (pc := 996) dL_law_996 (F' := 4) (As := [vi 2]) (st := []) cw_RL_205 rfl rfl (hm.sb hB (by omega)).1.1.t0 (by decide) (Nat.le_of_ble_eq_true rfl) (by omega) (l_told0 hB hm (by omega) hM) ?_
      rintro _ _ ⟨x996, rfl, hx996, rfl⟩ ok996 le996
      subst hx996
      refine V_if_ne (pc := 999) dL_law_999 (tgt := 1006) rfl (fun h_ => absurd h_ (by decide)) (fun _ => ?_)
      refine V_iconst (pc := 1002) dL_law_1002 (by unfold I32; omega) ?_
      refine V_goto (pc := 1003) dL_law_1003 (tgt := 1045) rfl ?_
      exact V_ret (r := some (vi 1)) dL_law_1045 (show (1 : Int) = 0 ∨ (1 : Int) = 1 from Or.inr rfl) (hp _)
  · subst hy
    have hB := hB3
    have hM := hM3
    have hm := LawM.rf hB
    refine V_st (pc := 521) dL_law_521 (ls' := [(9, vi ((Ms.length : Nat) : Int)), (8, vi on), (7, vi by_), (6, vi mo), (2, vi ((nn : Nat) : Int)), (1, vr 0), (0, vr SC)]) rfl (Nat.le_of_ble_eq_true rfl) rfl ?_
    refine V_iconst (pc := 523) dL_law_523 (by unfold I32; omega) ?_
    refine V_st (pc := 524) dL_law_524 (ls' := [(10, vi 0), (9, vi ((Ms.length : Nat) : Int)), (8, vi on), (7, vi by_), (6, vi mo), (2, vi ((nn : Nat) : Int)), (1, vr 0), (0, vr SC)]) rfl (Nat.le_of_ble_eq_true rfl) rfl ?_
    refine V_iconst (pc := 526) dL_law_526 (by unfold I32; omega) ?_
    refine V_st (pc := 527) dL_law_527 (ls' := [(11, vi 0), (10, vi 0), (9, vi ((Ms.length : Nat) : Int)), (8, vi on), (7, vi by_), (6, vi mo), (2, vi ((nn : Nat) : Int)), (1, vr 0), (0, vr SC)]) rfl (Nat.le_of_ble_eq_true rfl) rfl ?_
    refine V_iconst (pc := 529) dL_law_529 (by unfold I32; omega) ?_
    refine V_st (pc := 530) dL_law_530 (ls' := [(12, vi 0), (11, vi 0), (10, vi 0), (9, vi ((Ms.length : Nat) : Int)), (8, vi on), (7, vi by_), (6, vi mo), (2, vi ((nn : Nat) : Int)), (1, vr 0), (0, vr SC)]) rfl (Nat.le_of_ble_eq_true rfl) rfl ?_
    skip
    refine L_mat hB hnn hM hF ⟨by omega, by omega⟩ (fun m2 hm2 => ?_) Ms.length 0 0 0 _ (by omega) (Int.le_refl _) hch hm
    refine V_iconst (pc := 891) dL_law_891 (by unfold I32; omega) ?_
    refine V_st (pc := 892) dL_law_892 (ls' := [(12, vi 0), (9, vi ((Ms.length : Nat) : Int)), (8, vi on), (7, vi by_), (6, vi mo), (2, vi ((nn : Nat) : Int)), (1, vr 0), (0, vr SC)]) rfl (Nat.le_of_ble_eq_true rfl) rfl ?_
    refine V_iconst (pc := 894) dL_law_894 (by unfold I32; omega) ?_
    refine V_st (pc := 895) dL_law_895 (ls' := [(13, vi 0), (12, vi 0), (9, vi ((Ms.length : Nat) : Int)), (8, vi on), (7, vi by_), (6, vi mo), (2, vi ((nn : Nat) : Int)), (1, vr 0), (0, vr SC)]) rfl (Nat.le_of_ble_eq_true rfl) rfl ?_
    skip
    refine L_rws hB hnn hM hF hm2 ?_ nn 0 (by omega)
    exact L_fin hB hnn hM hF hm2 ⟨hreg3.1, hreg3.2.1, hreg3.2.2, by omega, by omega⟩ ⟨h053, Or.inl rfl⟩ hr0 hr2 hp
