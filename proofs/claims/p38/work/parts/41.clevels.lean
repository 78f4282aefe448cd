/-! the class reads: pieces, sequences, choices, a whole text -/
theorem rep_q {tx : Nat → Int} {n : Nat} {A : Int × PS} (h : cS tx n A.2 = 42 ∨ cS tx n A.2 = 43 ∨ cS tx n A.2 = 63) : repP tx n A = tmP tx n (advP A.2) A.1 (if cS tx n A.2 = 43 then 1 else 0) (if cS tx n A.2 = 63 then 1 else 100) := by
  have w : (advP A.2).1 = true := (cS_lt (tx := tx) (n := n) (S := A.2) (by omega)).1
  have e : quantP tx n A.2 = (if cS tx n A.2 = 43 then 1 else 0, if cS tx n A.2 = 63 then 1 else 100, advP A.2) := if_neg (by omega)
  unfold repP tmP
  rw [if_pos (by omega), e]
  exact if_pos w

set_option maxHeartbeats 8000000 in
theorem c_piece (tx : Nat → Int) (n : Nat) (k : Nat) (S : PS) (m : Mem) (r : Nat) (deep : Int)   (hL : Lay (mT m) (mR m)) (hQ : PLay m r n) (hP : CP (mI m) r tx n S) (hk : deep + (k : Int) = 5) (hsub : ∀ k_ : Nat, k = k_ + 1 → CAlt tx n k_) : Ct μX5_piece (5 + 5 * k) [vr r, vi deep] m (ri fun x_ m' => ∃ I_ : Nat → Nat → Int, wI m I_ = m' ∧ (CFr r (mI m) I_) ∧ COut I_ r tx n (repC tx n k S) x_) := by
  refine Ct_of_V rfl (by decide) rfl (Nat.le_of_ble_eq_true rfl) ?_
  show V μX5_piece (5 + 5 * k) m _ 0 [(0, vr r), (1, vi deep)] [] m
  refine V_rg (k := 1) (x := deep) rfl fun r_deep => ?_
  obtain ⟨hcr0, hcr1⟩ := hP.cr
  have hn120 := hP.2.2.2.2.2.2.1
  have hb0 := hP.2.2.2.2.1
  have hb1 := hP.2.2.2.2.2.1
  have hr59 := hQ.1
  refine V_ld (pc := 0) dX5_piece_0 (v := vr r) rfl rfl ?_
  refine V_ld (pc := 1) dX5_piece_1 (v := vi deep) rfl rfl ?_
  refine V_callV (pc := 2) dX5_piece_2 (F' := (4 + 5 * k)) (As := [vi deep]) (st := []) cw_RX5_70 rfl rfl hQ.2.1 (by decide) (Nat.le_of_ble_eq_true rfl) (by omega) (c_atom tx n k S m r deep   (by first | assumption | omega) hQ hP hk hsub) ?_
  rintro _ _ ⟨x2, rfl, Ix2, rfl, hF2, (⟨hw2, rfl, hP2⟩ | ⟨hw2, rfl, hf2⟩)⟩ ok2 le2
  · skip
    have hn2 : 0 ≤ (atoC tx n k S).1 := nice_nn (atoC_nice tx n k S) hw2
    have hb2 := hP2.2.2.2.2.1
    refine V_st (pc := 5) dX5_piece_5 (ls' := [(2, vi ((atoC tx n k S).1)), (0, vr r), (1, vi deep)]) rfl (Nat.le_of_ble_eq_true rfl) rfl ?_
    refine V_ld (pc := 6) dX5_piece_6 (v := vi ((atoC tx n k S).1)) rfl rfl ?_
    refine V_if_ge (pc := 7) dX5_piece_7 (tgt := 12) rfl (fun h7 => ?_) (fun h7 => ?_)
    · skip
      obtain ⟨n1, n2, n3, n4, n5, n6, n7, n8⟩ := (atoC_nice tx n k S).2 hw2
      have hchA : chE (atoC tx n k S).2.2.2.2 ((atoC tx n k S).2.2.2.1 : Int) 1 (atoC tx n k S).1 := ⟨by omega, n6, n7⟩
      refine V_ld (pc := 12) dX5_piece_12 (v := vr r) rfl rfl ?_
      refine V_getRv (pc := 13) dX5_piece_13 (o' := 13) fw_RX5_15 rfl hQ.2.1 hQ.2.2.1 ?_
      refine V_ld (pc := 16) dX5_piece_16 (v := vr r) rfl rfl ?_
      refine V_getIv (pc := 17) dX5_piece_17 (v := ((atoC tx n k S).2.2.1 : Int)) fw_RX5_37 rfl hQ.2.1 hP2.2.1 (fun g17 => ?_)
      refine V_callV (pc := 20) dX5_piece_20 (F' := 0) (As := [vi ((atoC tx n k S).2.2.1 : Int)]) (st := []) cw_RX5_43 rfl rfl hL.t13 (by decide) (Nat.le_of_ble_eq_true rfl) (by omega) (c_Text_at  (wI m Ix2) 13 ((atoC tx n k S).2.2.1 : Int) 14  hL.t13 hL.r13_0 hL.t14) ?_
      rintro _ _ ⟨x20, rfl, hx20, rfl⟩ ok20 le20
      obtain rfl : x20 = cS tx n ((atoC tx n k S).2) := hx20.trans (CP.at hP2 rfl)
      obtain ⟨cr200, cr201⟩ := CP.cr hP2
      by_cases h23_42 : cS tx n ((atoC tx n k S).2) = 42
      · skip
        refine V_lsw (pc := 23) dX5_piece_23 (off := 41) (tgt := 64) (by decide) (by rw [h23_42]; decide) rfl ?_
        refine V_ld (pc := 64) dX5_piece_64 (v := vr r) rfl rfl ?_
        refine V_dup (pc := 65) dX5_piece_65 rfl ?_
        refine V_getIv (pc := 66) dX5_piece_66 (v := ((atoC tx n k S).2.2.1 : Int)) fw_RX5_37 rfl hQ.2.1 hP2.2.1 (fun g66 => ?_)
        refine V_iconst (pc := 69) dX5_piece_69 (by unfold I32; omega) ?_
        refine V_iadd (pc := 70) dX5_piece_70 (by unfold I32 at *; omega) ?_
        refine V_putI (pc := 71) dX5_piece_71 fw_RX5_37 rfl hQ.2.1 (Or.inl rfl) (Or.inl rfl) ?_
        have hA74 : CP (mI (setI (wI m Ix2) r 2 (((atoC tx n k S).2.2.1 : Int) + 1))) r tx n (advP ((atoC tx n k S).2)) := CP.adv hP2 rfl (cS_lt (tx := tx) (n := n) (S := ((atoC tx n k S).2)) (by omega)).2
        have ehA74 : (advP ((atoC tx n k S).2)).2.1 = ((atoC tx n k S).2).2.1 + 1 := rfl
        have fhA74 : (advP ((atoC tx n k S).2)).2.2.1 = ((atoC tx n k S).2).2.2.1 := rfl
        refine V_ld (pc := 74) dX5_piece_74 (v := vr r) rfl rfl ?_
        refine V_ld (pc := 75) dX5_piece_75 (v := vi ((atoC tx n k S).1)) rfl rfl ?_
        refine V_iconst (pc := 76) dX5_piece_76 (by unfold I32; omega) ?_
        refine V_bipush (pc := 77) dX5_piece_77 (by unfold I32; omega) (by decide) ?_
        refine V_callV (pc := 79) dX5_piece_79 (F' := 3) (As := [vi ((atoC tx n k S).1), vi 0, vi 100]) (st := []) cw_RX5_73 rfl rfl hQ.2.1 (by decide) (Nat.le_of_ble_eq_true rfl) (by omega) (c_repeated tx n (advP ((atoC tx n k S).2)) (setI (wI m Ix2) r 2 (((atoC tx n k S).2.2.1 : Int) + 1)) r ((atoC tx n k S).1) 0 100   (by first | assumption | omega) hQ hA74 hchA (by have h1_ : (advP (atoC tx n k S).2).2.2.1 = (atoC tx n k S).2.2.2.1 := rfl; have h2_ : (advP (atoC tx n k S).2).2.1 = (atoC tx n k S).2.2.1 + 1 := rfl; omega)) ?_
        rintro _ _ ⟨x79, rfl, Ix79, rfl, hx79, hO79⟩ ok79 le79
        refine V_reti (pc := 82) dX5_piece_82 trivial ?_
        have e_ : repC tx n k S = _ := rep_q (A := (atoC tx n k S)) (by omega)
        rw [if_neg (show ¬ cS tx n (atoC tx n k S).2 = 43 from by omega), if_neg (show ¬ cS tx n (atoC tx n k S).2 = 63 from by omega)] at e_
        refine ⟨mI (wI (setI (wI m Ix2) r 2 (((atoC tx n k S).2.2.1 : Int) + 1)) Ix79), rfl, (CFr.tr (CFr.set (CFr.tr CFr.rf hF2) (by omega)) hx79), ?_⟩
        rw [e_]
        exact hO79
      by_cases h23_43 : cS tx n ((atoC tx n k S).2) = 43
      · skip
        refine V_lsw (pc := 23) dX5_piece_23 (off := 60) (tgt := 83) (by decide) (by rw [h23_43]; decide) rfl ?_
        refine V_ld (pc := 83) dX5_piece_83 (v := vr r) rfl rfl ?_
        refine V_dup (pc := 84) dX5_piece_84 rfl ?_
        refine V_getIv (pc := 85) dX5_piece_85 (v := ((atoC tx n k S).2.2.1 : Int)) fw_RX5_37 rfl hQ.2.1 hP2.2.1 (fun g85 => ?_)
        refine V_iconst (pc := 88) dX5_piece_88 (by unfold I32; omega) ?_
        refine V_iadd (pc := 89) dX5_piece_89 (by unfold I32 at *; omega) ?_
        refine V_putI (pc := 90) dX5_piece_90 fw_RX5_37 rfl hQ.2.1 (Or.inl rfl) (Or.inl rfl) ?_
        have hA93 : CP (mI (setI (wI m Ix2) r 2 (((atoC tx n k S).2.2.1 : Int) + 1))) r tx n (advP ((atoC tx n k S).2)) := CP.adv hP2 rfl (cS_lt (tx := tx) (n := n) (S := ((atoC tx n k S).2)) (by omega)).2
        have ehA93 : (advP ((atoC tx n k S).2)).2.1 = ((atoC tx n k S).2).2.1 + 1 := rfl
        have fhA93 : (advP ((atoC tx n k S).2)).2.2.1 = ((atoC tx n k S).2).2.2.1 := rfl
        refine V_ld (pc := 93) dX5_piece_93 (v := vr r) rfl rfl ?_
        refine V_ld (pc := 94) dX5_piece_94 (v := vi ((atoC tx n k S).1)) rfl rfl ?_
        refine V_iconst (pc := 95) dX5_piece_95 (by unfold I32; omega) ?_
        refine V_bipush (pc := 96) dX5_piece_96 (by unfold I32; omega) (by decide) ?_
        refine V_callV (pc := 98) dX5_piece_98 (F' := 3) (As := [vi ((atoC tx n k S).1), vi 1, vi 100]) (st := []) cw_RX5_73 rfl rfl hQ.2.1 (by decide) (Nat.le_of_ble_eq_true rfl) (by omega) (c_repeated tx n (advP ((atoC tx n k S).2)) (setI (wI m Ix2) r 2 (((atoC tx n k S).2.2.1 : Int) + 1)) r ((atoC tx n k S).1) 1 100   (by first | assumption | omega) hQ hA93 hchA (by have h1_ : (advP (atoC tx n k S).2).2.2.1 = (atoC tx n k S).2.2.2.1 := rfl; have h2_ : (advP (atoC tx n k S).2).2.1 = (atoC tx n k S).2.2.1 + 1 := rfl; omega)) ?_
        rintro _ _ ⟨x98, rfl, Ix98, rfl, hx98, hO98⟩ ok98 le98
        refine V_reti (pc := 101) dX5_piece_101 trivial ?_
        have e_ : repC tx n k S = _ := rep_q (A := (atoC tx n k S)) (by omega)
        rw [if_pos (show cS tx n (atoC tx n k S).2 = 43 from by omega), if_neg (show ¬ cS tx n (atoC tx n k S).2 = 63 from by omega)] at e_
        refine ⟨mI (wI (setI (wI m Ix2) r 2 (((atoC tx n k S).2.2.1 : Int) + 1)) Ix98), rfl, (CFr.tr (CFr.set (CFr.tr CFr.rf hF2) (by omega)) hx98), ?_⟩
        rw [e_]
        exact hO98
      by_cases h23_63 : cS tx n ((atoC tx n k S).2) = 63
      · skip
        refine V_lsw (pc := 23) dX5_piece_23 (off := 79) (tgt := 102) (by decide) (by rw [h23_63]; decide) rfl ?_
        refine V_ld (pc := 102) dX5_piece_102 (v := vr r) rfl rfl ?_
        refine V_dup (pc := 103) dX5_piece_103 rfl ?_
        refine V_getIv (pc := 104) dX5_piece_104 (v := ((atoC tx n k S).2.2.1 : Int)) fw_RX5_37 rfl hQ.2.1 hP2.2.1 (fun g104 => ?_)
        refine V_iconst (pc := 107) dX5_piece_107 (by unfold I32; omega) ?_
        refine V_iadd (pc := 108) dX5_piece_108 (by unfold I32 at *; omega) ?_
        refine V_putI (pc := 109) dX5_piece_109 fw_RX5_37 rfl hQ.2.1 (Or.inl rfl) (Or.inl rfl) ?_
        have hA112 : CP (mI (setI (wI m Ix2) r 2 (((atoC tx n k S).2.2.1 : Int) + 1))) r tx n (advP ((atoC tx n k S).2)) := CP.adv hP2 rfl (cS_lt (tx := tx) (n := n) (S := ((atoC tx n k S).2)) (by omega)).2
        have ehA112 : (advP ((atoC tx n k S).2)).2.1 = ((atoC tx n k S).2).2.1 + 1 := rfl
        have fhA112 : (advP ((atoC tx n k S).2)).2.2.1 = ((atoC tx n k S).2).2.2.1 := rfl
        refine V_ld (pc := 112) dX5_piece_112 (v := vr r) rfl rfl ?_
        refine V_ld (pc := 113) dX5_piece_113 (v := vi ((atoC tx n k S).1)) rfl rfl ?_
        refine V_iconst (pc := 114) dX5_piece_114 (by unfold I32; omega) ?_
        refine V_iconst (pc := 115) dX5_piece_115 (by unfold I32; omega) ?_
        refine V_callV (pc := 116) dX5_piece_116 (F' := 3) (As := [vi ((atoC tx n k S).1), vi 0, vi 1]) (st := []) cw_RX5_73 rfl rfl hQ.2.1 (by decide) (Nat.le_of_ble_eq_true rfl) (by omega) (c_repeated tx n (advP ((atoC tx n k S).2)) (setI (wI m Ix2) r 2 (((atoC tx n k S).2.2.1 : Int) + 1)) r ((atoC tx n k S).1) 0 1   (by first | assumption | omega) hQ hA112 hchA (by have h1_ : (advP (atoC tx n k S).2).2.2.1 = (atoC tx n k S).2.2.2.1 := rfl; have h2_ : (advP (atoC tx n k S).2).2.1 = (atoC tx n k S).2.2.1 + 1 := rfl; omega)) ?_
        rintro _ _ ⟨x116, rfl, Ix116, rfl, hx116, hO116⟩ ok116 le116
        refine V_reti (pc := 119) dX5_piece_119 trivial ?_
        have e_ : repC tx n k S = _ := rep_q (A := (atoC tx n k S)) (by omega)
        rw [if_neg (show ¬ cS tx n (atoC tx n k S).2 = 43 from by omega), if_pos (show cS tx n (atoC tx n k S).2 = 63 from by omega)] at e_
        refine ⟨mI (wI (setI (wI m Ix2) r 2 (((atoC tx n k S).2.2.1 : Int) + 1)) Ix116), rfl, (CFr.tr (CFr.set (CFr.tr CFr.rf hF2) (by omega)) hx116), ?_⟩
        rw [e_]
        exact hO116
      by_cases h23_123 : cS tx n ((atoC tx n k S).2) = 123
      · skip
        refine V_lsw (pc := 23) dX5_piece_23 (off := 97) (tgt := 120) (by decide) (by rw [h23_123]; decide) rfl ?_
        refine V_ld (pc := 120) dX5_piece_120 (v := vr r) rfl rfl ?_
        refine V_dup (pc := 121) dX5_piece_121 rfl ?_
        refine V_getIv (pc := 122) dX5_piece_122 (v := ((atoC tx n k S).2.2.1 : Int)) fw_RX5_37 rfl hQ.2.1 hP2.2.1 (fun g122 => ?_)
        refine V_iconst (pc := 125) dX5_piece_125 (by unfold I32; omega) ?_
        refine V_iadd (pc := 126) dX5_piece_126 (by unfold I32 at *; omega) ?_
        refine V_putI (pc := 127) dX5_piece_127 fw_RX5_37 rfl hQ.2.1 (Or.inl rfl) (Or.inl rfl) ?_
        have hA130 : CP (mI (setI (wI m Ix2) r 2 (((atoC tx n k S).2.2.1 : Int) + 1))) r tx n (advP ((atoC tx n k S).2)) := CP.adv hP2 rfl (cS_lt (tx := tx) (n := n) (S := ((atoC tx n k S).2)) (by omega)).2
        have ehA130 : (advP ((atoC tx n k S).2)).2.1 = ((atoC tx n k S).2).2.1 + 1 := rfl
        have fhA130 : (advP ((atoC tx n k S).2)).2.2.1 = ((atoC tx n k S).2).2.2.1 := rfl
        refine V_ld (pc := 130) dX5_piece_130 (v := vr r) rfl rfl ?_
        refine V_ld (pc := 131) dX5_piece_131 (v := vi ((atoC tx n k S).1)) rfl rfl ?_
        refine V_callV (pc := 132) dX5_piece_132 (F' := 4) (As := [vi ((atoC tx n k S).1)]) (st := []) cw_RX5_76 rfl rfl hQ.2.1 (by decide) (Nat.le_of_ble_eq_true rfl) (by omega) (c_bounded tx n (advP ((atoC tx n k S).2)) (setI (wI m Ix2) r 2 (((atoC tx n k S).2.2.1 : Int) + 1)) r ((atoC tx n k S).1)   (by first | assumption | omega) hQ hA130 hchA (by have h1_ : (advP (atoC tx n k S).2).2.2.1 = (atoC tx n k S).2.2.2.1 := rfl; have h2_ : (advP (atoC tx n k S).2).2.1 = (atoC tx n k S).2.2.1 + 1 := rfl; omega)) ?_
        rintro _ _ ⟨x132, rfl, Ix132, rfl, hx132, hO132⟩ ok132 le132
        refine V_reti (pc := 135) dX5_piece_135 trivial ?_
        refine ⟨mI (wI (setI (wI m Ix2) r 2 (((atoC tx n k S).2.2.1 : Int) + 1)) Ix132), rfl, (CFr.tr (CFr.set (CFr.tr CFr.rf hF2) (by omega)) hx132), ?_⟩
        exact COut.Lq hO132 (bnd_Lq (A := (atoC tx n k S)) (by omega))
      refine V_lsw (pc := 23) dX5_piece_23 (off := 113) (tgt := 136) (by decide) (by simp [Op.lookupswitch.offset, List.find?, Ne.symm h23_42, h23_42, Ne.symm h23_43, h23_43, Ne.symm h23_63, h23_63, Ne.symm h23_123, h23_123]) rfl ?_
      refine V_ld (pc := 136) dX5_piece_136 (v := vi ((atoC tx n k S).1)) rfl rfl ?_
      refine V_reti (pc := 137) dX5_piece_137 trivial ?_
      have e_ : repC tx n k S = (atoC tx n k S) := if_neg (by omega)
      refine ⟨mI (wI m Ix2), rfl, (CFr.tr CFr.rf hF2), Or.inl ?_⟩
      rw [e_]
      exact ⟨hw2, rfl, hP2⟩
    · skip
      refine V_iconst (pc := 10) dX5_piece_10 (by unfold I32; omega) ?_
      refine V_reti (pc := 11) dX5_piece_11 trivial ?_
      exfalso; omega
  · skip
    refine V_st (pc := 5) dX5_piece_5 (ls' := [(2, vi (-1)), (0, vr r), (1, vi deep)]) rfl (Nat.le_of_ble_eq_true rfl) rfl ?_
    refine V_ld (pc := 6) dX5_piece_6 (v := vi (-1)) rfl rfl ?_
    refine V_if_ge (pc := 7) dX5_piece_7 (tgt := 12) rfl (fun h_ => absurd h_ (by decide)) (fun _ => ?_)
    refine V_iconst (pc := 10) dX5_piece_10 (by unfold I32; omega) ?_
    refine V_reti (pc := 11) dX5_piece_11 trivial ?_
    have e_ : repC tx n k S = (atoC tx n k S) := rep_dead hw2
    refine ⟨mI (wI m Ix2), rfl, (CFr.tr CFr.rf hF2), Or.inr ?_⟩
    rw [e_]
    exact ⟨hw2, rfl, hf2⟩

set_option maxHeartbeats 8000000 in
theorem L_cser {F : Nat} {m0 m : Mem} {post : Option AV → Mem → Prop} {tx : Nat → Int} {n k r : Nat} {deep one k0 : Int} {S0 : PS} (hL : Lay (mT m) (mR m)) (hQ : PLay m r n) (hFF : (5 + 5 * k) < F) (hk : deep + (k : Int) = 5) (hsub : ∀ k_ : Nat, k = k_ + 1 → CAlt tx n k_) : ∀ (f q : Nat) (last : Int) (S : PS) (I : Nat → Nat → Int), CP I r tx n S → LpI n S0 k0 q last S → 1 ≤ q → q ≤ S.2.1 → n + 1 ≤ S.2.1 + f → (∀ (last' i' : Int) (J : Nat → Nat → Int), ((lpG tx n (cSerD (dpL k)) (repC tx n k) f q last S).2.1 = true ∧ i' = ((lpG tx n (cSerD (dpL k)) (repC tx n k) f q last S).1 : Int) ∧ CP J r tx n (lpG tx n (cSerD (dpL k)) (repC tx n k) f q last S).2 ∧ LpI n S0 k0 (lpG tx n (cSerD (dpL k)) (repC tx n k) f q last S).1 last' (lpG tx n (cSerD (dpL k)) (repC tx n k) f q last S).2) ∨ ((lpG tx n (cSerD (dpL k)) (repC tx n k) f q last S).2.1 = false ∧ last' = -1 ∧ J r 3 = ((lpG tx n (cSerD (dpL k)) (repC tx n k) f q last S).2.2.1 : Int)) → CFr r I J → V μX5_sequence F m0 post 56 [(4, vi i'), (3, vi last'), (0, vr r), (1, vi deep), (2, vi one)] [] (wI m J)) → V μX5_sequence F m0 post 11 [(4, vi (q : Int)), (3, vi last), (0, vr r), (1, vi deep), (2, vi one)] [] (wI m I) := by
  intro f
  induction f with
  | zero =>
    intro q last S I hP hI hq1 hq3 hf kx
    have hfz := hP.2.2.2.2.1
    omega
  | succ f ih =>
    intro q last S I hP hI hq1 hq3 hf kx
    have hn120 := hP.2.2.2.2.2.2.1
    have hb0 := hP.2.2.2.2.1
    have hb1 := hP.2.2.2.2.2.1
    have hr59 := hQ.1
    obtain ⟨hcr0, hcr1⟩ := hP.cr
    have hS1 : S.1 = true := hP.2.2.2.2.2.2.2.2.2.1
    obtain ⟨ll1, ll2, ll3, ll4, ll5, ll6⟩ := hI.last hS1
    have ew : (lpG tx n (cSerD (dpL k)) (repC tx n k) (f + 1) q last S) = (if (cSerD (dpL k)) (cS tx n S) q then (if (repC tx n k S).2.1 = true then (lpG tx n (cSerD (dpL k)) (repC tx n k) f (q + 1) (repC tx n k S).1 (lnkP (repC tx n k S).2 last (repC tx n k S).1)) else (q, (repC tx n k S).2)) else (q, S)) := rfl
    refine V_rg (k := 1) (x := deep) rfl fun rr1 => ?_
    refine V_ld (pc := 11) dX5_sequence_11 (v := vi (q : Int)) rfl rfl ?_
    refine V_bipush (pc := 13) dX5_sequence_13 (by unfold I32; omega) (by decide) ?_
    refine V_icmp_gt (pc := 15) dX5_sequence_15 (tgt := 56) rfl (fun h15 => ?_) (fun h15 => ?_)
    · skip
      first
        | (exfalso; omega)
        | (have hc : ¬ (cSerD (dpL k)) (cS tx n S) q := by rw [isAtk_iff]; unfold isAtk at *; omega
           skip
           refine kx last q I (Or.inl ?_) CFr.rf
           rw [ew, if_neg hc]
           exact ⟨hS1, rfl, hP, hI⟩)
    · skip
      refine V_ld (pc := 18) dX5_sequence_18 (v := vi last) rfl rfl ?_
      refine V_if_lt (pc := 19) dX5_sequence_19 (tgt := 56) rfl (fun h19 => ?_) (fun h19 => ?_)
      · skip
        first
          | (exfalso; omega)
          | (have hc : ¬ (cSerD (dpL k)) (cS tx n S) q := by rw [isAtk_iff]; unfold isAtk at *; omega
             skip
             refine kx last q I (Or.inl ?_) CFr.rf
             rw [ew, if_neg hc]
             exact ⟨hS1, rfl, hP, hI⟩)
      · skip
        refine V_ld (pc := 22) dX5_sequence_22 (v := vr r) rfl rfl ?_
        refine V_ld (pc := 23) dX5_sequence_23 (v := vi deep) rfl rfl ?_
        refine V_callV (pc := 24) dX5_sequence_24 (F' := 1) (As := [vi deep]) (st := []) cw_RX5_64 rfl rfl hQ.2.1 (by decide) (Nat.le_of_ble_eq_true rfl) (by omega) (c_atomComes tx n k S (wI m I) r deep   (by first | assumption | omega) hQ hP hk) ?_
        rintro _ _ ⟨x24, rfl, hx24, rfl⟩ ok24 le24
        refine V_if_eq (pc := 27) dX5_sequence_27 (tgt := 56) rfl (fun h27 => ?_) (fun h27 => ?_)
        · skip
          first
            | (exfalso; omega)
            | (have hc : ¬ (cSerD (dpL k)) (cS tx n S) q := by rw [isAtk_iff]; unfold isAtk at *; omega
               skip
               refine kx last q I (Or.inl ?_) CFr.rf
               rw [ew, if_neg hc]
               exact ⟨hS1, rfl, hP, hI⟩)
        · skip
          have hc : (cSerD (dpL k)) (cS tx n S) q := by rw [isAtk_iff]; unfold isAtk at *; omega
          have hSl := (cS_lt (tx := tx) (n := n) (S := S) (by unfold isAtk at *; omega)).2
          refine V_ld (pc := 30) dX5_sequence_30 (v := vr r) rfl rfl ?_
          refine V_ld (pc := 31) dX5_sequence_31 (v := vi deep) rfl rfl ?_
          refine V_callV (pc := 32) dX5_sequence_32 (F' := (5 + 5 * k)) (As := [vi deep]) (st := []) cw_RX5_61 rfl rfl hQ.2.1 (by decide) (Nat.le_of_ble_eq_true rfl) (by omega) (c_piece tx n k S (wI m I) r deep   (by first | assumption | omega) hQ hP hk hsub) ?_
          rintro _ _ ⟨x32, rfl, Ix32, rfl, hF32, (⟨hw32, rfl, hP32⟩ | ⟨hw32, rfl, hf32⟩)⟩ ok32 le32
          · skip
            have hn32 : 0 ≤ (repC tx n k S).1 := nice_nn (repC_nice tx n k S) hw32
            have hb32 := hP32.2.2.2.2.1
            refine V_st (pc := 35) dX5_sequence_35 (ls' := [(5, vi ((repC tx n k S).1)), (4, vi (q : Int)), (3, vi last), (0, vr r), (1, vi deep), (2, vi one)]) rfl (Nat.le_of_ble_eq_true rfl) rfl ?_
            refine V_ld (pc := 37) dX5_sequence_37 (v := vr r) rfl rfl ?_
            obtain ⟨g1, g2, g3, g4, g5, g6, g7, g8⟩ := (repC_nice tx n k S).2 hw32
            skip
            refine V_getRv (pc := 38) dX5_sequence_38 (o' := (r + 1)) fw_RX5_29 rfl hQ.2.1 hQ.2.2.2.1 ?_
            refine V_ld (pc := 41) dX5_sequence_41 (v := vi last) rfl rfl ?_
            refine V_ld (pc := 42) dX5_sequence_42 (v := vi ((repC tx n k S).1)) rfl rfl ?_
            refine V_callV (pc := 44) dX5_sequence_44 (F' := 1) (As := [vi last, vi ((repC tx n k S).1)]) (st := []) cw_RX5_53 rfl rfl hQ.2.2.2.2.1 (by decide) (Nat.le_of_ble_eq_true rfl) (by omega) (c_link (18 * n) (wI (wI m I) Ix32) (r + 1) last ((repC tx n k S).1) (r + 2)  hQ.2.2.2.2.1 hQ.2.2.2.2.2.1 hQ.2.2.2.2.2.2 (by omega)) ?_
            rintro _ _ ⟨rfl, rfl⟩ ok44 le44
            refine V_ld (pc := 47) dX5_sequence_47 (v := vi ((repC tx n k S).1)) rfl rfl ?_
            refine V_st (pc := 49) dX5_sequence_49 (ls' := [(3, vi ((repC tx n k S).1)), (5, vi ((repC tx n k S).1)), (4, vi (q : Int)), (0, vr r), (1, vi deep), (2, vi one)]) rfl (Nat.le_of_ble_eq_true rfl) rfl ?_
            refine V_iinc (pc := 50) dX5_sequence_50 (x := (q : Int)) (ls' := [(4, vi ((q : Int) + 1)), (3, vi ((repC tx n k S).1)), (5, vi ((repC tx n k S).1)), (0, vr r), (1, vi deep), (2, vi one)]) rfl (by unfold I32 at *; omega) (Nat.le_of_ble_eq_true rfl) rfl ?_
            refine V_goto (pc := 53) dX5_sequence_53 (tgt := 11) rfl ?_
            refine V_ls (ls' := [(4, vi ((q : Int) + 1)), (3, vi ((repC tx n k S).1)), (0, vr r), (1, vi deep), (2, vi one)]) (by intro q_ h_; simp only [List.mem_cons, List.not_mem_nil, or_false] at h_ ⊢; rcases h_ with rfl | rfl | rfl | rfl | rfl <;> simp) ?_
            refine ih (q + 1) (repC tx n k S).1 (lnkP (repC tx n k S).2 last (repC tx n k S).1) (up2 Ix32 (r + 2) (last * 9 + 8).toNat (repC tx n k S).1) (CP.lnk hP32 ll1) (LpI.more (V := S) hI hS1 ⟨Nat.le_refl _, rfl⟩ (Nat.le_of_lt hSl) (repC_nice tx n k S) hw32) (by omega) ?_ ?_ ?_
            · show q + 1 ≤ (repC tx n k S).2.2.1; omega
            · show n + 1 ≤ (repC tx n k S).2.2.1 + f; omega
            · intro last' i' J hJ hFJ
              refine kx last' i' J ?_ (CFr.tr (CFr.set (CFr.tr CFr.rf hF32) (by omega)) hFJ)
              rw [ew, if_pos hc, if_pos hw32]
              exact hJ
          · skip
            refine V_st (pc := 35) dX5_sequence_35 (ls' := [(5, vi (-1)), (4, vi (q : Int)), (3, vi last), (0, vr r), (1, vi deep), (2, vi one)]) rfl (Nat.le_of_ble_eq_true rfl) rfl ?_
            refine V_ld (pc := 37) dX5_sequence_37 (v := vr r) rfl rfl ?_
            skip
            refine V_getRv (pc := 38) dX5_sequence_38 (o' := (r + 1)) fw_RX5_29 rfl hQ.2.1 hQ.2.2.2.1 ?_
            refine V_ld (pc := 41) dX5_sequence_41 (v := vi last) rfl rfl ?_
            refine V_ld (pc := 42) dX5_sequence_42 (v := vi (-1)) rfl rfl ?_
            refine V_callV (pc := 44) dX5_sequence_44 (F' := 1) (As := [vi last, vi (-1)]) (st := []) cw_RX5_53 rfl rfl hQ.2.2.2.2.1 (by decide) (Nat.le_of_ble_eq_true rfl) (by omega) (c_link (18 * n) (wI (wI m I) Ix32) (r + 1) last (-1) (r + 2)  hQ.2.2.2.2.1 hQ.2.2.2.2.2.1 hQ.2.2.2.2.2.2 (by omega)) ?_
            rintro _ _ ⟨rfl, rfl⟩ ok44 le44
            refine V_ld (pc := 47) dX5_sequence_47 (v := vi (-1)) rfl rfl ?_
            refine V_st (pc := 49) dX5_sequence_49 (ls' := [(3, vi (-1)), (5, vi (-1)), (4, vi (q : Int)), (0, vr r), (1, vi deep), (2, vi one)]) rfl (Nat.le_of_ble_eq_true rfl) rfl ?_
            refine V_iinc (pc := 50) dX5_sequence_50 (x := (q : Int)) (ls' := [(4, vi ((q : Int) + 1)), (3, vi (-1)), (5, vi (-1)), (0, vr r), (1, vi deep), (2, vi one)]) rfl (by unfold I32 at *; omega) (Nat.le_of_ble_eq_true rfl) rfl ?_
            refine V_goto (pc := 53) dX5_sequence_53 (tgt := 11) rfl ?_
            skip
            refine V_ld (pc := 11) dX5_sequence_11 (v := vi ((q : Int) + 1)) rfl rfl ?_
            refine V_bipush (pc := 13) dX5_sequence_13 (by unfold I32; omega) (by decide) ?_
            refine V_icmp_gt (pc := 15) dX5_sequence_15 (tgt := 56) rfl (fun h15 => ?_) (fun h15 => ?_)
            · skip
              refine V_ls (ls' := [(4, vi ((q : Int) + 1)), (3, vi (-1)), (0, vr r), (1, vi deep), (2, vi one)]) (by intro q_ h_; simp only [List.mem_cons, List.not_mem_nil, or_false] at h_ ⊢; rcases h_ with rfl | rfl | rfl | rfl | rfl <;> simp) ?_
              refine V_mem (m' := wI m (up2 Ix32 (r + 2) (last * 9 + 8).toNat (-1))) rfl ?_
              refine kx (-1) ((q : Int) + 1) (up2 Ix32 (r + 2) (last * 9 + 8).toNat (-1)) (Or.inr ?_) (CFr.set (CFr.tr CFr.rf hF32) (by omega))
              rw [ew, if_pos hc, if_neg (by rw [hw32]; exact Bool.false_ne_true)]
              exact ⟨hw32, rfl, (up2_no (by omega)).trans hf32⟩
            · skip
              refine V_ld (pc := 18) dX5_sequence_18 (v := vi (-1)) rfl rfl ?_
              refine V_if_lt (pc := 19) dX5_sequence_19 (tgt := 56) rfl (fun _ => ?_) (fun h_ => absurd h_ (by decide))
              refine V_ls (ls' := [(4, vi ((q : Int) + 1)), (3, vi (-1)), (0, vr r), (1, vi deep), (2, vi one)]) (by intro q_ h_; simp only [List.mem_cons, List.not_mem_nil, or_false] at h_ ⊢; rcases h_ with rfl | rfl | rfl | rfl | rfl <;> simp) ?_
              refine V_mem (m' := wI m (up2 Ix32 (r + 2) (last * 9 + 8).toNat (-1))) rfl ?_
              refine kx (-1) ((q : Int) + 1) (up2 Ix32 (r + 2) (last * 9 + 8).toNat (-1)) (Or.inr ?_) (CFr.set (CFr.tr CFr.rf hF32) (by omega))
              rw [ew, if_pos hc, if_neg (by rw [hw32]; exact Bool.false_ne_true)]
              exact ⟨hw32, rfl, (up2_no (by omega)).trans hf32⟩

set_option maxHeartbeats 8000000 in
theorem c_sequence (tx : Nat → Int) (n : Nat) (k : Nat) (S : PS) (m : Mem) (r : Nat) (deep : Int)   (hL : Lay (mT m) (mR m)) (hQ : PLay m r n) (hP : CP (mI m) r tx n S) (hk : deep + (k : Int) = 5) (hsub : ∀ k_ : Nat, k = k_ + 1 → CAlt tx n k_) : Ct μX5_sequence (6 + 5 * k) [vr r, vi deep] m (ri fun x_ m' => ∃ I_ : Nat → Nat → Int, wI m I_ = m' ∧ (CFr r (mI m) I_) ∧ COut I_ r tx n (serC tx n k S) x_) := by
  refine Ct_of_V rfl (by decide) rfl (Nat.le_of_ble_eq_true rfl) ?_
  show V μX5_sequence (6 + 5 * k) m _ 0 [(0, vr r), (1, vi deep)] [] m
  refine V_rg (k := 1) (x := deep) rfl fun r_deep => ?_
  obtain ⟨hcr0, hcr1⟩ := hP.cr
  have hn120 := hP.2.2.2.2.2.2.1
  have hb0 := hP.2.2.2.2.1
  have hb1 := hP.2.2.2.2.2.1
  have hr59 := hQ.1
  refine V_ld (pc := 0) dX5_sequence_0 (v := vr r) rfl rfl ?_
  refine V_ld (pc := 1) dX5_sequence_1 (v := vi deep) rfl rfl ?_
  refine V_callV (pc := 2) dX5_sequence_2 (F' := (5 + 5 * k)) (As := [vi deep]) (st := []) cw_RX5_61 rfl rfl hQ.2.1 (by decide) (Nat.le_of_ble_eq_true rfl) (by omega) (c_piece tx n k S m r deep   (by first | assumption | omega) hQ hP hk hsub) ?_
  rintro _ _ ⟨x2, rfl, Ix2, rfl, hF2, (⟨hw2, rfl, hP2⟩ | ⟨hw2, rfl, hf2⟩)⟩ ok2 le2
  · skip
    have hn2 : 0 ≤ (repC tx n k S).1 := nice_nn (repC_nice tx n k S) hw2
    have hb2 := hP2.2.2.2.2.1
    refine V_st (pc := 5) dX5_sequence_5 (ls' := [(2, vi ((repC tx n k S).1)), (0, vr r), (1, vi deep)]) rfl (Nat.le_of_ble_eq_true rfl) rfl ?_
    refine V_ld (pc := 6) dX5_sequence_6 (v := vi ((repC tx n k S).1)) rfl rfl ?_
    refine V_st (pc := 7) dX5_sequence_7 (ls' := [(3, vi ((repC tx n k S).1)), (2, vi ((repC tx n k S).1)), (0, vr r), (1, vi deep)]) rfl (Nat.le_of_ble_eq_true rfl) rfl ?_
    refine V_iconst (pc := 8) dX5_sequence_8 (by unfold I32; omega) ?_
    refine V_st (pc := 9) dX5_sequence_9 (ls' := [(4, vi 1), (3, vi ((repC tx n k S).1)), (2, vi ((repC tx n k S).1)), (0, vr r), (1, vi deep)]) rfl (Nat.le_of_ble_eq_true rfl) rfl ?_
    refine V_ls (ls' := [(4, vi 1), (3, vi ((repC tx n k S).1)), (0, vr r), (1, vi deep), (2, vi ((repC tx n k S).1))]) (by intro q_ h_; simp only [List.mem_cons, List.not_mem_nil, or_false] at h_ ⊢; rcases h_ with rfl | rfl | rfl | rfl | rfl <;> simp) ?_
    refine V_mem (m' := wI m Ix2) rfl ?_
    refine L_cser (m := m) (k := k) (r := r) (deep := deep) (one := (repC tx n k S).1) (k0 := (repC tx n k S).1) (S0 := S) hL hQ (by omega) hk hsub (n + 1) 1 (repC tx n k S).1 (repC tx n k S).2 Ix2 hP2 (LpI.one (repC_nice tx n k S)) (by omega) (by have h_ := ((LpI.one (repC_nice tx n k S)).2 (by assumption)).2.2.2.1; exact h_) (by omega) ?_
    have hLE : lpG tx n (cSerD (dpL k)) (repC tx n k) (n + 1) 1 (repC tx n k S).1 (repC tx n k S).2 = (lstP tx n (cSerD (dpL k)) (repC tx n k) (repC tx n k S)) := rfl
    rw [hLE]
    rintro last' i' J (⟨hwL, rfl, hJ, hI⟩ | ⟨hwL, rfl, hfL⟩) hFJ
    · skip
      obtain ⟨ll1, ll2, ll3, ll4, ll5, ll6⟩ := hI.last hwL
      have hbL := hJ.2.2.2.2.1
      obtain ⟨hcrL0, hcrL1⟩ := hJ.cr
      refine V_ld (pc := 56) dX5_sequence_56 (v := vi last') rfl rfl ?_
      refine V_if_lt (pc := 57) dX5_sequence_57 (tgt := 66) rfl (fun h57 => ?_) (fun h57 => ?_)
      · skip
        refine V_ld (pc := 66) dX5_sequence_66 (v := vi last') rfl rfl ?_
        refine V_goto (pc := 67) dX5_sequence_67 (tgt := 81) rfl ?_
        refine V_reti (pc := 81) dX5_sequence_81 trivial ?_
        first
          | (exfalso; omega)
          | (have e_ : serC tx n k S = ((repC tx n k S).1, (lstP tx n (cSerD (dpL k)) (repC tx n k) (repC tx n k S)).2) := by
               unfold serC serPD endP
               exact if_neg (fun h => by have h_ := h.2; omega)
             refine ⟨mI (wI m J), rfl, (CFr.tr (CFr.tr CFr.rf hF2) hFJ), Or.inl ?_⟩
             rw [e_]
             exact ⟨hwL, ll4 (by omega), hJ⟩)
      · skip
        refine V_ld (pc := 60) dX5_sequence_60 (v := vi ((lstP tx n (cSerD (dpL k)) (repC tx n k) (repC tx n k S)).1 : Int)) rfl rfl ?_
        refine V_iconst (pc := 62) dX5_sequence_62 (by unfold I32; omega) ?_
        refine V_icmp_ne (pc := 63) dX5_sequence_63 (tgt := 70) rfl (fun h63 => ?_) (fun h63 => ?_)
        · skip
          have hq1_ : 1 ≤ (lstP tx n (cSerD (dpL k)) (repC tx n k) (repC tx n k S)).1 := by
            have h_ := (hI.2 hwL).2.2.2.2.1
            exact (Pth.bd h_).2.2.2.1
          have e_ : serC tx n k S = rndP (lstP tx n (cSerD (dpL k)) (repC tx n k) (repC tx n k S)).2 3 (repC tx n k S).1 (lstP tx n (cSerD (dpL k)) (repC tx n k) (repC tx n k S)).1 := by
            unfold serC serPD endP
            exact if_pos ⟨hwL, by omega⟩
          refine V_ld (pc := 70) dX5_sequence_70 (v := vr r) rfl rfl ?_
          refine V_getRv (pc := 71) dX5_sequence_71 (o' := (r + 1)) fw_RX5_29 rfl hQ.2.1 hQ.2.2.2.1 ?_
          refine V_iconst (pc := 74) dX5_sequence_74 (by unfold I32; omega) ?_
          refine V_ld (pc := 75) dX5_sequence_75 (v := vi ((repC tx n k S).1)) rfl rfl ?_
          refine V_ld (pc := 76) dX5_sequence_76 (v := vi ((lstP tx n (cSerD (dpL k)) (repC tx n k) (repC tx n k S)).1 : Int)) rfl rfl ?_
          refine V_callV (pc := 78) dX5_sequence_78 (F' := 1) (As := [vi 3, vi ((repC tx n k S).1), vi ((lstP tx n (cSerD (dpL k)) (repC tx n k) (repC tx n k S)).1 : Int)]) (st := []) cw_RX5_57 rfl rfl hQ.2.2.2.2.1 (by decide) (Nat.le_of_ble_eq_true rfl) (by omega) (c_add (18 * n) ((lstP tx n (cSerD (dpL k)) (repC tx n k) (repC tx n k S)).2.2.2.2) ((lstP tx n (cSerD (dpL k)) (repC tx n k) (repC tx n k S)).2.2.2.1) ((lstP tx n (cSerD (dpL k)) (repC tx n k) (repC tx n k S)).1) (gT (lstP tx n (cSerD (dpL k)) (repC tx n k) (repC tx n k S)).2.2.2.2 3 (repC tx n k S).1 (lstP tx n (cSerD (dpL k)) (repC tx n k) (repC tx n k S)).1) (wI m J) (r + 1) 3 ((repC tx n k S).1) ((lstP tx n (cSerD (dpL k)) (repC tx n k) (repC tx n k S)).1 : Int) (r + 2)  hQ.2.2.2.2.1 hQ.2.2.2.2.2.1 hQ.2.2.2.2.2.2 (by omega) ⟨hJ.2.2.2.1, by omega, by omega⟩ hJ.2.2.2.2.2.2.2.2.1 ll3 rfl) ?_
          rintro _ _ ⟨x78, rfl, Ix78, rfl, rfl, hT78, hc78, hF78⟩ ok78 le78
          refine V_reti (pc := 81) dX5_sequence_81 trivial ?_
          refine ⟨mI (wI (wI m J) Ix78), rfl, (CFr.tr (CFr.tr (CFr.tr CFr.rf hF2) hFJ) (CFr.ofA hF78)), Or.inl ?_⟩
          rw [e_]
          exact ⟨hwL, rfl, CP.mk hJ (by omega) hT78 hc78 hF78⟩
        · skip
          refine V_ld (pc := 66) dX5_sequence_66 (v := vi last') rfl rfl ?_
          refine V_goto (pc := 67) dX5_sequence_67 (tgt := 81) rfl ?_
          refine V_reti (pc := 81) dX5_sequence_81 trivial ?_
          first
            | (exfalso; omega)
            | (have e_ : serC tx n k S = ((repC tx n k S).1, (lstP tx n (cSerD (dpL k)) (repC tx n k) (repC tx n k S)).2) := by
                 unfold serC serPD endP
                 exact if_neg (fun h => by have h_ := h.2; omega)
               refine ⟨mI (wI m J), rfl, (CFr.tr (CFr.tr CFr.rf hF2) hFJ), Or.inl ?_⟩
               rw [e_]
               exact ⟨hwL, ll4 (by omega), hJ⟩)
    · skip
      refine V_ld (pc := 56) dX5_sequence_56 (v := vi (-1)) rfl rfl ?_
      refine V_if_lt (pc := 57) dX5_sequence_57 (tgt := 66) rfl (fun _ => ?_) (fun h_ => absurd h_ (by decide))
      refine V_ld (pc := 66) dX5_sequence_66 (v := vi (-1)) rfl rfl ?_
      refine V_goto (pc := 67) dX5_sequence_67 (tgt := 81) rfl ?_
      refine V_reti (pc := 81) dX5_sequence_81 trivial ?_
      have e_ : serC tx n k S = ((repC tx n k S).1, (lstP tx n (cSerD (dpL k)) (repC tx n k) (repC tx n k S)).2) := by
        unfold serC serPD endP
        exact end_dead hwL
      refine ⟨mI (wI m J), rfl, (CFr.tr (CFr.tr CFr.rf hF2) hFJ), Or.inr ?_⟩
      rw [e_]
      exact ⟨hwL, rfl, hfL⟩
  · skip
    refine V_st (pc := 5) dX5_sequence_5 (ls' := [(2, vi (-1)), (0, vr r), (1, vi deep)]) rfl (Nat.le_of_ble_eq_true rfl) rfl ?_
    refine V_ld (pc := 6) dX5_sequence_6 (v := vi (-1)) rfl rfl ?_
    refine V_st (pc := 7) dX5_sequence_7 (ls' := [(3, vi (-1)), (2, vi (-1)), (0, vr r), (1, vi deep)]) rfl (Nat.le_of_ble_eq_true rfl) rfl ?_
    refine V_iconst (pc := 8) dX5_sequence_8 (by unfold I32; omega) ?_
    refine V_st (pc := 9) dX5_sequence_9 (ls' := [(4, vi 1), (3, vi (-1)), (2, vi (-1)), (0, vr r), (1, vi deep)]) rfl (Nat.le_of_ble_eq_true rfl) rfl ?_
    refine V_ld (pc := 11) dX5_sequence_11 (v := vi 1) rfl rfl ?_
    refine V_bipush (pc := 13) dX5_sequence_13 (by unfold I32; omega) (by decide) ?_
    refine V_icmp_gt (pc := 15) dX5_sequence_15 (tgt := 56) rfl (fun h_ => absurd h_ (by decide)) (fun _ => ?_)
    refine V_ld (pc := 18) dX5_sequence_18 (v := vi (-1)) rfl rfl ?_
    refine V_if_lt (pc := 19) dX5_sequence_19 (tgt := 56) rfl (fun _ => ?_) (fun h_ => absurd h_ (by decide))
    refine V_ld (pc := 56) dX5_sequence_56 (v := vi (-1)) rfl rfl ?_
    refine V_if_lt (pc := 57) dX5_sequence_57 (tgt := 66) rfl (fun _ => ?_) (fun h_ => absurd h_ (by decide))
    refine V_ld (pc := 66) dX5_sequence_66 (v := vi (-1)) rfl rfl ?_
    refine V_goto (pc := 67) dX5_sequence_67 (tgt := 81) rfl ?_
    refine V_reti (pc := 81) dX5_sequence_81 trivial ?_
    have e2_ : (lstP tx n (cSerD (dpL k)) (repC tx n k) (repC tx n k S)) = (1, (repC tx n k S).2) := lp_stop (by rw [cS_dead hw2]; unfold cSerD; omega)
    have e_ : serC tx n k S = ((repC tx n k S).1, (repC tx n k S).2) := by
      unfold serC serPD endP
      rw [e2_]
      exact end_dead hw2
    refine ⟨mI (wI m Ix2), rfl, (CFr.tr CFr.rf hF2), Or.inr ?_⟩
    rw [e_]
    exact ⟨hw2, rfl, hf2⟩

set_option maxHeartbeats 8000000 in
theorem L_calt {F : Nat} {m0 m : Mem} {post : Option AV → Mem → Prop} {tx : Nat → Int} {n k r : Nat} {deep one k0 : Int} {S0 : PS} (hL : Lay (mT m) (mR m)) (hQ : PLay m r n) (hFF : (6 + 5 * k) < F) (hk : deep + (k : Int) = 5) (hsub : ∀ k_ : Nat, k = k_ + 1 → CAlt tx n k_) : ∀ (f q : Nat) (last : Int) (S : PS) (I : Nat → Nat → Int), CP I r tx n S → LpI n S0 k0 q last S → 1 ≤ q → q ≤ S.2.1 → n + 1 ≤ S.2.1 + f → (∀ (last' i' : Int) (J : Nat → Nat → Int), ((lpG tx n cAlt (fun S => serC tx n k (advP S)) f q last S).2.1 = true ∧ i' = ((lpG tx n cAlt (fun S => serC tx n k (advP S)) f q last S).1 : Int) ∧ CP J r tx n (lpG tx n cAlt (fun S => serC tx n k (advP S)) f q last S).2 ∧ LpI n S0 k0 (lpG tx n cAlt (fun S => serC tx n k (advP S)) f q last S).1 last' (lpG tx n cAlt (fun S => serC tx n k (advP S)) f q last S).2) ∨ ((lpG tx n cAlt (fun S => serC tx n k (advP S)) f q last S).2.1 = false ∧ last' = -1 ∧ J r 3 = ((lpG tx n cAlt (fun S => serC tx n k (advP S)) f q last S).2.2.1 : Int)) → CFr r I J → V μX5_choice F m0 post 67 [(4, vi i'), (3, vi last'), (0, vr r), (1, vi deep), (2, vi one)] [] (wI m J)) → V μX5_choice F m0 post 11 [(4, vi (q : Int)), (3, vi last), (0, vr r), (1, vi deep), (2, vi one)] [] (wI m I) := by
  intro f
  induction f with
  | zero =>
    intro q last S I hP hI hq1 hq3 hf kx
    have hfz := hP.2.2.2.2.1
    omega
  | succ f ih =>
    intro q last S I hP hI hq1 hq3 hf kx
    have hn120 := hP.2.2.2.2.2.2.1
    have hb0 := hP.2.2.2.2.1
    have hb1 := hP.2.2.2.2.2.1
    have hr59 := hQ.1
    obtain ⟨hcr0, hcr1⟩ := hP.cr
    have hS1 : S.1 = true := hP.2.2.2.2.2.2.2.2.2.1
    obtain ⟨ll1, ll2, ll3, ll4, ll5, ll6⟩ := hI.last hS1
    have ew : (lpG tx n cAlt (fun S => serC tx n k (advP S)) (f + 1) q last S) = (if cAlt (cS tx n S) q then (if (serC tx n k (advP S)).2.1 = true then (lpG tx n cAlt (fun S => serC tx n k (advP S)) f (q + 1) (serC tx n k (advP S)).1 (lnkP (serC tx n k (advP S)).2 last (serC tx n k (advP S)).1)) else (q, (serC tx n k (advP S)).2)) else (q, S)) := rfl
    refine V_rg (k := 1) (x := deep) rfl fun rr1 => ?_
    refine V_ld (pc := 11) dX5_choice_11 (v := vi (q : Int)) rfl rfl ?_
    refine V_bipush (pc := 13) dX5_choice_13 (by unfold I32; omega) (by decide) ?_
    refine V_icmp_gt (pc := 15) dX5_choice_15 (tgt := 67) rfl (fun h15 => ?_) (fun h15 => ?_)
    · skip
      first
        | (exfalso; omega)
        | (have hc : ¬ cAlt (cS tx n S) q := by unfold cAlt; omega
           skip
           refine kx last q I (Or.inl ?_) CFr.rf
           rw [ew, if_neg hc]
           exact ⟨hS1, rfl, hP, hI⟩)
    · skip
      refine V_ld (pc := 18) dX5_choice_18 (v := vi last) rfl rfl ?_
      refine V_if_lt (pc := 19) dX5_choice_19 (tgt := 67) rfl (fun h19 => ?_) (fun h19 => ?_)
      · skip
        first
          | (exfalso; omega)
          | (have hc : ¬ cAlt (cS tx n S) q := by unfold cAlt; omega
             skip
             refine kx last q I (Or.inl ?_) CFr.rf
             rw [ew, if_neg hc]
             exact ⟨hS1, rfl, hP, hI⟩)
      · skip
        refine V_ld (pc := 22) dX5_choice_22 (v := vr r) rfl rfl ?_
        refine V_bipush (pc := 23) dX5_choice_23 (by unfold I32; omega) (by decide) ?_
        refine V_callV (pc := 25) dX5_choice_25 (F' := 1) (As := [vi 124]) (st := []) cw_RX5_49 rfl rfl hQ.2.1 (by decide) (Nat.le_of_ble_eq_true rfl) (by omega) (c_comes tx n S (wI m I) r 124   (by first | assumption | omega) hQ hP (by decide)) ?_
        rintro _ _ ⟨x25, rfl, hx25, rfl⟩ ok25 le25
        refine V_if_eq (pc := 28) dX5_choice_28 (tgt := 67) rfl (fun h28 => ?_) (fun h28 => ?_)
        · skip
          first
            | (exfalso; omega)
            | (have hc : ¬ cAlt (cS tx n S) q := by unfold cAlt; omega
               skip
               refine kx last q I (Or.inl ?_) CFr.rf
               rw [ew, if_neg hc]
               exact ⟨hS1, rfl, hP, hI⟩)
        · skip
          refine V_ld (pc := 31) dX5_choice_31 (v := vr r) rfl rfl ?_
          refine V_dup (pc := 32) dX5_choice_32 rfl ?_
          refine V_getIv (pc := 33) dX5_choice_33 (v := (S.2.1 : Int)) fw_RX5_37 rfl hQ.2.1 hP.2.1 (fun g33 => ?_)
          refine V_iconst (pc := 36) dX5_choice_36 (by unfold I32; omega) ?_
          refine V_iadd (pc := 37) dX5_choice_37 (by unfold I32 at *; omega) ?_
          refine V_putI (pc := 38) dX5_choice_38 fw_RX5_37 rfl hQ.2.1 (Or.inl rfl) (Or.inl rfl) ?_
          have hc : cAlt (cS tx n S) q := by unfold cAlt; omega
          have hSl := (cS_lt (tx := tx) (n := n) (S := S) (by omega)).2
          have hAa : CP (mI (setI (wI m I) r 2 ((S.2.1 : Int) + 1))) r tx n (advP S) := CP.adv hP rfl (cS_lt (tx := tx) (n := n) (S := S) (by omega)).2
          have ehAa : (advP S).2.1 = S.2.1 + 1 := rfl
          have fhAa : (advP S).2.2.1 = S.2.2.1 := rfl
          refine V_ld (pc := 41) dX5_choice_41 (v := vr r) rfl rfl ?_
          refine V_ld (pc := 42) dX5_choice_42 (v := vi deep) rfl rfl ?_
          refine V_callV (pc := 43) dX5_choice_43 (F' := (6 + 5 * k)) (As := [vi deep]) (st := []) cw_RX5_46 rfl rfl hQ.2.1 (by decide) (Nat.le_of_ble_eq_true rfl) (by omega) (c_sequence tx n k (advP S) (setI (wI m I) r 2 ((S.2.1 : Int) + 1)) r deep   (by first | assumption | omega) hQ hAa hk hsub) ?_
          rintro _ _ ⟨x43, rfl, Ix43, rfl, hF43, (⟨hw43, rfl, hP43⟩ | ⟨hw43, rfl, hf43⟩)⟩ ok43 le43
          · skip
            have hn43 : 0 ≤ (serC tx n k (advP S)).1 := nice_nn (serC_nice tx n k (advP S)) hw43
            have hb43 := hP43.2.2.2.2.1
            refine V_st (pc := 46) dX5_choice_46 (ls' := [(5, vi ((serC tx n k (advP S)).1)), (4, vi (q : Int)), (3, vi last), (0, vr r), (1, vi deep), (2, vi one)]) rfl (Nat.le_of_ble_eq_true rfl) rfl ?_
            refine V_ld (pc := 48) dX5_choice_48 (v := vr r) rfl rfl ?_
            obtain ⟨g1, g2, g3, g4, g5, g6, g7, g8⟩ := (serC_nice tx n k (advP S)).2 hw43
            have g9 : (advP S).2.1 = S.2.1 + 1 := rfl
            refine V_getRv (pc := 49) dX5_choice_49 (o' := (r + 1)) fw_RX5_29 rfl hQ.2.1 hQ.2.2.2.1 ?_
            refine V_ld (pc := 52) dX5_choice_52 (v := vi last) rfl rfl ?_
            refine V_ld (pc := 53) dX5_choice_53 (v := vi ((serC tx n k (advP S)).1)) rfl rfl ?_
            refine V_callV (pc := 55) dX5_choice_55 (F' := 1) (As := [vi last, vi ((serC tx n k (advP S)).1)]) (st := []) cw_RX5_53 rfl rfl hQ.2.2.2.2.1 (by decide) (Nat.le_of_ble_eq_true rfl) (by omega) (c_link (18 * n) (wI (setI (wI m I) r 2 ((S.2.1 : Int) + 1)) Ix43) (r + 1) last ((serC tx n k (advP S)).1) (r + 2)  hQ.2.2.2.2.1 hQ.2.2.2.2.2.1 hQ.2.2.2.2.2.2 (by omega)) ?_
            rintro _ _ ⟨rfl, rfl⟩ ok55 le55
            refine V_ld (pc := 58) dX5_choice_58 (v := vi ((serC tx n k (advP S)).1)) rfl rfl ?_
            refine V_st (pc := 60) dX5_choice_60 (ls' := [(3, vi ((serC tx n k (advP S)).1)), (5, vi ((serC tx n k (advP S)).1)), (4, vi (q : Int)), (0, vr r), (1, vi deep), (2, vi one)]) rfl (Nat.le_of_ble_eq_true rfl) rfl ?_
            refine V_iinc (pc := 61) dX5_choice_61 (x := (q : Int)) (ls' := [(4, vi ((q : Int) + 1)), (3, vi ((serC tx n k (advP S)).1)), (5, vi ((serC tx n k (advP S)).1)), (0, vr r), (1, vi deep), (2, vi one)]) rfl (by unfold I32 at *; omega) (Nat.le_of_ble_eq_true rfl) rfl ?_
            refine V_goto (pc := 64) dX5_choice_64 (tgt := 11) rfl ?_
            refine V_ls (ls' := [(4, vi ((q : Int) + 1)), (3, vi ((serC tx n k (advP S)).1)), (0, vr r), (1, vi deep), (2, vi one)]) (by intro q_ h_; simp only [List.mem_cons, List.not_mem_nil, or_false] at h_ ⊢; rcases h_ with rfl | rfl | rfl | rfl | rfl <;> simp) ?_
            refine ih (q + 1) (serC tx n k (advP S)).1 (lnkP (serC tx n k (advP S)).2 last (serC tx n k (advP S)).1) (up2 Ix43 (r + 2) (last * 9 + 8).toNat (serC tx n k (advP S)).1) (CP.lnk hP43 ll1) (LpI.more (V := advP S) hI hS1 ⟨Nat.le_succ _, rfl⟩ hSl (serC_nice tx n k (advP S)) hw43) (by omega) ?_ ?_ ?_
            · show q + 1 ≤ (serC tx n k (advP S)).2.2.1; omega
            · show n + 1 ≤ (serC tx n k (advP S)).2.2.1 + f; omega
            · intro last' i' J hJ hFJ
              refine kx last' i' J ?_ (CFr.tr (CFr.set (CFr.tr (CFr.set CFr.rf (by omega)) hF43) (by omega)) hFJ)
              rw [ew, if_pos hc, if_pos hw43]
              exact hJ
          · skip
            refine V_st (pc := 46) dX5_choice_46 (ls' := [(5, vi (-1)), (4, vi (q : Int)), (3, vi last), (0, vr r), (1, vi deep), (2, vi one)]) rfl (Nat.le_of_ble_eq_true rfl) rfl ?_
            refine V_ld (pc := 48) dX5_choice_48 (v := vr r) rfl rfl ?_
            skip
            refine V_getRv (pc := 49) dX5_choice_49 (o' := (r + 1)) fw_RX5_29 rfl hQ.2.1 hQ.2.2.2.1 ?_
            refine V_ld (pc := 52) dX5_choice_52 (v := vi last) rfl rfl ?_
            refine V_ld (pc := 53) dX5_choice_53 (v := vi (-1)) rfl rfl ?_
            refine V_callV (pc := 55) dX5_choice_55 (F' := 1) (As := [vi last, vi (-1)]) (st := []) cw_RX5_53 rfl rfl hQ.2.2.2.2.1 (by decide) (Nat.le_of_ble_eq_true rfl) (by omega) (c_link (18 * n) (wI (setI (wI m I) r 2 ((S.2.1 : Int) + 1)) Ix43) (r + 1) last (-1) (r + 2)  hQ.2.2.2.2.1 hQ.2.2.2.2.2.1 hQ.2.2.2.2.2.2 (by omega)) ?_
            rintro _ _ ⟨rfl, rfl⟩ ok55 le55
            refine V_ld (pc := 58) dX5_choice_58 (v := vi (-1)) rfl rfl ?_
            refine V_st (pc := 60) dX5_choice_60 (ls' := [(3, vi (-1)), (5, vi (-1)), (4, vi (q : Int)), (0, vr r), (1, vi deep), (2, vi one)]) rfl (Nat.le_of_ble_eq_true rfl) rfl ?_
            refine V_iinc (pc := 61) dX5_choice_61 (x := (q : Int)) (ls' := [(4, vi ((q : Int) + 1)), (3, vi (-1)), (5, vi (-1)), (0, vr r), (1, vi deep), (2, vi one)]) rfl (by unfold I32 at *; omega) (Nat.le_of_ble_eq_true rfl) rfl ?_
            refine V_goto (pc := 64) dX5_choice_64 (tgt := 11) rfl ?_
            skip
            refine V_ld (pc := 11) dX5_choice_11 (v := vi ((q : Int) + 1)) rfl rfl ?_
            refine V_bipush (pc := 13) dX5_choice_13 (by unfold I32; omega) (by decide) ?_
            refine V_icmp_gt (pc := 15) dX5_choice_15 (tgt := 67) rfl (fun h15 => ?_) (fun h15 => ?_)
            · skip
              refine V_ls (ls' := [(4, vi ((q : Int) + 1)), (3, vi (-1)), (0, vr r), (1, vi deep), (2, vi one)]) (by intro q_ h_; simp only [List.mem_cons, List.not_mem_nil, or_false] at h_ ⊢; rcases h_ with rfl | rfl | rfl | rfl | rfl <;> simp) ?_
              refine V_mem (m' := wI m (up2 Ix43 (r + 2) (last * 9 + 8).toNat (-1))) rfl ?_
              refine kx (-1) ((q : Int) + 1) (up2 Ix43 (r + 2) (last * 9 + 8).toNat (-1)) (Or.inr ?_) (CFr.set (CFr.tr (CFr.set CFr.rf (by omega)) hF43) (by omega))
              rw [ew, if_pos hc, if_neg (by rw [hw43]; exact Bool.false_ne_true)]
              exact ⟨hw43, rfl, (up2_no (by omega)).trans hf43⟩
            · skip
              refine V_ld (pc := 18) dX5_choice_18 (v := vi (-1)) rfl rfl ?_
              refine V_if_lt (pc := 19) dX5_choice_19 (tgt := 67) rfl (fun _ => ?_) (fun h_ => absurd h_ (by decide))
              refine V_ls (ls' := [(4, vi ((q : Int) + 1)), (3, vi (-1)), (0, vr r), (1, vi deep), (2, vi one)]) (by intro q_ h_; simp only [List.mem_cons, List.not_mem_nil, or_false] at h_ ⊢; rcases h_ with rfl | rfl | rfl | rfl | rfl <;> simp) ?_
              refine V_mem (m' := wI m (up2 Ix43 (r + 2) (last * 9 + 8).toNat (-1))) rfl ?_
              refine kx (-1) ((q : Int) + 1) (up2 Ix43 (r + 2) (last * 9 + 8).toNat (-1)) (Or.inr ?_) (CFr.set (CFr.tr (CFr.set CFr.rf (by omega)) hF43) (by omega))
              rw [ew, if_pos hc, if_neg (by rw [hw43]; exact Bool.false_ne_true)]
              exact ⟨hw43, rfl, (up2_no (by omega)).trans hf43⟩

set_option maxHeartbeats 8000000 in
theorem c_choice (tx : Nat → Int) (n : Nat) (k : Nat) (S : PS) (m : Mem) (r : Nat) (deep : Int)   (hL : Lay (mT m) (mR m)) (hQ : PLay m r n) (hP : CP (mI m) r tx n S) (hk : deep + (k : Int) = 5) (hsub : ∀ k_ : Nat, k = k_ + 1 → CAlt tx n k_) : Ct μX5_choice (7 + 5 * k) [vr r, vi deep] m (ri fun x_ m' => ∃ I_ : Nat → Nat → Int, wI m I_ = m' ∧ (CFr r (mI m) I_) ∧ COut I_ r tx n (altC tx n k S) x_) := by
  refine Ct_of_V rfl (by decide) rfl (Nat.le_of_ble_eq_true rfl) ?_
  show V μX5_choice (7 + 5 * k) m _ 0 [(0, vr r), (1, vi deep)] [] m
  refine V_rg (k := 1) (x := deep) rfl fun r_deep => ?_
  obtain ⟨hcr0, hcr1⟩ := hP.cr
  have hn120 := hP.2.2.2.2.2.2.1
  have hb0 := hP.2.2.2.2.1
  have hb1 := hP.2.2.2.2.2.1
  have hr59 := hQ.1
  refine V_ld (pc := 0) dX5_choice_0 (v := vr r) rfl rfl ?_
  refine V_ld (pc := 1) dX5_choice_1 (v := vi deep) rfl rfl ?_
  refine V_callV (pc := 2) dX5_choice_2 (F' := (6 + 5 * k)) (As := [vi deep]) (st := []) cw_RX5_46 rfl rfl hQ.2.1 (by decide) (Nat.le_of_ble_eq_true rfl) (by omega) (c_sequence tx n k S m r deep   (by first | assumption | omega) hQ hP hk hsub) ?_
  rintro _ _ ⟨x2, rfl, Ix2, rfl, hF2, (⟨hw2, rfl, hP2⟩ | ⟨hw2, rfl, hf2⟩)⟩ ok2 le2
  · skip
    have hn2 : 0 ≤ (serC tx n k S).1 := nice_nn (serC_nice tx n k S) hw2
    have hb2 := hP2.2.2.2.2.1
    refine V_st (pc := 5) dX5_choice_5 (ls' := [(2, vi ((serC tx n k S).1)), (0, vr r), (1, vi deep)]) rfl (Nat.le_of_ble_eq_true rfl) rfl ?_
    refine V_ld (pc := 6) dX5_choice_6 (v := vi ((serC tx n k S).1)) rfl rfl ?_
    refine V_st (pc := 7) dX5_choice_7 (ls' := [(3, vi ((serC tx n k S).1)), (2, vi ((serC tx n k S).1)), (0, vr r), (1, vi deep)]) rfl (Nat.le_of_ble_eq_true rfl) rfl ?_
    refine V_iconst (pc := 8) dX5_choice_8 (by unfold I32; omega) ?_
    refine V_st (pc := 9) dX5_choice_9 (ls' := [(4, vi 1), (3, vi ((serC tx n k S).1)), (2, vi ((serC tx n k S).1)), (0, vr r), (1, vi deep)]) rfl (Nat.le_of_ble_eq_true rfl) rfl ?_
    refine V_ls (ls' := [(4, vi 1), (3, vi ((serC tx n k S).1)), (0, vr r), (1, vi deep), (2, vi ((serC tx n k S).1))]) (by intro q_ h_; simp only [List.mem_cons, List.not_mem_nil, or_false] at h_ ⊢; rcases h_ with rfl | rfl | rfl | rfl | rfl <;> simp) ?_
    refine V_mem (m' := wI m Ix2) rfl ?_
    refine L_calt (m := m) (k := k) (r := r) (deep := deep) (one := (serC tx n k S).1) (k0 := (serC tx n k S).1) (S0 := S) hL hQ (by omega) hk hsub (n + 1) 1 (serC tx n k S).1 (serC tx n k S).2 Ix2 hP2 (LpI.one (serC_nice tx n k S)) (by omega) (by have h_ := ((LpI.one (serC_nice tx n k S)).2 (by assumption)).2.2.2.1; exact h_) (by omega) ?_
    have hLE : lpG tx n cAlt (fun S => serC tx n k (advP S)) (n + 1) 1 (serC tx n k S).1 (serC tx n k S).2 = (lstP tx n cAlt (fun S => serC tx n k (advP S)) (serC tx n k S)) := rfl
    rw [hLE]
    rintro last' i' J (⟨hwL, rfl, hJ, hI⟩ | ⟨hwL, rfl, hfL⟩) hFJ
    · skip
      obtain ⟨ll1, ll2, ll3, ll4, ll5, ll6⟩ := hI.last hwL
      have hbL := hJ.2.2.2.2.1
      obtain ⟨hcrL0, hcrL1⟩ := hJ.cr
      refine V_ld (pc := 67) dX5_choice_67 (v := vi last') rfl rfl ?_
      refine V_if_lt (pc := 68) dX5_choice_68 (tgt := 77) rfl (fun h68 => ?_) (fun h68 => ?_)
      · skip
        refine V_ld (pc := 77) dX5_choice_77 (v := vi last') rfl rfl ?_
        refine V_goto (pc := 78) dX5_choice_78 (tgt := 92) rfl ?_
        refine V_reti (pc := 92) dX5_choice_92 trivial ?_
        first
          | (exfalso; omega)
          | (have e_ : altC tx n k S = ((serC tx n k S).1, (lstP tx n cAlt (fun S => serC tx n k (advP S)) (serC tx n k S)).2) := by
               rw [altC_eq]; unfold altP endP
               exact if_neg (fun h => by have h_ := h.2; omega)
             refine ⟨mI (wI m J), rfl, (CFr.tr (CFr.tr CFr.rf hF2) hFJ), Or.inl ?_⟩
             rw [e_]
             exact ⟨hwL, ll4 (by omega), hJ⟩)
      · skip
        refine V_ld (pc := 71) dX5_choice_71 (v := vi ((lstP tx n cAlt (fun S => serC tx n k (advP S)) (serC tx n k S)).1 : Int)) rfl rfl ?_
        refine V_iconst (pc := 73) dX5_choice_73 (by unfold I32; omega) ?_
        refine V_icmp_ne (pc := 74) dX5_choice_74 (tgt := 81) rfl (fun h74 => ?_) (fun h74 => ?_)
        · skip
          have hq1_ : 1 ≤ (lstP tx n cAlt (fun S => serC tx n k (advP S)) (serC tx n k S)).1 := by
            have h_ := (hI.2 hwL).2.2.2.2.1
            exact (Pth.bd h_).2.2.2.1
          have e_ : altC tx n k S = rndP (lstP tx n cAlt (fun S => serC tx n k (advP S)) (serC tx n k S)).2 4 (serC tx n k S).1 (lstP tx n cAlt (fun S => serC tx n k (advP S)) (serC tx n k S)).1 := by
            rw [altC_eq]; unfold altP endP
            exact if_pos ⟨hwL, by omega⟩
          refine V_ld (pc := 81) dX5_choice_81 (v := vr r) rfl rfl ?_
          refine V_getRv (pc := 82) dX5_choice_82 (o' := (r + 1)) fw_RX5_29 rfl hQ.2.1 hQ.2.2.2.1 ?_
          refine V_iconst (pc := 85) dX5_choice_85 (by unfold I32; omega) ?_
          refine V_ld (pc := 86) dX5_choice_86 (v := vi ((serC tx n k S).1)) rfl rfl ?_
          refine V_ld (pc := 87) dX5_choice_87 (v := vi ((lstP tx n cAlt (fun S => serC tx n k (advP S)) (serC tx n k S)).1 : Int)) rfl rfl ?_
          refine V_callV (pc := 89) dX5_choice_89 (F' := 1) (As := [vi 4, vi ((serC tx n k S).1), vi ((lstP tx n cAlt (fun S => serC tx n k (advP S)) (serC tx n k S)).1 : Int)]) (st := []) cw_RX5_57 rfl rfl hQ.2.2.2.2.1 (by decide) (Nat.le_of_ble_eq_true rfl) (by omega) (c_add (18 * n) ((lstP tx n cAlt (fun S => serC tx n k (advP S)) (serC tx n k S)).2.2.2.2) ((lstP tx n cAlt (fun S => serC tx n k (advP S)) (serC tx n k S)).2.2.2.1) ((lstP tx n cAlt (fun S => serC tx n k (advP S)) (serC tx n k S)).1) (gT (lstP tx n cAlt (fun S => serC tx n k (advP S)) (serC tx n k S)).2.2.2.2 4 (serC tx n k S).1 (lstP tx n cAlt (fun S => serC tx n k (advP S)) (serC tx n k S)).1) (wI m J) (r + 1) 4 ((serC tx n k S).1) ((lstP tx n cAlt (fun S => serC tx n k (advP S)) (serC tx n k S)).1 : Int) (r + 2)  hQ.2.2.2.2.1 hQ.2.2.2.2.2.1 hQ.2.2.2.2.2.2 (by omega) ⟨hJ.2.2.2.1, by omega, by omega⟩ hJ.2.2.2.2.2.2.2.2.1 ll3 rfl) ?_
          rintro _ _ ⟨x89, rfl, Ix89, rfl, rfl, hT89, hc89, hF89⟩ ok89 le89
          refine V_reti (pc := 92) dX5_choice_92 trivial ?_
          refine ⟨mI (wI (wI m J) Ix89), rfl, (CFr.tr (CFr.tr (CFr.tr CFr.rf hF2) hFJ) (CFr.ofA hF89)), Or.inl ?_⟩
          rw [e_]
          exact ⟨hwL, rfl, CP.mk hJ (by omega) hT89 hc89 hF89⟩
        · skip
          refine V_ld (pc := 77) dX5_choice_77 (v := vi last') rfl rfl ?_
          refine V_goto (pc := 78) dX5_choice_78 (tgt := 92) rfl ?_
          refine V_reti (pc := 92) dX5_choice_92 trivial ?_
          first
            | (exfalso; omega)
            | (have e_ : altC tx n k S = ((serC tx n k S).1, (lstP tx n cAlt (fun S => serC tx n k (advP S)) (serC tx n k S)).2) := by
                 rw [altC_eq]; unfold altP endP
                 exact if_neg (fun h => by have h_ := h.2; omega)
               refine ⟨mI (wI m J), rfl, (CFr.tr (CFr.tr CFr.rf hF2) hFJ), Or.inl ?_⟩
               rw [e_]
               exact ⟨hwL, ll4 (by omega), hJ⟩)
    · skip
      refine V_ld (pc := 67) dX5_choice_67 (v := vi (-1)) rfl rfl ?_
      refine V_if_lt (pc := 68) dX5_choice_68 (tgt := 77) rfl (fun _ => ?_) (fun h_ => absurd h_ (by decide))
      refine V_ld (pc := 77) dX5_choice_77 (v := vi (-1)) rfl rfl ?_
      refine V_goto (pc := 78) dX5_choice_78 (tgt := 92) rfl ?_
      refine V_reti (pc := 92) dX5_choice_92 trivial ?_
      have e_ : altC tx n k S = ((serC tx n k S).1, (lstP tx n cAlt (fun S => serC tx n k (advP S)) (serC tx n k S)).2) := by
        rw [altC_eq]; unfold altP endP
        exact end_dead hwL
      refine ⟨mI (wI m J), rfl, (CFr.tr (CFr.tr CFr.rf hF2) hFJ), Or.inr ?_⟩
      rw [e_]
      exact ⟨hwL, rfl, hfL⟩
  · skip
    refine V_st (pc := 5) dX5_choice_5 (ls' := [(2, vi (-1)), (0, vr r), (1, vi deep)]) rfl (Nat.le_of_ble_eq_true rfl) rfl ?_
    refine V_ld (pc := 6) dX5_choice_6 (v := vi (-1)) rfl rfl ?_
    refine V_st (pc := 7) dX5_choice_7 (ls' := [(3, vi (-1)), (2, vi (-1)), (0, vr r), (1, vi deep)]) rfl (Nat.le_of_ble_eq_true rfl) rfl ?_
    refine V_iconst (pc := 8) dX5_choice_8 (by unfold I32; omega) ?_
    refine V_st (pc := 9) dX5_choice_9 (ls' := [(4, vi 1), (3, vi (-1)), (2, vi (-1)), (0, vr r), (1, vi deep)]) rfl (Nat.le_of_ble_eq_true rfl) rfl ?_
    refine V_ld (pc := 11) dX5_choice_11 (v := vi 1) rfl rfl ?_
    refine V_bipush (pc := 13) dX5_choice_13 (by unfold I32; omega) (by decide) ?_
    refine V_icmp_gt (pc := 15) dX5_choice_15 (tgt := 67) rfl (fun h_ => absurd h_ (by decide)) (fun _ => ?_)
    refine V_ld (pc := 18) dX5_choice_18 (v := vi (-1)) rfl rfl ?_
    refine V_if_lt (pc := 19) dX5_choice_19 (tgt := 67) rfl (fun _ => ?_) (fun h_ => absurd h_ (by decide))
    refine V_ld (pc := 67) dX5_choice_67 (v := vi (-1)) rfl rfl ?_
    refine V_if_lt (pc := 68) dX5_choice_68 (tgt := 77) rfl (fun _ => ?_) (fun h_ => absurd h_ (by decide))
    refine V_ld (pc := 77) dX5_choice_77 (v := vi (-1)) rfl rfl ?_
    refine V_goto (pc := 78) dX5_choice_78 (tgt := 92) rfl ?_
    refine V_reti (pc := 92) dX5_choice_92 trivial ?_
    have e2_ : (lstP tx n cAlt (fun S => serC tx n k (advP S)) (serC tx n k S)) = (1, (serC tx n k S).2) := lp_stop (by rw [cS_dead hw2]; unfold cAlt; omega)
    have e_ : altC tx n k S = ((serC tx n k S).1, (serC tx n k S).2) := by
      rw [altC_eq]; unfold altP endP
      rw [e2_]
      exact end_dead hw2
    refine ⟨mI (wI m Ix2), rfl, (CFr.tr CFr.rf hF2), Or.inr ?_⟩
    rw [e_]
    exact ⟨hw2, rfl, hf2⟩

theorem CAlt_all (tx : Nat → Int) (n : Nat) : ∀ k, CAlt tx n k
  | 0 => fun S m r deep hL hQ hP hk => c_choice tx n 0 S m r deep hL hQ hP hk (fun k_ h => by omega)
  | k + 1 => fun S m r deep hL hQ hP hk => c_choice tx n (k + 1) S m r deep hL hQ hP hk (fun k_ h => by
      obtain rfl : k = k_ := by omega
      exact CAlt_all tx n k)
