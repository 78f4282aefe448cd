/-! define(): the class reads the parts -/
set_option maxHeartbeats 16000000 in
theorem d_conditionOf (tx : Nat → Int) (n : Nat) (S : CS) (C : List Int) (m : Mem) (r : Nat) (w : Int)   (hL : Lay (mT m) (mR m)) (hQ : QLay m r n) (hP : DQ (mI m) r tx n S C) (hlt : 2 ≤ S.2) (hw : 0 ≤ w ∧ w < 26) (hm : r + 2 < mN m ∧ mN m + 2 ≤ NN ∧ mZ m + 121 ≤ ZZ) : Ct μX1_conditionOf 20 [vr r, vi w] m (ri fun x_ m' => (True) ∧ CofR m r tx n S w x_ m') := by
  refine Ct_of_V rfl (by decide) rfl (Nat.le_of_ble_eq_true rfl) ?_
  show V μX1_conditionOf 20 m _ 0 [(0, vr r), (1, vi w)] [] m
  refine V_rg (k := 1) (x := w) rfl fun r_w => ?_
  have hn120 := hP.2.2.2.2.2.1
  have hb0 := hP.2.2.2.2.1
  obtain ⟨hr59, hq120⟩ := hQ.1
  have hm1 := hm.1
  refine V_ld (pc := 0) dX1_conditionOf_0 (v := vr r) rfl rfl ?_
  refine V_iconst (pc := 1) dX1_conditionOf_1 (by unfold I32; omega) ?_
  refine V_putI (pc := 2) dX1_conditionOf_2 fw_RX1_55 rfl hQ.2.1 (Or.inl rfl) (Or.inl rfl) ?_
  have hZ : DQ (mI (setI m r 2 0)) r tx n S [] := DQ.zero hP
  have hFz : DFr r (mI m) (mI (setI m r 2 0)) := DFr.set DFr.rf (by omega)
  refine V_ld (pc := 5) dX1_conditionOf_5 (v := vr r) rfl rfl ?_
  refine V_getIv (pc := 6) dX1_conditionOf_6 (v := (S.2 : Int)) fw_RX1_34 rfl hQ.2.1 hZ.2.1 (fun g6 => ?_)
  refine V_ld (pc := 9) dX1_conditionOf_9 (v := vr r) rfl rfl ?_
  refine V_getRv (pc := 10) dX1_conditionOf_10 (o' := 13) fw_RX1_21 rfl hQ.2.1 hQ.2.2.1 ?_
  refine V_getIv (pc := 13) dX1_conditionOf_13 (v := (n : Int)) fw_RX1_25 rfl hL.t13 hZ.1 (fun g13 => ?_)
  refine V_icmp_ge (pc := 16) dX1_conditionOf_16 (tgt := 32) rfl (fun h16 => ?_) (fun h16 => ?_)
  · skip
    have hcc : ccS tx n S = -1 := by
      first
        | (have h_ := hx22.1; exact hx22.2.1 (by omega))
        | (by_cases c_ : ccS tx n S = -1
           · exact c_
           · have h_ := (cc_lt (tx := tx) (n := n) (S := S) c_).2; omega)
    have eC : cofR tx n S = ([], (fun _ => true), S) := if_pos hcc
    refine V_iconst (pc := 32) dX1_conditionOf_32 (by unfold I32; omega) ?_
    refine V_st (pc := 33) dX1_conditionOf_33 (ls' := [(2, vi 0), (0, vr r), (1, vi w)]) rfl (Nat.le_of_ble_eq_true rfl) rfl ?_
    refine V_ld (pc := 34) dX1_conditionOf_34 (v := vi 0) rfl rfl ?_
    refine V_if_eq (pc := 35) dX1_conditionOf_35 (tgt := 48) rfl (fun _ => ?_) (fun h_ => absurd h_ (by decide))
    refine V_ld (pc := 48) dX1_conditionOf_48 (v := vr r) rfl rfl ?_
    refine V_dup (pc := 49) dX1_conditionOf_49 rfl ?_
    refine V_getIv (pc := 50) dX1_conditionOf_50 (v := mI m r 5) fw_RX1_62 rfl hQ.2.1 (mI_setne (by omega)) (fun g50 => ?_)
    refine V_iconst (pc := 53) dX1_conditionOf_53 (by unfold I32; omega) ?_
    refine V_ld (pc := 54) dX1_conditionOf_54 (v := vi w) rfl rfl ?_
    refine V_ishl (pc := 55) dX1_conditionOf_55 ?_
    refine V_ior (pc := 56) dX1_conditionOf_56 ?_
    refine V_putI (pc := 57) dX1_conditionOf_57 fw_RX1_62 rfl hQ.2.1 (Or.inl rfl) (Or.inl rfl) ?_
    refine V_ld (pc := 60) dX1_conditionOf_60 (v := vr r) rfl rfl ?_
    refine V_getRv (pc := 61) dX1_conditionOf_61 (o' := (r + 1)) fw_RX1_17 rfl hQ.2.1 hQ.2.2.2.2.1 ?_
    refine V_ld (pc := 64) dX1_conditionOf_64 (v := vi w) rfl rfl ?_
    refine V_ld (pc := 65) dX1_conditionOf_65 (v := vi 0) rfl rfl ?_
    refine V_if_eq (pc := 66) dX1_conditionOf_66 (tgt := 90) rfl (fun _ => ?_) (fun h_ => absurd h_ (by decide))
    refine V_null (pc := 90) dX1_conditionOf_90 ?_
    refine V_aast (pc := 91) dX1_conditionOf_91 (N := 1) hQ.2.2.2.2.2.1 (Or.inr ⟨rfl, rfl⟩) (by omega) (fun o_ h_ => by cases h_) ?_
    refine V_iconst (pc := 92) dX1_conditionOf_92 (by unfold I32; omega) ?_
    refine V_reti (pc := 93) dX1_conditionOf_93 (show _ = (0 : Int) ∨ _ = (1 : Int) from by first | exact Or.inl rfl | exact Or.inr rfl | omega) ?_
    refine ⟨trivial, ⟨Nat.le_refl _, Nat.le_refl _, fun _ _ => rfl, fun o k ho h1 => mR_setne (by omega), fun o k ho h1 h2 => ?_⟩, Nat.le_add_right _ 2, Nat.le_add_right _ 121, Or.inr ⟨rfl, ?_, ⟨[], ?_⟩, ?_, ?_, fun k hk => mR_setne (by omega)⟩⟩
    · exact (mI_setne (by omega)).trans (mI_setne (by omega))
    · rw [eC]; exact hP.2.2.2.2.2.2.2.2.1
    · rw [eC]; exact DQ.fr hZ (fun o k h_ => mI_setne (by omega))
    · exact mI_sets
    · rw [if_pos hcc]; exact mR_sets
  · skip
    refine V_ld (pc := 19) dX1_conditionOf_19 (v := vr r) rfl rfl ?_
    refine V_bipush (pc := 20) dX1_conditionOf_20 (by unfold I32; omega) (by decide) ?_
    refine V_callV (pc := 22) dX1_conditionOf_22 (F' := 1) (As := [vi 59]) (st := []) cw_RX1_56 rfl rfl hQ.2.1 (by decide) (Nat.le_of_ble_eq_true rfl) (by omega) (d_comes59 tx n S ([]) (setI m r 2 0) r 59   (by first | assumption | omega) hQ hZ rfl) ?_
    rintro _ _ ⟨x22, rfl, hx22, rfl⟩ ok22 le22
    refine V_if_ne (pc := 25) dX1_conditionOf_25 (tgt := 32) rfl (fun h25 => ?_) (fun h25 => ?_)
    · skip
      have hcc : ccS tx n S = -1 := by
        first
          | (have h_ := hx22.1; exact hx22.2.1 (by omega))
          | (by_cases c_ : ccS tx n S = -1
             · exact c_
             · have h_ := (cc_lt (tx := tx) (n := n) (S := S) c_).2; omega)
      have eC : cofR tx n S = ([], (fun _ => true), S) := if_pos hcc
      refine V_iconst (pc := 32) dX1_conditionOf_32 (by unfold I32; omega) ?_
      refine V_st (pc := 33) dX1_conditionOf_33 (ls' := [(2, vi 0), (0, vr r), (1, vi w)]) rfl (Nat.le_of_ble_eq_true rfl) rfl ?_
      refine V_ld (pc := 34) dX1_conditionOf_34 (v := vi 0) rfl rfl ?_
      refine V_if_eq (pc := 35) dX1_conditionOf_35 (tgt := 48) rfl (fun _ => ?_) (fun h_ => absurd h_ (by decide))
      refine V_ld (pc := 48) dX1_conditionOf_48 (v := vr r) rfl rfl ?_
      refine V_dup (pc := 49) dX1_conditionOf_49 rfl ?_
      refine V_getIv (pc := 50) dX1_conditionOf_50 (v := mI m r 5) fw_RX1_62 rfl hQ.2.1 (mI_setne (by omega)) (fun g50 => ?_)
      refine V_iconst (pc := 53) dX1_conditionOf_53 (by unfold I32; omega) ?_
      refine V_ld (pc := 54) dX1_conditionOf_54 (v := vi w) rfl rfl ?_
      refine V_ishl (pc := 55) dX1_conditionOf_55 ?_
      refine V_ior (pc := 56) dX1_conditionOf_56 ?_
      refine V_putI (pc := 57) dX1_conditionOf_57 fw_RX1_62 rfl hQ.2.1 (Or.inl rfl) (Or.inl rfl) ?_
      refine V_ld (pc := 60) dX1_conditionOf_60 (v := vr r) rfl rfl ?_
      refine V_getRv (pc := 61) dX1_conditionOf_61 (o' := (r + 1)) fw_RX1_17 rfl hQ.2.1 hQ.2.2.2.2.1 ?_
      refine V_ld (pc := 64) dX1_conditionOf_64 (v := vi w) rfl rfl ?_
      refine V_ld (pc := 65) dX1_conditionOf_65 (v := vi 0) rfl rfl ?_
      refine V_if_eq (pc := 66) dX1_conditionOf_66 (tgt := 90) rfl (fun _ => ?_) (fun h_ => absurd h_ (by decide))
      refine V_null (pc := 90) dX1_conditionOf_90 ?_
      refine V_aast (pc := 91) dX1_conditionOf_91 (N := 1) hQ.2.2.2.2.2.1 (Or.inr ⟨rfl, rfl⟩) (by omega) (fun o_ h_ => by cases h_) ?_
      refine V_iconst (pc := 92) dX1_conditionOf_92 (by unfold I32; omega) ?_
      refine V_reti (pc := 93) dX1_conditionOf_93 (show _ = (0 : Int) ∨ _ = (1 : Int) from by first | exact Or.inl rfl | exact Or.inr rfl | omega) ?_
      refine ⟨trivial, ⟨Nat.le_refl _, Nat.le_refl _, fun _ _ => rfl, fun o k ho h1 => mR_setne (by omega), fun o k ho h1 h2 => ?_⟩, Nat.le_add_right _ 2, Nat.le_add_right _ 121, Or.inr ⟨rfl, ?_, ⟨[], ?_⟩, ?_, ?_, fun k hk => mR_setne (by omega)⟩⟩
      · exact (mI_setne (by omega)).trans (mI_setne (by omega))
      · rw [eC]; exact hP.2.2.2.2.2.2.2.2.1
      · rw [eC]; exact DQ.fr hZ (fun o k h_ => mI_setne (by omega))
      · exact mI_sets
      · rw [if_pos hcc]; exact mR_sets
    · skip
      have hcc : ccS tx n S ≠ -1 := hx22.2.2.1 (by omega) (by omega)
      have eC : cofR tx n S = eitL tx n 4 S := if_neg hcc
      refine V_iconst (pc := 28) dX1_conditionOf_28 (by unfold I32; omega) ?_
      refine V_goto (pc := 29) dX1_conditionOf_29 (tgt := 33) rfl ?_
      refine V_st (pc := 33) dX1_conditionOf_33 (ls' := [(2, vi 1), (0, vr r), (1, vi w)]) rfl (Nat.le_of_ble_eq_true rfl) rfl ?_
      refine V_ld (pc := 34) dX1_conditionOf_34 (v := vi 1) rfl rfl ?_
      refine V_if_eq (pc := 35) dX1_conditionOf_35 (tgt := 48) rfl (fun h_ => absurd h_ (by decide)) (fun _ => ?_)
      refine V_ld (pc := 38) dX1_conditionOf_38 (v := vr r) rfl rfl ?_
      refine V_iconst (pc := 39) dX1_conditionOf_39 (by unfold I32; omega) ?_
      refine V_callV (pc := 40) dX1_conditionOf_40 (F' := (7 + 3 * 4)) (As := [vi 0]) (st := []) cw_RX1_59 rfl rfl hQ.2.1 (by decide) (Nat.le_of_ble_eq_true rfl) (by omega) ((DEit_all tx n 4) S ([]) (setI m r 2 0) r 0   (by first | assumption | omega) hQ hZ (by decide) (by show 0 + 2 ≤ S.2; omega)) ?_
      rintro _ _ ⟨x40, rfl, Ix40, rfl, hF40, (⟨hw40, rfl, hP40⟩ | ⟨hw40, rfl, hf40⟩)⟩ ok40 le40
      · skip
        have hb40 := hP40.2.2.2.2.1
        refine V_if_ne (pc := 43) dX1_conditionOf_43 (tgt := 48) rfl (fun _ => ?_) (fun h_ => absurd h_ (by decide))
        refine V_ld (pc := 48) dX1_conditionOf_48 (v := vr r) rfl rfl ?_
        refine V_dup (pc := 49) dX1_conditionOf_49 rfl ?_
        refine V_getIv (pc := 50) dX1_conditionOf_50 (v := mI m r 5) fw_RX1_62 rfl hQ.2.1 ((hF40 r 5 (by omega) (by omega)).trans (mI_setne (by omega))) (fun g50 => ?_)
        refine V_iconst (pc := 53) dX1_conditionOf_53 (by unfold I32; omega) ?_
        refine V_ld (pc := 54) dX1_conditionOf_54 (v := vi w) rfl rfl ?_
        refine V_ishl (pc := 55) dX1_conditionOf_55 ?_
        refine V_ior (pc := 56) dX1_conditionOf_56 ?_
        refine V_putI (pc := 57) dX1_conditionOf_57 fw_RX1_62 rfl hQ.2.1 (Or.inl rfl) (Or.inl rfl) ?_
        refine V_ld (pc := 60) dX1_conditionOf_60 (v := vr r) rfl rfl ?_
        refine V_getRv (pc := 61) dX1_conditionOf_61 (o' := (r + 1)) fw_RX1_17 rfl hQ.2.1 hQ.2.2.2.2.1 ?_
        refine V_ld (pc := 64) dX1_conditionOf_64 (v := vi w) rfl rfl ?_
        refine V_ld (pc := 65) dX1_conditionOf_65 (v := vi 1) rfl rfl ?_
        refine V_if_eq (pc := 66) dX1_conditionOf_66 (tgt := 90) rfl (fun h_ => absurd h_ (by decide)) (fun _ => ?_)
        have hln := (eitL_ni tx n 4 S).2 hw40
        have hni := (eitL_ni tx n 4 S).1.2.1 hw40
        have hnl : (eitL tx n 4 S).1.length < n := by omega
        have hr2 := hm.1
        refine V_newv (pc := 69) (mN m) rfl dX1_conditionOf_69 nw_RX1_15 (by omega) (by show mZ m + 1 ≤ ZZ; omega) ?_
        refine V_dup (pc := 72) dX1_conditionOf_72 rfl ?_
        refine V_ld (pc := 73) dX1_conditionOf_73 (v := vr r) rfl rfl ?_
        refine V_getRv (pc := 74) dX1_conditionOf_74 (o' := (r + 2)) fw_RX1_30 rfl ((mT_newne (M := (setI (wI (setI m r 2 0) Ix40) r 5 (or32 (mI m r 5) (shl32 1 w)))) (c := 0) (n := 1) (o := r) (mN m) rfl (by omega)).trans hQ.2.1) ((mR_newne (M := (setI (wI (setI m r 2 0) Ix40) r 5 (or32 (mI m r 5) (shl32 1 w)))) (c := 0) (n := 1) (o := r) (mN m) rfl (by omega)).trans hQ.2.2.2.1) ?_
        refine V_ld (pc := 77) dX1_conditionOf_77 (v := vr r) rfl rfl ?_
        refine V_getIv (pc := 78) dX1_conditionOf_78 (v := ((eitL tx n 4 S).1.length : Int)) fw_RX1_55 rfl ((mT_newne (M := (setI (wI (setI m r 2 0) Ix40) r 5 (or32 (mI m r 5) (shl32 1 w)))) (c := 0) (n := 1) (o := r) (mN m) rfl (by omega)).trans hQ.2.1) ((mI_newne (M := (setI (wI (setI m r 2 0) Ix40) r 5 (or32 (mI m r 5) (shl32 1 w)))) (c := 0) (n := 1) (o := r) (mN m) rfl (by omega)).trans ((mI_setne (by omega)).trans hP40.2.2.2.1)) (fun g78 => ?_)
        refine V_callS (pc := 81) dX1_conditionOf_81 (F' := 1) (As := [vr (r + 2), vi ((eitL tx n 4 S).1.length : Int)]) (st := [vr (mN m), vr (mN m), vi w, vr (r + 1)]) cw_RX1_65 rfl rfl (Nat.le_of_ble_eq_true rfl) (by omega) (j_copyS n ((eitL tx n 4 S).1.length) (newO (setI (wI (setI m r 2 0) Ix40) r 5 (or32 (mI m r 5) (shl32 1 w))) 0 1) (r + 2) ((eitL tx n 4 S).1.length : Int)   ((mT_newne (M := (setI (wI (setI m r 2 0) Ix40) r 5 (or32 (mI m r 5) (shl32 1 w)))) (c := 0) (n := 1) (o := (r + 2)) (mN m) rfl (by omega)).trans hQ.2.2.2.2.2.2) ⟨rfl, hnl, by omega, by omega, by show r + 2 < mN m + 1; omega, by show mN m + 1 + 1 ≤ NN; omega, by show mZ m + 1 + (eitL tx n 4 S).1.length ≤ ZZ; omega⟩) ?_
        rintro _ _ ⟨x81, rfl, rfl, rfl⟩ ok81 le81
        refine V_callI (pc := 84) dX1_conditionOf_84 (F' := 1) (As := [vr (mN m + 1)]) (st := [vr (mN m), vi w, vr (r + 1)]) cw_RX1_71 rfl rfl (Nat.le_of_ble_eq_true rfl) (by omega) (d_C_init  (cpyI (newO (newO (setI (wI (setI m r 2 0) Ix40) r 5 (or32 (mI m r 5) (shl32 1 w))) 0 1) 20 ((eitL tx n 4 S).1.length)) (r + 2) 0 (mN (newO (setI (wI (setI m r 2 0) Ix40) r 5 (or32 (mI m r 5) (shl32 1 w))) 0 1)) 0 ((eitL tx n 4 S).1.length)) (mN m) (mN m + 1)   ((mT_newne (M := (newO (setI (wI (setI m r 2 0) Ix40) r 5 (or32 (mI m r 5) (shl32 1 w))) 0 1)) (c := 20) (n := (eitL tx n 4 S).1.length) (o := (mN m)) (mN m + 1) rfl (by omega)).trans (mT_news (M := (setI (wI (setI m r 2 0) Ix40) r 5 (or32 (mI m r 5) (shl32 1 w)))) rfl)) (by unfold SC; unfold NN at *; omega)) ?_
        rintro _ _ ⟨rfl, rfl⟩ ok84 le84
        refine V_goto (pc := 87) dX1_conditionOf_87 (tgt := 91) rfl ?_
        refine V_aast (pc := 91) dX1_conditionOf_91 ((mT_newne (M := (newO (setI (wI (setI m r 2 0) Ix40) r 5 (or32 (mI m r 5) (shl32 1 w))) 0 1)) (c := 20) (n := (eitL tx n 4 S).1.length) (o := (r + 1)) (mN m + 1) rfl (by omega)).trans ((mT_newne (M := (setI (wI (setI m r 2 0) Ix40) r 5 (or32 (mI m r 5) (shl32 1 w)))) (c := 0) (n := 1) (o := (r + 1)) (mN m) rfl (by omega)).trans hQ.2.2.2.2.2.1)) (Or.inr ⟨rfl, rfl⟩) (by omega) (fun o_ h_ => by cases h_; exact ((mT_newne (M := (newO (setI (wI (setI m r 2 0) Ix40) r 5 (or32 (mI m r 5) (shl32 1 w))) 0 1)) (c := 20) (n := (eitL tx n 4 S).1.length) (o := (mN m)) (mN m + 1) rfl (by omega)).trans (mT_news (M := (setI (wI (setI m r 2 0) Ix40) r 5 (or32 (mI m r 5) (shl32 1 w)))) rfl))) ?_
        refine V_iconst (pc := 92) dX1_conditionOf_92 (by unfold I32; omega) ?_
        refine V_reti (pc := 93) dX1_conditionOf_93 (show _ = (0 : Int) ∨ _ = (1 : Int) from by first | exact Or.inl rfl | exact Or.inr rfl | omega) ?_
        have hokl := eit_okL (tx := tx) (n := n) (S := S) hw40
        have hcm := CM_ok (M := (setI (wI (setI m r 2 0) Ix40) r 5 (or32 (mI m r 5) (shl32 1 w)))) (r := r) (w := w.toNat) (nl := (eitL tx n 4 S).1.length) (cd := (eitL tx n 4 S).1) (by show r + 2 < mN m; omega) (fun k x hx => (mI_setne (by omega)).trans (hP40.2.2.2.2.2.2.2.1 k x hx)) rfl hokl (by omega)
        have hIm : ∀ o k, o < mN m → ¬ (o = r ∧ (k = 2 ∨ k = 3 ∨ k = 4 ∨ k = 5)) → o ≠ r + 2 → mI (setI (wI (setI m r 2 0) Ix40) r 5 (or32 (mI m r 5) (shl32 1 w))) o k = mI m o k := fun o k ho h1 h2 => (mI_setne (by omega)).trans ((hF40 o k (by omega) h2).trans (mI_setne (by omega)))
        have hmN : mN (setI (wI (setI m r 2 0) Ix40) r 5 (or32 (mI m r 5) (shl32 1 w))) = mN m := rfl
        show True ∧ CofR m r tx n S w 1 (CM (setI (wI (setI m r 2 0) Ix40) r 5 (or32 (mI m r 5) (shl32 1 w))) r w.toNat (eitL tx n 4 S).1.length)
        refine ⟨trivial, ⟨?_, ?_, fun o ho => (hcm.2.2.1 o (by omega)).1, fun o k ho h1 => hcm.2.2.2.1 o k (by omega) (by omega), fun o k ho h1 h2 => ((hcm.2.2.1 o (by omega)).2 k).trans (hIm o k ho h1 h2)⟩, ?_, ?_, Or.inr ⟨rfl, by rw [eC]; exact hw40, ⟨(eitL tx n 4 S).1, ?_⟩, ?_, ?_, fun k hk => hcm.2.2.2.1 (r + 1) k (by omega) (by omega)⟩⟩
        · rw [hcm.2.2.2.2.1, hmN]; omega
        · rw [hcm.2.2.2.2.2]; show mZ m ≤ mZ m + 1 + _; omega
        · rw [hcm.2.2.2.2.1, hmN]; omega
        · rw [hcm.2.2.2.2.2]; show mZ m + 1 + _ ≤ mZ m + 121; omega
        · rw [eC]
          have h_ := hP40
          rw [List.nil_append] at h_
          exact DQ.fr h_ (fun o k ho => by
            have hol : o < mN m := by omega
            exact ((hcm.2.2.1 o (by omega)).2 k).trans (mI_setne (by omega)))
        · exact ((hcm.2.2.1 r (by omega)).2 5).trans mI_sets
        · rw [if_neg hcc, eC]
          exact ⟨mN m, hcm.2.1, hcm.1⟩
      · skip
        refine V_if_ne (pc := 43) dX1_conditionOf_43 (tgt := 48) rfl (fun h_ => absurd h_ (by decide)) (fun _ => ?_)
        refine V_iconst (pc := 46) dX1_conditionOf_46 (by unfold I32; omega) ?_
        refine V_reti (pc := 47) dX1_conditionOf_47 (show _ = (0 : Int) ∨ _ = (1 : Int) from by first | exact Or.inl rfl | exact Or.inr rfl | omega) ?_
        refine ⟨trivial, ⟨Nat.le_refl _, Nat.le_refl _, fun _ _ => rfl, fun _ _ _ _ => rfl, fun o k ho h1 h2 => ?_⟩, Nat.le_add_right _ 2, Nat.le_add_right _ 121, Or.inl ⟨rfl, by rw [eC]; exact hw40, by rw [eC]; exact hf40⟩⟩
        exact (hF40 o k (by omega) h2).trans (mI_setne (by omega))
