/-! the reference reads conditions: operands, tests, the levels -/
theorem RQ.rd {I : Nat → Nat → Int} {tx : Nat → Int} {n : Nat} {S : CS} (h : RQ I tx n S) (hc : ccS tx n S ≠ -1) : I 34 S.2 = ccS tx n S := by
  have hl := cc_lt hc
  rw [(h.2.2.2.2.2 _ hl.2).1]
  unfold ccS at hc ⊢
  by_cases c : S.1 = true ∧ S.2 < n ∧ tx S.2 ≠ 59
  · rw [if_pos c]
  · rw [if_neg c] at hc; exact absurd rfl hc
theorem RQ.lt {I : Nat → Nat → Int} {tx : Nat → Int} {n : Nat} {S : CS} (h : RQ I tx n S) (hc : ccS tx n S ≠ -1) : I 30 7 < I 30 6 := by
  have := cc_lt hc
  rw [h.1, h.2.1]
  omega
theorem valC_48 {e : CEnv} {d : Int} : valC e 48 d = some (d - 1000) := if_pos rfl
theorem valC_120 {e : CEnv} {d : Int} : valC e 120 d = cellE e e.2.1 d := (if_neg (by decide)).trans (if_pos rfl)
theorem valC_112 {e : CEnv} {d : Int} : valC e 112 d = cellE e (e.2.1 - 1) d := (if_neg (by decide)).trans ((if_neg (by decide)).trans (if_pos rfl))
theorem valC_110 {e : CEnv} {d : Int} : valC e 110 d = cellE e (e.2.1 + 1) d := (if_neg (by decide)).trans ((if_neg (by decide)).trans ((if_neg (by decide)).trans (if_pos rfl)))
theorem valC_102 {e : CEnv} {d : Int} : valC e 102 d = cellE e (frE e.2.2.1 (d / 2) (spE e) e.1) (d % 2) := (if_neg (by decide)).trans ((if_neg (by decide)).trans ((if_neg (by decide)).trans ((if_neg (by decide)).trans (if_pos rfl))))
theorem valC_108 {e : CEnv} {d : Int} : valC e 108 d = cellE e (lsE e.2.2.1 (d / 2) (spE e) e.1) (d % 2) := (if_neg (by decide)).trans ((if_neg (by decide)).trans ((if_neg (by decide)).trans ((if_neg (by decide)).trans ((if_neg (by decide)).trans (if_pos rfl)))))
theorem valC_115 {e : CEnv} {d : Int} : valC e 115 d = some (smE e.2.2.1 e.2.2.2.2 (d / 2) (d % 2) (spE e) e.1) := (if_neg (by decide)).trans ((if_neg (by decide)).trans ((if_neg (by decide)).trans ((if_neg (by decide)).trans ((if_neg (by decide)).trans ((if_neg (by decide)).trans (if_pos rfl))))))
theorem valC_99 {e : CEnv} {d : Int} : valC e 99 d = some (cnE e.2.2.1 (d / 2) (spE e) e.1) := (if_neg (by decide)).trans ((if_neg (by decide)).trans ((if_neg (by decide)).trans ((if_neg (by decide)).trans ((if_neg (by decide)).trans ((if_neg (by decide)).trans (if_neg (by decide)))))))

theorem op_goal {I0 I : Nat → Nat → Int} {tx : Nat → Int} {n : Nat} {S st : CS} {k d x : Int} (eK : opK tx n S = (k, d, st)) (hv : 0 ≤ I0 30 25 → st.1 = true → x = (valC (envR I0) k d).getD 0 ∧ I 30 27 = (if (valC (envR I0) k d).isSome = true then I0 30 27 else 1)) (h1 : RQ I tx n st) (h2 : QFr I0 I) (h3 : I 30 27 = 0 ∨ I 30 27 = 1) (h4 : I 30 26 = I0 30 26) : (0 ≤ I0 30 25 → (opS tx n S).2.2.1 = true → x = ((opS tx n S).2.1 (envR I0)).getD 0 ∧ I 30 27 = (if ((opS tx n S).2.1 (envR I0)).isSome = true then I0 30 27 else 1)) ∧ RQ I tx n (opS tx n S).2.2 ∧ QFr I0 I ∧ (I 30 27 = 0 ∨ I 30 27 = 1) ∧ I 30 26 = I0 30 26 := by
  have eO : opS tx n S = (opc k d, (fun e => valC e k d), st) := by unfold opS; rw [eK]
  rw [eO]
  exact ⟨hv, h1, h2, h3, h4⟩
theorem hv_some {I0 I : Nat → Nat → Int} {st : CS} {k d x v : Int} (hval : valC (envR I0) k d = some v) (hx : x = v) (hl : I 30 27 = I0 30 27) : 0 ≤ I0 30 25 → st.1 = true → x = (valC (envR I0) k d).getD 0 ∧ I 30 27 = (if (valC (envR I0) k d).isSome = true then I0 30 27 else 1) := by
  intro _ _
  rw [hval]
  exact ⟨hx, hl.trans (if_pos rfl).symm⟩
theorem hv_seen {I0 I1 I : Nat → Nat → Int} {st : CS} {k d x r c : Int} (hval : 0 ≤ I0 30 25 → valC (envR I0) k d = cellE (envR I0) r c) (hf : QFs I0 I1) (hs : 0 ≤ I1 30 25 → x = (cellE (envR I1) r c).getD 0 ∧ I 30 27 = (if (cellE (envR I1) r c).isSome = true then I1 30 27 else 1)) : 0 ≤ I0 30 25 → st.1 = true → x = (valC (envR I0) k d).getD 0 ∧ I 30 27 = (if (valC (envR I0) k d).isSome = true then I0 30 27 else 1) := by
  intro h0 _
  rw [hval h0]
  have h := hs (by rw [hf 30 25 (by omega)]; exact h0)
  rw [envR_fr hf.r, hf 30 27 (by omega)] at h
  exact h

theorem RQ.same {I : Nat → Nat → Int} {tx : Nat → Int} {n : Nat} {S : CS} {v : Int} (h : RQ I tx n S) (hv : v = (S.2 : Int)) : RQ (up2 I 30 7 v) tx n S := by
  rw [up2_id (h.2.1.trans hv.symm)]; exact h

set_option maxHeartbeats 16000000 in
theorem q_operand (tx : Nat → Int) (n : Nat) (S : CS) (m : Mem)    (hL : Lay (mT m) (mR m)) (hP : RQ (mI m) tx n S) (hE : EOK (mI m)) : Ct μX11_operand 3 [vr 30] m (rl fun x_ m' => ∃ I_ : Nat → Nat → Int, wI m I_ = m' ∧ (0 ≤ mI m 30 25 → (opS tx n S).2.2.1 = true → x_ = ((opS tx n S).2.1 (envR (mI m))).getD 0 ∧ I_ 30 27 = (if ((opS tx n S).2.1 (envR (mI m))).isSome = true then mI m 30 27 else 1)) ∧ RQ I_ tx n (opS tx n S).2.2 ∧ QFr (mI m) I_ ∧ (I_ 30 27 = 0 ∨ I_ 30 27 = 1) ∧ I_ 30 26 = mI m 30 26) := by
  refine Ct_of_V rfl (by decide) rfl (Nat.le_of_ble_eq_true rfl) ?_
  show V μX11_operand 3 m _ 0 [(0, vr 30)] [] m
  have hB0 := hP.2.2.2.1
  have hn120 := hP.2.2.2.2.1
  obtain ⟨e1, e2, e3, e4, e5, e6, e7⟩ := hE
  have hE : EOK (mI m) := ⟨e1, e2, e3, e4, e5, e6, e7⟩
  refine V_ld (pc := 0) dX11_operand_0 (v := vr 30) rfl rfl ?_
  refine V_bipush (pc := 1) dX11_operand_1 (by unfold I32; omega) (by decide) ?_
  refine V_callV (pc := 3) dX11_operand_3 (F' := 0) (As := [vi 120]) (st := []) cw_RX11_132 rfl rfl hL.t30 (by decide) (Nat.le_of_ble_eq_true rfl) (by omega) (q_isAt tx n S m 120   (by first | assumption | omega) hP (by decide)) ?_
  rintro _ _ ⟨x3, rfl, hx3, rfl⟩ ok3 le3
  refine V_if_ne (pc := 6) dX11_operand_6 (tgt := 18) rfl (fun h6 => ?_) (fun h6 => ?_)
  · skip
    refine V_ld (pc := 18) dX11_operand_18 (v := vr 30) rfl rfl ?_
    refine V_ld (pc := 19) dX11_operand_19 (v := vr 30) rfl rfl ?_
    refine V_getIv (pc := 20) dX11_operand_20 (v := mI m 30 25) fw_RX11_216 rfl hL.t30 rfl (fun g20 => ?_)
    refine V_ld (pc := 23) dX11_operand_23 (v := vr 30) rfl rfl ?_
    refine V_callV (pc := 24) dX11_operand_24 (F' := 2) (As := []) (st := [vi (mI m 30 25), vr 30]) cw_RX11_225 rfl rfl hL.t30 (by decide) (Nat.le_of_ble_eq_true rfl) (by omega) (q_column tx n S m    (by first | assumption | omega) hP) ?_
    rintro _ _ ⟨x24, rfl, Ix24, rfl, rfl, hP24, hF24⟩ ok24 le24
    have hcl24 := (ccol_ni tx n S).2
    have hB24 := hP24.2.2.2.1
    have frs24 : QFs (mI m) (mI (wI m Ix24)) := QFs.tr (QFs.rf : QFs (mI m) (mI m)) hF24
    refine V_callV (pc := 27) dX11_operand_27 (F' := 2) (As := [vi (mI m 30 25), vi ((cCol tx n S).1)]) (st := []) cw_RX11_228 rfl rfl hL.t30 (by decide) (Nat.le_of_ble_eq_true rfl) (by omega) (q_seen  (wI m Ix24) (mI m 30 25) ((cCol tx n S).1)   (by first | assumption | omega) (EOK.frs hE frs24) (by omega)) ?_
    rintro _ _ ⟨x27, rfl, Ix27, rfl, hx27, hl27, hF27⟩ ok27 le27
    refine V_retl (pc := 30) dX11_operand_30 trivial ?_
    exact ⟨mI (wI (wI m Ix24) Ix27), rfl, op_goal (k := 120) (d := (cCol tx n S).1) (st := (cCol tx n S).2) (if_pos (by omega)) (hv_seen (fun h0_ => valC_120) frs24 hx27) (RQ.fr hP24 (fun o k h_ => hF27 o k (by omega))) (QFr.tr (QFs.r frs24) (fun o k h_ => hF27 o k (by omega))) hl27 ((hF27 30 26 (by omega)).trans (frs24 30 26 (by omega)))⟩
  · skip
    refine V_ld (pc := 9) dX11_operand_9 (v := vr 30) rfl rfl ?_
    refine V_bipush (pc := 10) dX11_operand_10 (by unfold I32; omega) (by decide) ?_
    refine V_callV (pc := 12) dX11_operand_12 (F' := 0) (As := [vi 121]) (st := []) cw_RX11_132 rfl rfl hL.t30 (by decide) (Nat.le_of_ble_eq_true rfl) (by omega) (q_isAt tx n S m 121   (by first | assumption | omega) hP (by decide)) ?_
    rintro _ _ ⟨x12, rfl, hx12, rfl⟩ ok12 le12
    refine V_if_eq (pc := 15) dX11_operand_15 (tgt := 31) rfl (fun h15 => ?_) (fun h15 => ?_)
    · skip
      refine V_ld (pc := 31) dX11_operand_31 (v := vr 30) rfl rfl ?_
      refine V_bipush (pc := 32) dX11_operand_32 (by unfold I32; omega) (by decide) ?_
      refine V_callV (pc := 34) dX11_operand_34 (F' := 0) (As := [vi 112]) (st := []) cw_RX11_132 rfl rfl hL.t30 (by decide) (Nat.le_of_ble_eq_true rfl) (by omega) (q_isAt tx n S m 112   (by first | assumption | omega) hP (by decide)) ?_
      rintro _ _ ⟨x34, rfl, hx34, rfl⟩ ok34 le34
      refine V_if_ne (pc := 37) dX11_operand_37 (tgt := 49) rfl (fun h37 => ?_) (fun h37 => ?_)
      · skip
        have hlt1_ := (cc_lt (tx := tx) (n := n) (S := S) (by omega)).2
        refine V_ld (pc := 49) dX11_operand_49 (v := vr 30) rfl rfl ?_
        refine V_getRv (pc := 50) dX11_operand_50 (o' := 34) fw_RX11_21 rfl hL.t30 hL.r30_5 ?_
        refine V_ld (pc := 53) dX11_operand_53 (v := vr 30) rfl rfl ?_
        refine V_getIv (pc := 54) dX11_operand_54 (v := (S.2 : Int)) fw_RX11_125 rfl hL.t30 hP.2.1 (fun g54 => ?_)
        refine V_ialdv (pc := 57) dX11_operand_57 (v := (ccS tx n S)) hL.t34 (by omega) (RQ.rd hP (by omega)) (fun g57 => ?_)
        refine V_bipush (pc := 58) dX11_operand_58 (by unfold I32; omega) (by decide) ?_
        refine V_icmp_ne (pc := 60) dX11_operand_60 (tgt := 67) rfl (fun h60 => ?_) (fun h60 => ?_)
        · skip
          refine V_iconst (pc := 67) dX11_operand_67 (by unfold I32; omega) ?_
          skip
          refine V_st (pc := 68) dX11_operand_68 (ls' := [(1, vi 1), (0, vr 30)]) rfl (Nat.le_of_ble_eq_true rfl) rfl ?_
          refine V_ld (pc := 69) dX11_operand_69 (v := vr 30) rfl rfl ?_
          refine V_dup (pc := 70) dX11_operand_70 rfl ?_
          refine V_getIv (pc := 71) dX11_operand_71 (v := (S.2 : Int)) fw_RX11_125 rfl hL.t30 hP.2.1 (fun g71 => ?_)
          refine V_iconst (pc := 74) dX11_operand_74 (by unfold I32; omega) ?_
          refine V_iadd (pc := 75) dX11_operand_75 (by unfold I32 at *; omega) ?_
          refine V_putI (pc := 76) dX11_operand_76 fw_RX11_125 rfl hL.t30 (Or.inl rfl) (Or.inl rfl) ?_
          have frshA79 : QFs (mI m) (mI (setI m 30 7 ((S.2 : Int) + 1))) := QFs.set (QFs.rf : QFs (mI m) (mI m)) (by omega)
          have hA79 : RQ (mI (setI m 30 7 ((S.2 : Int) + 1))) tx n (cAdv S) := RQ.adv hP (congrArg (fun z => z + 1) hP.2.1.symm) (RQ.lt hP (by omega))
          have ehA79 : (cAdv S).2 = S.2 + 1 := rfl
          have bhA79 := hA79.2.2.2.1
          refine V_ld (pc := 79) dX11_operand_79 (v := vr 30) rfl rfl ?_
          refine V_callV (pc := 80) dX11_operand_80 (F' := 2) (As := []) (st := []) cw_RX11_225 rfl rfl hL.t30 (by decide) (Nat.le_of_ble_eq_true rfl) (by omega) (q_column tx n (cAdv S) (setI m 30 7 ((S.2 : Int) + 1))    (by first | assumption | omega) hA79) ?_
          rintro _ _ ⟨x80, rfl, Ix80, rfl, rfl, hP80, hF80⟩ ok80 le80
          have hcl80 := (ccol_ni tx n (cAdv S)).2
          have hB80 := hP80.2.2.2.1
          have frs80 : QFs (mI m) (mI (wI (setI m 30 7 ((S.2 : Int) + 1)) Ix80)) := QFs.tr frshA79 hF80
          refine V_st (pc := 83) dX11_operand_83 (ls' := [(2, vi ((cCol tx n (cAdv S)).1)), (1, vi 1), (0, vr 30)]) rfl (Nat.le_of_ble_eq_true rfl) rfl ?_
          refine V_ld (pc := 84) dX11_operand_84 (v := vr 30) rfl rfl ?_
          refine V_ld (pc := 85) dX11_operand_85 (v := vr 30) rfl rfl ?_
          refine V_getIv (pc := 86) dX11_operand_86 (v := mI m 30 25) fw_RX11_216 rfl hL.t30 (frs80 30 25 (by omega)) (fun g86 => ?_)
          refine V_ld (pc := 89) dX11_operand_89 (v := vi 1) rfl rfl ?_
          refine V_iadd (pc := 90) dX11_operand_90 (by unfold I32 at *; omega) ?_
          refine V_ld (pc := 91) dX11_operand_91 (v := vi ((cCol tx n (cAdv S)).1)) rfl rfl ?_
          refine V_callV (pc := 92) dX11_operand_92 (F' := 2) (As := [vi ((mI m 30 25) + 1), vi ((cCol tx n (cAdv S)).1)]) (st := []) cw_RX11_228 rfl rfl hL.t30 (by decide) (Nat.le_of_ble_eq_true rfl) (by omega) (q_seen  (wI (setI m 30 7 ((S.2 : Int) + 1)) Ix80) ((mI m 30 25) + 1) ((cCol tx n (cAdv S)).1)   (by first | assumption | omega) (EOK.frs hE frs80) (by omega)) ?_
          rintro _ _ ⟨x92, rfl, Ix92, rfl, hx92, hl92, hF92⟩ ok92 le92
          refine V_retl (pc := 95) dX11_operand_95 trivial ?_
          exact ⟨mI (wI (wI (setI m 30 7 ((S.2 : Int) + 1)) Ix80) Ix92), rfl, op_goal (k := 110) (d := (cCol tx n (cAdv S)).1) (st := (cCol tx n (cAdv S)).2) ((if_neg (by omega)).trans ((if_pos (by omega)).trans (congrArg (fun z => (z, cCol tx n (cAdv S))) (show ccS tx n S = 110 from by omega)))) (hv_seen (fun h0_ => valC_110) frs80 hx92) (RQ.fr hP80 (fun o k h_ => hF92 o k (by omega))) (QFr.tr (QFs.r frs80) (fun o k h_ => hF92 o k (by omega))) hl92 ((hF92 30 26 (by omega)).trans (frs80 30 26 (by omega)))⟩
        · skip
          refine V_iconst (pc := 63) dX11_operand_63 (by unfold I32; omega) ?_
          refine V_goto (pc := 64) dX11_operand_64 (tgt := 68) rfl ?_
          skip
          refine V_st (pc := 68) dX11_operand_68 (ls' := [(1, vi (-1)), (0, vr 30)]) rfl (Nat.le_of_ble_eq_true rfl) rfl ?_
          refine V_ld (pc := 69) dX11_operand_69 (v := vr 30) rfl rfl ?_
          refine V_dup (pc := 70) dX11_operand_70 rfl ?_
          refine V_getIv (pc := 71) dX11_operand_71 (v := (S.2 : Int)) fw_RX11_125 rfl hL.t30 hP.2.1 (fun g71 => ?_)
          refine V_iconst (pc := 74) dX11_operand_74 (by unfold I32; omega) ?_
          refine V_iadd (pc := 75) dX11_operand_75 (by unfold I32 at *; omega) ?_
          refine V_putI (pc := 76) dX11_operand_76 fw_RX11_125 rfl hL.t30 (Or.inl rfl) (Or.inl rfl) ?_
          have frshA79 : QFs (mI m) (mI (setI m 30 7 ((S.2 : Int) + 1))) := QFs.set (QFs.rf : QFs (mI m) (mI m)) (by omega)
          have hA79 : RQ (mI (setI m 30 7 ((S.2 : Int) + 1))) tx n (cAdv S) := RQ.adv hP (congrArg (fun z => z + 1) hP.2.1.symm) (RQ.lt hP (by omega))
          have ehA79 : (cAdv S).2 = S.2 + 1 := rfl
          have bhA79 := hA79.2.2.2.1
          refine V_ld (pc := 79) dX11_operand_79 (v := vr 30) rfl rfl ?_
          refine V_callV (pc := 80) dX11_operand_80 (F' := 2) (As := []) (st := []) cw_RX11_225 rfl rfl hL.t30 (by decide) (Nat.le_of_ble_eq_true rfl) (by omega) (q_column tx n (cAdv S) (setI m 30 7 ((S.2 : Int) + 1))    (by first | assumption | omega) hA79) ?_
          rintro _ _ ⟨x80, rfl, Ix80, rfl, rfl, hP80, hF80⟩ ok80 le80
          have hcl80 := (ccol_ni tx n (cAdv S)).2
          have hB80 := hP80.2.2.2.1
          have frs80 : QFs (mI m) (mI (wI (setI m 30 7 ((S.2 : Int) + 1)) Ix80)) := QFs.tr frshA79 hF80
          refine V_st (pc := 83) dX11_operand_83 (ls' := [(2, vi ((cCol tx n (cAdv S)).1)), (1, vi (-1)), (0, vr 30)]) rfl (Nat.le_of_ble_eq_true rfl) rfl ?_
          refine V_ld (pc := 84) dX11_operand_84 (v := vr 30) rfl rfl ?_
          refine V_ld (pc := 85) dX11_operand_85 (v := vr 30) rfl rfl ?_
          refine V_getIv (pc := 86) dX11_operand_86 (v := mI m 30 25) fw_RX11_216 rfl hL.t30 (frs80 30 25 (by omega)) (fun g86 => ?_)
          refine V_ld (pc := 89) dX11_operand_89 (v := vi (-1)) rfl rfl ?_
          refine V_iadd (pc := 90) dX11_operand_90 (by unfold I32 at *; omega) ?_
          refine V_ld (pc := 91) dX11_operand_91 (v := vi ((cCol tx n (cAdv S)).1)) rfl rfl ?_
          refine V_callV (pc := 92) dX11_operand_92 (F' := 2) (As := [vi ((mI m 30 25) + (-1)), vi ((cCol tx n (cAdv S)).1)]) (st := []) cw_RX11_228 rfl rfl hL.t30 (by decide) (Nat.le_of_ble_eq_true rfl) (by omega) (q_seen  (wI (setI m 30 7 ((S.2 : Int) + 1)) Ix80) ((mI m 30 25) + (-1)) ((cCol tx n (cAdv S)).1)   (by first | assumption | omega) (EOK.frs hE frs80) (by omega)) ?_
          rintro _ _ ⟨x92, rfl, Ix92, rfl, hx92, hl92, hF92⟩ ok92 le92
          refine V_retl (pc := 95) dX11_operand_95 trivial ?_
          exact ⟨mI (wI (wI (setI m 30 7 ((S.2 : Int) + 1)) Ix80) Ix92), rfl, op_goal (k := 112) (d := (cCol tx n (cAdv S)).1) (st := (cCol tx n (cAdv S)).2) ((if_neg (by omega)).trans ((if_pos (by omega)).trans (congrArg (fun z => (z, cCol tx n (cAdv S))) (show ccS tx n S = 112 from by omega)))) (hv_seen (fun h0_ => valC_112.trans (congrArg (fun z => cellE _ z _) (by show mI m 30 25 - 1 = mI m 30 25 + (-1); omega))) frs80 hx92) (RQ.fr hP80 (fun o k h_ => hF92 o k (by omega))) (QFr.tr (QFs.r frs80) (fun o k h_ => hF92 o k (by omega))) hl92 ((hF92 30 26 (by omega)).trans (frs80 30 26 (by omega)))⟩
      · skip
        refine V_ld (pc := 40) dX11_operand_40 (v := vr 30) rfl rfl ?_
        refine V_bipush (pc := 41) dX11_operand_41 (by unfold I32; omega) (by decide) ?_
        refine V_callV (pc := 43) dX11_operand_43 (F' := 0) (As := [vi 110]) (st := []) cw_RX11_132 rfl rfl hL.t30 (by decide) (Nat.le_of_ble_eq_true rfl) (by omega) (q_isAt tx n S m 110   (by first | assumption | omega) hP (by decide)) ?_
        rintro _ _ ⟨x43, rfl, hx43, rfl⟩ ok43 le43
        refine V_if_eq (pc := 46) dX11_operand_46 (tgt := 96) rfl (fun h46 => ?_) (fun h46 => ?_)
        · skip
          refine V_ld (pc := 96) dX11_operand_96 (v := vr 30) rfl rfl ?_
          refine V_bipush (pc := 97) dX11_operand_97 (by unfold I32; omega) (by decide) ?_
          refine V_callV (pc := 99) dX11_operand_99 (F' := 0) (As := [vi 102]) (st := []) cw_RX11_132 rfl rfl hL.t30 (by decide) (Nat.le_of_ble_eq_true rfl) (by omega) (q_isAt tx n S m 102   (by first | assumption | omega) hP (by decide)) ?_
          rintro _ _ ⟨x99, rfl, hx99, rfl⟩ ok99 le99
          refine V_if_ne (pc := 102) dX11_operand_102 (tgt := 176) rfl (fun h102 => ?_) (fun h102 => ?_)
          · skip
            have hlt1_ := (cc_lt (tx := tx) (n := n) (S := S) (by omega)).2
            refine V_ld (pc := 176) dX11_operand_176 (v := vr 30) rfl rfl ?_
            refine V_getRv (pc := 177) dX11_operand_177 (o' := 34) fw_RX11_21 rfl hL.t30 hL.r30_5 ?_
            refine V_ld (pc := 180) dX11_operand_180 (v := vr 30) rfl rfl ?_
            refine V_getIv (pc := 181) dX11_operand_181 (v := (S.2 : Int)) fw_RX11_125 rfl hL.t30 hP.2.1 (fun g181 => ?_)
            refine V_ialdv (pc := 184) dX11_operand_184 (v := (ccS tx n S)) hL.t34 (by omega) (RQ.rd hP (by omega)) (fun g184 => ?_)
            refine V_st (pc := 185) dX11_operand_185 (ls' := [(1, vi (ccS tx n S)), (0, vr 30)]) rfl (Nat.le_of_ble_eq_true rfl) rfl ?_
            refine V_ld (pc := 186) dX11_operand_186 (v := vr 30) rfl rfl ?_
            refine V_dup (pc := 187) dX11_operand_187 rfl ?_
            refine V_getIv (pc := 188) dX11_operand_188 (v := (S.2 : Int)) fw_RX11_125 rfl hL.t30 hP.2.1 (fun g188 => ?_)
            refine V_iconst (pc := 191) dX11_operand_191 (by unfold I32; omega) ?_
            refine V_iadd (pc := 192) dX11_operand_192 (by unfold I32 at *; omega) ?_
            refine V_putI (pc := 193) dX11_operand_193 fw_RX11_125 rfl hL.t30 (Or.inl rfl) (Or.inl rfl) ?_
            have frshA196 : QFs (mI m) (mI (setI m 30 7 ((S.2 : Int) + 1))) := QFs.set (QFs.rf : QFs (mI m) (mI m)) (by omega)
            have hA196 : RQ (mI (setI m 30 7 ((S.2 : Int) + 1))) tx n (cAdv S) := RQ.adv hP (congrArg (fun z => z + 1) hP.2.1.symm) (RQ.lt hP (by omega))
            have ehA196 : (cAdv S).2 = S.2 + 1 := rfl
            have bhA196 := hA196.2.2.2.1
            refine V_ld (pc := 196) dX11_operand_196 (v := vr 30) rfl rfl ?_
            refine V_bipush (pc := 197) dX11_operand_197 (by unfold I32; omega) (by decide) ?_
            refine V_bipush (pc := 199) dX11_operand_199 (by unfold I32; omega) (by decide) ?_
            refine V_callV (pc := 201) dX11_operand_201 (F' := 1) (As := [vi 65, vi 90]) (st := []) cw_RX11_135 rfl rfl hL.t30 (by decide) (Nat.le_of_ble_eq_true rfl) (by omega) (q_isAmong tx n (cAdv S) (setI m 30 7 ((S.2 : Int) + 1)) 65 90   (by first | assumption | omega) hA196 (by decide)) ?_
            rintro _ _ ⟨x201, rfl, hx201, rfl⟩ ok201 le201
            refine V_if_ne (pc := 204) dX11_operand_204 (tgt := 214) rfl (fun h204 => ?_) (fun h204 => ?_)
            · skip
              have hlt2_ := (cc_lt (tx := tx) (n := n) (S := cAdv S) (by omega)).2
              refine V_ld (pc := 214) dX11_operand_214 (v := vr 30) rfl rfl ?_
              refine V_getRv (pc := 215) dX11_operand_215 (o' := 34) fw_RX11_21 rfl hL.t30 hL.r30_5 ?_
              refine V_ld (pc := 218) dX11_operand_218 (v := vr 30) rfl rfl ?_
              refine V_getIv (pc := 219) dX11_operand_219 (v := ((cAdv S).2 : Int)) fw_RX11_125 rfl hL.t30 hA196.2.1 (fun g219 => ?_)
              refine V_ialdv (pc := 222) dX11_operand_222 (v := (ccS tx n (cAdv S))) hL.t34 (by omega) (RQ.rd hA196 (by omega)) (fun g222 => ?_)
              refine V_bipush (pc := 223) dX11_operand_223 (by unfold I32; omega) (by decide) ?_
              refine V_isub (pc := 225) dX11_operand_225 (by unfold I32 at *; omega) ?_
              refine V_st (pc := 226) dX11_operand_226 (ls' := [(2, vi ((ccS tx n (cAdv S)) - 65)), (1, vi (ccS tx n S)), (0, vr 30)]) rfl (Nat.le_of_ble_eq_true rfl) rfl ?_
              refine V_ld (pc := 227) dX11_operand_227 (v := vr 30) rfl rfl ?_
              refine V_dup (pc := 228) dX11_operand_228 rfl ?_
              refine V_getIv (pc := 229) dX11_operand_229 (v := ((cAdv S).2 : Int)) fw_RX11_125 rfl hL.t30 hA196.2.1 (fun g229 => ?_)
              refine V_iconst (pc := 232) dX11_operand_232 (by unfold I32; omega) ?_
              refine V_iadd (pc := 233) dX11_operand_233 (by unfold I32 at *; omega) ?_
              refine V_putI (pc := 234) dX11_operand_234 fw_RX11_125 rfl hL.t30 (Or.inl rfl) (Or.inl rfl) ?_
              have frshA237 : QFs (mI m) (mI (setI (setI m 30 7 ((S.2 : Int) + 1)) 30 7 (((cAdv S).2 : Int) + 1))) := QFs.set frshA196 (by omega)
              have hA237 : RQ (mI (setI (setI m 30 7 ((S.2 : Int) + 1)) 30 7 (((cAdv S).2 : Int) + 1))) tx n (cAdv (cAdv S)) := RQ.adv hA196 (congrArg (fun z => z + 1) hA196.2.1.symm) (RQ.lt hA196 (by omega))
              have ehA237 : (cAdv (cAdv S)).2 = (cAdv S).2 + 1 := rfl
              have bhA237 := hA237.2.2.2.1
              refine V_ld (pc := 237) dX11_operand_237 (v := vi (ccS tx n S)) rfl rfl ?_
              refine V_bipush (pc := 238) dX11_operand_238 (by unfold I32; omega) (by decide) ?_
              refine V_icmp_ne (pc := 240) dX11_operand_240 (tgt := 261) rfl (fun h240 => ?_) (fun h240 => ?_)
              · skip
                refine V_ld (pc := 261) dX11_operand_261 (v := vr 30) rfl rfl ?_
                refine V_callV (pc := 262) dX11_operand_262 (F' := 2) (As := []) (st := []) cw_RX11_225 rfl rfl hL.t30 (by decide) (Nat.le_of_ble_eq_true rfl) (by omega) (q_column tx n (cAdv (cAdv S)) (setI (setI m 30 7 ((S.2 : Int) + 1)) 30 7 (((cAdv S).2 : Int) + 1))    (by first | assumption | omega) hA237) ?_
                rintro _ _ ⟨x262, rfl, Ix262, rfl, rfl, hP262, hF262⟩ ok262 le262
                have hcl262 := (ccol_ni tx n (cAdv (cAdv S))).2
                have hB262 := hP262.2.2.2.1
                have frs262 : QFs (mI m) (mI (wI (setI (setI m 30 7 ((S.2 : Int) + 1)) 30 7 (((cAdv S).2 : Int) + 1)) Ix262)) := QFs.tr frshA237 hF262
                refine V_st (pc := 265) dX11_operand_265 (ls' := [(3, vi ((cCol tx n (cAdv (cAdv S))).1)), (2, vi ((ccS tx n (cAdv S)) - 65)), (1, vi (ccS tx n S)), (0, vr 30)]) rfl (Nat.le_of_ble_eq_true rfl) rfl ?_
                refine V_ld (pc := 266) dX11_operand_266 (v := vr 30) rfl rfl ?_
                refine V_getIv (pc := 267) dX11_operand_267 (v := mI m 30 25) fw_RX11_216 rfl hL.t30 (frs262 30 25 (by omega)) (fun g267 => ?_)
                refine V_if_ge (pc := 270) dX11_operand_270 (tgt := 277) rfl (fun h270 => ?_) (fun h270 => ?_)
                · skip
                  refine V_ld (pc := 277) dX11_operand_277 (v := vi (ccS tx n S)) rfl rfl ?_
                  refine V_bipush (pc := 278) dX11_operand_278 (by unfold I32; omega) (by decide) ?_
                  refine V_icmp_ne (pc := 280) dX11_operand_280 (tgt := 292) rfl (fun h280 => ?_) (fun h280 => ?_)
                  · skip
                    refine V_ld (pc := 292) dX11_operand_292 (v := vr 30) rfl rfl ?_
                    refine V_ld (pc := 293) dX11_operand_293 (v := vr 30) rfl rfl ?_
                    refine V_ld (pc := 294) dX11_operand_294 (v := vi ((ccS tx n (cAdv S)) - 65)) rfl rfl ?_
                    refine V_ld (pc := 295) dX11_operand_295 (v := vi (ccS tx n S)) rfl rfl ?_
                    refine V_bipush (pc := 296) dX11_operand_296 (by unfold I32; omega) (by decide) ?_
                    refine V_icmp_ne (pc := 298) dX11_operand_298 (tgt := 305) rfl (fun h298 => ?_) (fun h298 => ?_)
                    · skip
                      refine V_iconst (pc := 305) dX11_operand_305 (by unfold I32; omega) ?_
                      skip
                      refine V_callV (pc := 306) dX11_operand_306 (F' := 0) (As := [vi ((ccS tx n (cAdv S)) - 65), vi 0]) (st := [vr 30]) cw_RX11_238 rfl rfl hL.t30 (by decide) (Nat.le_of_ble_eq_true rfl) (by omega) (q_lettered  (wI (setI (setI m 30 7 ((S.2 : Int) + 1)) 30 7 (((cAdv S).2 : Int) + 1)) Ix262) ((ccS tx n (cAdv S)) - 65) 0   (by first | assumption | omega) (EOK.frs hE frs262) (by rw [show mI (wI (setI (setI m 30 7 ((S.2 : Int) + 1)) 30 7 (((cAdv S).2 : Int) + 1)) Ix262) 30 25 = mI m 30 25 from frs262 30 25 (by omega)]; omega)) ?_
                      rintro _ _ ⟨x306, rfl, hx306, rfl⟩ ok306 le306
                      refine V_ld (pc := 309) dX11_operand_309 (v := vi ((cCol tx n (cAdv (cAdv S))).1)) rfl rfl ?_
                      refine V_callV (pc := 310) dX11_operand_310 (F' := 2) (As := [vi x306, vi ((cCol tx n (cAdv (cAdv S))).1)]) (st := []) cw_RX11_228 rfl rfl hL.t30 (by decide) (Nat.le_of_ble_eq_true rfl) (by omega) (q_seen  (wI (setI (setI m 30 7 ((S.2 : Int) + 1)) 30 7 (((cAdv S).2 : Int) + 1)) Ix262) x306 ((cCol tx n (cAdv (cAdv S))).1)   (by first | assumption | omega) (EOK.frs hE frs262) (by omega)) ?_
                      rintro _ _ ⟨x310, rfl, Ix310, rfl, hx310, hl310, hF310⟩ ok310 le310
                      refine V_retl (pc := 313) dX11_operand_313 trivial ?_
                      have eE_ : envR (mI (wI (setI (setI m 30 7 ((S.2 : Int) + 1)) 30 7 (((cAdv S).2 : Int) + 1)) Ix262)) = envR (mI m) := envR_fr (QFs.r frs262)
                      have hd2_ : (2 * ((ccS tx n (cAdv S)) - 65) + (cCol tx n (cAdv (cAdv S))).1) / 2 = (ccS tx n (cAdv S)) - 65 := by omega
                      have hm2_ : (2 * ((ccS tx n (cAdv S)) - 65) + (cCol tx n (cAdv (cAdv S))).1) % 2 = (cCol tx n (cAdv (cAdv S))).1 := by omega
                      rw [eE_, if_pos rfl] at hx306
                      exact ⟨mI (wI (wI (setI (setI m 30 7 ((S.2 : Int) + 1)) 30 7 (((cAdv S).2 : Int) + 1)) Ix262) Ix310), rfl, op_goal (k := 108) (d := (2 * ((ccS tx n (cAdv S)) - 65) + (cCol tx n (cAdv (cAdv S))).1)) (st := (cCol tx n (cAdv (cAdv S))).2) ((if_neg (by omega)).trans ((if_neg (by omega)).trans ((if_pos (by omega)).trans ((if_pos (by omega)).trans ((if_neg (by omega)).trans (congrArg (fun z => (z, (2 * ((ccS tx n (cAdv S)) - 65) + (cCol tx n (cAdv (cAdv S))).1), (cCol tx n (cAdv (cAdv S))).2)) (show ccS tx n S = 108 from by omega))))))) (hv_seen (fun h0_ => valC_108.trans (by rw [hd2_, hm2_, ← hx306])) frs262 hx310) (RQ.fr hP262 (fun o k h_ => hF310 o k (by omega))) (QFr.tr (QFs.r frs262) (fun o k h_ => hF310 o k (by omega))) hl310 ((hF310 30 26 (by omega)).trans (frs262 30 26 (by omega)))⟩
                    · skip
                      refine V_iconst (pc := 301) dX11_operand_301 (by unfold I32; omega) ?_
                      refine V_goto (pc := 302) dX11_operand_302 (tgt := 306) rfl ?_
                      skip
                      refine V_callV (pc := 306) dX11_operand_306 (F' := 0) (As := [vi ((ccS tx n (cAdv S)) - 65), vi 1]) (st := [vr 30]) cw_RX11_238 rfl rfl hL.t30 (by decide) (Nat.le_of_ble_eq_true rfl) (by omega) (q_lettered  (wI (setI (setI m 30 7 ((S.2 : Int) + 1)) 30 7 (((cAdv S).2 : Int) + 1)) Ix262) ((ccS tx n (cAdv S)) - 65) 1   (by first | assumption | omega) (EOK.frs hE frs262) (by rw [show mI (wI (setI (setI m 30 7 ((S.2 : Int) + 1)) 30 7 (((cAdv S).2 : Int) + 1)) Ix262) 30 25 = mI m 30 25 from frs262 30 25 (by omega)]; omega)) ?_
                      rintro _ _ ⟨x306, rfl, hx306, rfl⟩ ok306 le306
                      refine V_ld (pc := 309) dX11_operand_309 (v := vi ((cCol tx n (cAdv (cAdv S))).1)) rfl rfl ?_
                      refine V_callV (pc := 310) dX11_operand_310 (F' := 2) (As := [vi x306, vi ((cCol tx n (cAdv (cAdv S))).1)]) (st := []) cw_RX11_228 rfl rfl hL.t30 (by decide) (Nat.le_of_ble_eq_true rfl) (by omega) (q_seen  (wI (setI (setI m 30 7 ((S.2 : Int) + 1)) 30 7 (((cAdv S).2 : Int) + 1)) Ix262) x306 ((cCol tx n (cAdv (cAdv S))).1)   (by first | assumption | omega) (EOK.frs hE frs262) (by omega)) ?_
                      rintro _ _ ⟨x310, rfl, Ix310, rfl, hx310, hl310, hF310⟩ ok310 le310
                      refine V_retl (pc := 313) dX11_operand_313 trivial ?_
                      have eE_ : envR (mI (wI (setI (setI m 30 7 ((S.2 : Int) + 1)) 30 7 (((cAdv S).2 : Int) + 1)) Ix262)) = envR (mI m) := envR_fr (QFs.r frs262)
                      have hd2_ : (2 * ((ccS tx n (cAdv S)) - 65) + (cCol tx n (cAdv (cAdv S))).1) / 2 = (ccS tx n (cAdv S)) - 65 := by omega
                      have hm2_ : (2 * ((ccS tx n (cAdv S)) - 65) + (cCol tx n (cAdv (cAdv S))).1) % 2 = (cCol tx n (cAdv (cAdv S))).1 := by omega
                      rw [eE_, if_neg (by decide)] at hx306
                      exact ⟨mI (wI (wI (setI (setI m 30 7 ((S.2 : Int) + 1)) 30 7 (((cAdv S).2 : Int) + 1)) Ix262) Ix310), rfl, op_goal (k := 102) (d := (2 * ((ccS tx n (cAdv S)) - 65) + (cCol tx n (cAdv (cAdv S))).1)) (st := (cCol tx n (cAdv (cAdv S))).2) ((if_neg (by omega)).trans ((if_neg (by omega)).trans ((if_pos (by omega)).trans ((if_pos (by omega)).trans ((if_neg (by omega)).trans (congrArg (fun z => (z, (2 * ((ccS tx n (cAdv S)) - 65) + (cCol tx n (cAdv (cAdv S))).1), (cCol tx n (cAdv (cAdv S))).2)) (show ccS tx n S = 102 from by omega))))))) (hv_seen (fun h0_ => valC_102.trans (by rw [hd2_, hm2_, ← hx306])) frs262 hx310) (RQ.fr hP262 (fun o k h_ => hF310 o k (by omega))) (QFr.tr (QFs.r frs262) (fun o k h_ => hF310 o k (by omega))) hl310 ((hF310 30 26 (by omega)).trans (frs262 30 26 (by omega)))⟩
                  · skip
                    refine V_ld (pc := 283) dX11_operand_283 (v := vr 30) rfl rfl ?_
                    refine V_ld (pc := 284) dX11_operand_284 (v := vi ((ccS tx n (cAdv S)) - 65)) rfl rfl ?_
                    refine V_ld (pc := 285) dX11_operand_285 (v := vi ((cCol tx n (cAdv (cAdv S))).1)) rfl rfl ?_
                    refine V_callV (pc := 286) dX11_operand_286 (F' := 0) (As := [vi ((ccS tx n (cAdv S)) - 65), vi ((cCol tx n (cAdv (cAdv S))).1)]) (st := []) cw_RX11_235 rfl rfl hL.t30 (by decide) (Nat.le_of_ble_eq_true rfl) (by omega) (q_summed  (wI (setI (setI m 30 7 ((S.2 : Int) + 1)) 30 7 (((cAdv S).2 : Int) + 1)) Ix262) ((ccS tx n (cAdv S)) - 65) ((cCol tx n (cAdv (cAdv S))).1)   (by first | assumption | omega) (EOK.frs hE frs262) (by rw [show mI (wI (setI (setI m 30 7 ((S.2 : Int) + 1)) 30 7 (((cAdv S).2 : Int) + 1)) Ix262) 30 25 = mI m 30 25 from frs262 30 25 (by omega)]; omega) (by omega)) ?_
                    rintro _ _ ⟨x286, rfl, hx286, rfl⟩ ok286 le286
                    refine V_goto (pc := 289) dX11_operand_289 (tgt := 313) rfl ?_
                    refine V_retl (pc := 313) dX11_operand_313 trivial ?_
                    have eE_ : envR (mI (wI (setI (setI m 30 7 ((S.2 : Int) + 1)) 30 7 (((cAdv S).2 : Int) + 1)) Ix262)) = envR (mI m) := envR_fr (QFs.r frs262)
                    have hd2_ : (2 * ((ccS tx n (cAdv S)) - 65) + (cCol tx n (cAdv (cAdv S))).1) / 2 = (ccS tx n (cAdv S)) - 65 := by omega
                    have hm2_ : (2 * ((ccS tx n (cAdv S)) - 65) + (cCol tx n (cAdv (cAdv S))).1) % 2 = (cCol tx n (cAdv (cAdv S))).1 := by omega
                    rw [eE_] at hx286
                    exact ⟨mI (wI (setI (setI m 30 7 ((S.2 : Int) + 1)) 30 7 (((cAdv S).2 : Int) + 1)) Ix262), rfl, op_goal (k := 115) (d := (2 * ((ccS tx n (cAdv S)) - 65) + (cCol tx n (cAdv (cAdv S))).1)) (st := (cCol tx n (cAdv (cAdv S))).2) ((if_neg (by omega)).trans ((if_neg (by omega)).trans ((if_pos (by omega)).trans ((if_pos (by omega)).trans ((if_neg (by omega)).trans (congrArg (fun z => (z, (2 * ((ccS tx n (cAdv S)) - 65) + (cCol tx n (cAdv (cAdv S))).1), (cCol tx n (cAdv (cAdv S))).2)) (show ccS tx n S = 115 from by omega))))))) (hv_some (valC_115.trans (by rw [hd2_, hm2_])) hx286 (frs262 30 27 (by omega))) hP262 (QFs.r frs262) (by rw [show mI (wI (setI (setI m 30 7 ((S.2 : Int) + 1)) 30 7 (((cAdv S).2 : Int) + 1)) Ix262) 30 27 = mI m 30 27 from frs262 30 27 (by omega)]; exact hE.2.2.2.1) (frs262 30 26 (by omega))⟩
                · skip
                  refine V_lconst (pc := 273) dX11_operand_273 (x := 0) (by unfold I64; omega) (by decide) ?_
                  refine V_goto (pc := 274) dX11_operand_274 (tgt := 313) rfl ?_
                  refine V_retl (pc := 313) dX11_operand_313 trivial ?_
                  exact ⟨mI (wI (setI (setI m 30 7 ((S.2 : Int) + 1)) 30 7 (((cAdv S).2 : Int) + 1)) Ix262), rfl, op_goal (k := (ccS tx n S)) (d := (2 * ((ccS tx n (cAdv S)) - 65) + (cCol tx n (cAdv (cAdv S))).1)) (st := (cCol tx n (cAdv (cAdv S))).2) ((if_neg (by omega)).trans ((if_neg (by omega)).trans ((if_pos (by omega)).trans ((if_pos (by omega)).trans (if_neg (by omega)))))) (fun h0_ _ => absurd h0_ (by omega)) hP262 (QFs.r frs262) (by rw [show mI (wI (setI (setI m 30 7 ((S.2 : Int) + 1)) 30 7 (((cAdv S).2 : Int) + 1)) Ix262) 30 27 = mI m 30 27 from frs262 30 27 (by omega)]; exact hE.2.2.2.1) (frs262 30 26 (by omega))⟩
              · skip
                refine V_ld (pc := 243) dX11_operand_243 (v := vr 30) rfl rfl ?_
                refine V_getIv (pc := 244) dX11_operand_244 (v := mI m 30 25) fw_RX11_216 rfl hL.t30 (frshA237 30 25 (by omega)) (fun g244 => ?_)
                refine V_if_ge (pc := 247) dX11_operand_247 (tgt := 254) rfl (fun h247 => ?_) (fun h247 => ?_)
                · skip
                  refine V_ld (pc := 254) dX11_operand_254 (v := vr 30) rfl rfl ?_
                  refine V_ld (pc := 255) dX11_operand_255 (v := vi ((ccS tx n (cAdv S)) - 65)) rfl rfl ?_
                  refine V_callV (pc := 256) dX11_operand_256 (F' := 0) (As := [vi ((ccS tx n (cAdv S)) - 65)]) (st := []) cw_RX11_232 rfl rfl hL.t30 (by decide) (Nat.le_of_ble_eq_true rfl) (by omega) (q_counted  (setI (setI m 30 7 ((S.2 : Int) + 1)) 30 7 (((cAdv S).2 : Int) + 1)) ((ccS tx n (cAdv S)) - 65)   (by first | assumption | omega) (EOK.frs hE frshA237) (by rw [show mI (setI (setI m 30 7 ((S.2 : Int) + 1)) 30 7 (((cAdv S).2 : Int) + 1)) 30 25 = mI m 30 25 from frshA237 30 25 (by omega)]; omega)) ?_
                  rintro _ _ ⟨x256, rfl, hx256, rfl⟩ ok256 le256
                  refine V_i2l (pc := 259) dX11_operand_259 ?_
                  refine V_retl (pc := 260) dX11_operand_260 trivial ?_
                  have eE_ : envR (mI (setI (setI m 30 7 ((S.2 : Int) + 1)) 30 7 (((cAdv S).2 : Int) + 1))) = envR (mI m) := envR_fr (QFs.r frshA237)
                  have hd2_ : (2 * ((ccS tx n (cAdv S)) - 65)) / 2 = (ccS tx n (cAdv S)) - 65 := by omega
                  rw [eE_] at hx256
                  exact ⟨mI (setI (setI m 30 7 ((S.2 : Int) + 1)) 30 7 (((cAdv S).2 : Int) + 1)), rfl, op_goal (k := 99) (d := (2 * ((ccS tx n (cAdv S)) - 65))) (st := cAdv (cAdv S)) ((if_neg (by omega)).trans ((if_neg (by omega)).trans ((if_pos (by omega)).trans ((if_pos (by omega)).trans (if_pos (by omega)))))) (hv_some (valC_99.trans (by rw [hd2_])) hx256 (frshA237 30 27 (by omega))) hA237 (QFs.r frshA237) (by rw [show mI (setI (setI m 30 7 ((S.2 : Int) + 1)) 30 7 (((cAdv S).2 : Int) + 1)) 30 27 = mI m 30 27 from frshA237 30 27 (by omega)]; exact hE.2.2.2.1) (frshA237 30 26 (by omega))⟩
                · skip
                  refine V_lconst (pc := 250) dX11_operand_250 (x := 0) (by unfold I64; omega) (by decide) ?_
                  refine V_goto (pc := 251) dX11_operand_251 (tgt := 260) rfl ?_
                  refine V_retl (pc := 260) dX11_operand_260 trivial ?_
                  exact ⟨mI (setI (setI m 30 7 ((S.2 : Int) + 1)) 30 7 (((cAdv S).2 : Int) + 1)), rfl, op_goal (k := 99) (d := (2 * ((ccS tx n (cAdv S)) - 65))) (st := cAdv (cAdv S)) ((if_neg (by omega)).trans ((if_neg (by omega)).trans ((if_pos (by omega)).trans ((if_pos (by omega)).trans (if_pos (by omega)))))) (fun h0_ _ => absurd h0_ (by omega)) hA237 (QFs.r frshA237) (by rw [show mI (setI (setI m 30 7 ((S.2 : Int) + 1)) 30 7 (((cAdv S).2 : Int) + 1)) 30 27 = mI m 30 27 from frshA237 30 27 (by omega)]; exact hE.2.2.2.1) (frshA237 30 26 (by omega))⟩
            · skip
              refine V_ld (pc := 207) dX11_operand_207 (v := vr 30) rfl rfl ?_
              refine V_iconst (pc := 208) dX11_operand_208 (by unfold I32; omega) ?_
              refine V_putI (pc := 209) dX11_operand_209 fw_RX11_128 rfl hL.t30 (Or.inl rfl) (Or.inr ⟨rfl, by first | exact Or.inl rfl | exact Or.inr rfl | omega⟩) ?_
              refine V_lconst (pc := 212) dX11_operand_212 (x := 0) (by unfold I64; omega) (by decide) ?_
              refine V_retl (pc := 213) dX11_operand_213 trivial ?_
              have frs213 : QFs (mI m) (mI (setI (setI m 30 7 ((S.2 : Int) + 1)) 30 8 0)) := QFs.set frshA196 (by omega)
              exact ⟨mI (setI (setI m 30 7 ((S.2 : Int) + 1)) 30 8 0), rfl, op_goal (k := 0) (d := 0) (st := cBad (cAdv S)) ((if_neg (by omega)).trans ((if_neg (by omega)).trans ((if_pos (by omega)).trans (if_neg (by omega))))) (fun _ h_ => by cases h_) (RQ.bad hA196) (QFs.r frs213) (by rw [show mI (setI (setI m 30 7 ((S.2 : Int) + 1)) 30 8 0) 30 27 = mI m 30 27 from frs213 30 27 (by omega)]; exact hE.2.2.2.1) (frs213 30 26 (by omega))⟩
          · skip
            refine V_ld (pc := 105) dX11_operand_105 (v := vr 30) rfl rfl ?_
            refine V_bipush (pc := 106) dX11_operand_106 (by unfold I32; omega) (by decide) ?_
            refine V_callV (pc := 108) dX11_operand_108 (F' := 0) (As := [vi 108]) (st := []) cw_RX11_132 rfl rfl hL.t30 (by decide) (Nat.le_of_ble_eq_true rfl) (by omega) (q_isAt tx n S m 108   (by first | assumption | omega) hP (by decide)) ?_
            rintro _ _ ⟨x108, rfl, hx108, rfl⟩ ok108 le108
            refine V_if_ne (pc := 111) dX11_operand_111 (tgt := 176) rfl (fun h111 => ?_) (fun h111 => ?_)
            · skip
              have hlt1_ := (cc_lt (tx := tx) (n := n) (S := S) (by omega)).2
              refine V_ld (pc := 176) dX11_operand_176 (v := vr 30) rfl rfl ?_
              refine V_getRv (pc := 177) dX11_operand_177 (o' := 34) fw_RX11_21 rfl hL.t30 hL.r30_5 ?_
              refine V_ld (pc := 180) dX11_operand_180 (v := vr 30) rfl rfl ?_
              refine V_getIv (pc := 181) dX11_operand_181 (v := (S.2 : Int)) fw_RX11_125 rfl hL.t30 hP.2.1 (fun g181 => ?_)
              refine V_ialdv (pc := 184) dX11_operand_184 (v := (ccS tx n S)) hL.t34 (by omega) (RQ.rd hP (by omega)) (fun g184 => ?_)
              refine V_st (pc := 185) dX11_operand_185 (ls' := [(1, vi (ccS tx n S)), (0, vr 30)]) rfl (Nat.le_of_ble_eq_true rfl) rfl ?_
              refine V_ld (pc := 186) dX11_operand_186 (v := vr 30) rfl rfl ?_
              refine V_dup (pc := 187) dX11_operand_187 rfl ?_
              refine V_getIv (pc := 188) dX11_operand_188 (v := (S.2 : Int)) fw_RX11_125 rfl hL.t30 hP.2.1 (fun g188 => ?_)
              refine V_iconst (pc := 191) dX11_operand_191 (by unfold I32; omega) ?_
              refine V_iadd (pc := 192) dX11_operand_192 (by unfold I32 at *; omega) ?_
              refine V_putI (pc := 193) dX11_operand_193 fw_RX11_125 rfl hL.t30 (Or.inl rfl) (Or.inl rfl) ?_
              have frshA196 : QFs (mI m) (mI (setI m 30 7 ((S.2 : Int) + 1))) := QFs.set (QFs.rf : QFs (mI m) (mI m)) (by omega)
              have hA196 : RQ (mI (setI m 30 7 ((S.2 : Int) + 1))) tx n (cAdv S) := RQ.adv hP (congrArg (fun z => z + 1) hP.2.1.symm) (RQ.lt hP (by omega))
              have ehA196 : (cAdv S).2 = S.2 + 1 := rfl
              have bhA196 := hA196.2.2.2.1
              refine V_ld (pc := 196) dX11_operand_196 (v := vr 30) rfl rfl ?_
              refine V_bipush (pc := 197) dX11_operand_197 (by unfold I32; omega) (by decide) ?_
              refine V_bipush (pc := 199) dX11_operand_199 (by unfold I32; omega) (by decide) ?_
              refine V_callV (pc := 201) dX11_operand_201 (F' := 1) (As := [vi 65, vi 90]) (st := []) cw_RX11_135 rfl rfl hL.t30 (by decide) (Nat.le_of_ble_eq_true rfl) (by omega) (q_isAmong tx n (cAdv S) (setI m 30 7 ((S.2 : Int) + 1)) 65 90   (by first | assumption | omega) hA196 (by decide)) ?_
              rintro _ _ ⟨x201, rfl, hx201, rfl⟩ ok201 le201
              refine V_if_ne (pc := 204) dX11_operand_204 (tgt := 214) rfl (fun h204 => ?_) (fun h204 => ?_)
              · skip
                have hlt2_ := (cc_lt (tx := tx) (n := n) (S := cAdv S) (by omega)).2
                refine V_ld (pc := 214) dX11_operand_214 (v := vr 30) rfl rfl ?_
                refine V_getRv (pc := 215) dX11_operand_215 (o' := 34) fw_RX11_21 rfl hL.t30 hL.r30_5 ?_
                refine V_ld (pc := 218) dX11_operand_218 (v := vr 30) rfl rfl ?_
                refine V_getIv (pc := 219) dX11_operand_219 (v := ((cAdv S).2 : Int)) fw_RX11_125 rfl hL.t30 hA196.2.1 (fun g219 => ?_)
                refine V_ialdv (pc := 222) dX11_operand_222 (v := (ccS tx n (cAdv S))) hL.t34 (by omega) (RQ.rd hA196 (by omega)) (fun g222 => ?_)
                refine V_bipush (pc := 223) dX11_operand_223 (by unfold I32; omega) (by decide) ?_
                refine V_isub (pc := 225) dX11_operand_225 (by unfold I32 at *; omega) ?_
                refine V_st (pc := 226) dX11_operand_226 (ls' := [(2, vi ((ccS tx n (cAdv S)) - 65)), (1, vi (ccS tx n S)), (0, vr 30)]) rfl (Nat.le_of_ble_eq_true rfl) rfl ?_
                refine V_ld (pc := 227) dX11_operand_227 (v := vr 30) rfl rfl ?_
                refine V_dup (pc := 228) dX11_operand_228 rfl ?_
                refine V_getIv (pc := 229) dX11_operand_229 (v := ((cAdv S).2 : Int)) fw_RX11_125 rfl hL.t30 hA196.2.1 (fun g229 => ?_)
                refine V_iconst (pc := 232) dX11_operand_232 (by unfold I32; omega) ?_
                refine V_iadd (pc := 233) dX11_operand_233 (by unfold I32 at *; omega) ?_
                refine V_putI (pc := 234) dX11_operand_234 fw_RX11_125 rfl hL.t30 (Or.inl rfl) (Or.inl rfl) ?_
                have frshA237 : QFs (mI m) (mI (setI (setI m 30 7 ((S.2 : Int) + 1)) 30 7 (((cAdv S).2 : Int) + 1))) := QFs.set frshA196 (by omega)
                have hA237 : RQ (mI (setI (setI m 30 7 ((S.2 : Int) + 1)) 30 7 (((cAdv S).2 : Int) + 1))) tx n (cAdv (cAdv S)) := RQ.adv hA196 (congrArg (fun z => z + 1) hA196.2.1.symm) (RQ.lt hA196 (by omega))
                have ehA237 : (cAdv (cAdv S)).2 = (cAdv S).2 + 1 := rfl
                have bhA237 := hA237.2.2.2.1
                refine V_ld (pc := 237) dX11_operand_237 (v := vi (ccS tx n S)) rfl rfl ?_
                refine V_bipush (pc := 238) dX11_operand_238 (by unfold I32; omega) (by decide) ?_
                refine V_icmp_ne (pc := 240) dX11_operand_240 (tgt := 261) rfl (fun h240 => ?_) (fun h240 => ?_)
                · skip
                  refine V_ld (pc := 261) dX11_operand_261 (v := vr 30) rfl rfl ?_
                  refine V_callV (pc := 262) dX11_operand_262 (F' := 2) (As := []) (st := []) cw_RX11_225 rfl rfl hL.t30 (by decide) (Nat.le_of_ble_eq_true rfl) (by omega) (q_column tx n (cAdv (cAdv S)) (setI (setI m 30 7 ((S.2 : Int) + 1)) 30 7 (((cAdv S).2 : Int) + 1))    (by first | assumption | omega) hA237) ?_
                  rintro _ _ ⟨x262, rfl, Ix262, rfl, rfl, hP262, hF262⟩ ok262 le262
                  have hcl262 := (ccol_ni tx n (cAdv (cAdv S))).2
                  have hB262 := hP262.2.2.2.1
                  have frs262 : QFs (mI m) (mI (wI (setI (setI m 30 7 ((S.2 : Int) + 1)) 30 7 (((cAdv S).2 : Int) + 1)) Ix262)) := QFs.tr frshA237 hF262
                  refine V_st (pc := 265) dX11_operand_265 (ls' := [(3, vi ((cCol tx n (cAdv (cAdv S))).1)), (2, vi ((ccS tx n (cAdv S)) - 65)), (1, vi (ccS tx n S)), (0, vr 30)]) rfl (Nat.le_of_ble_eq_true rfl) rfl ?_
                  refine V_ld (pc := 266) dX11_operand_266 (v := vr 30) rfl rfl ?_
                  refine V_getIv (pc := 267) dX11_operand_267 (v := mI m 30 25) fw_RX11_216 rfl hL.t30 (frs262 30 25 (by omega)) (fun g267 => ?_)
                  refine V_if_ge (pc := 270) dX11_operand_270 (tgt := 277) rfl (fun h270 => ?_) (fun h270 => ?_)
                  · skip
                    refine V_ld (pc := 277) dX11_operand_277 (v := vi (ccS tx n S)) rfl rfl ?_
                    refine V_bipush (pc := 278) dX11_operand_278 (by unfold I32; omega) (by decide) ?_
                    refine V_icmp_ne (pc := 280) dX11_operand_280 (tgt := 292) rfl (fun h280 => ?_) (fun h280 => ?_)
                    · skip
                      refine V_ld (pc := 292) dX11_operand_292 (v := vr 30) rfl rfl ?_
                      refine V_ld (pc := 293) dX11_operand_293 (v := vr 30) rfl rfl ?_
                      refine V_ld (pc := 294) dX11_operand_294 (v := vi ((ccS tx n (cAdv S)) - 65)) rfl rfl ?_
                      refine V_ld (pc := 295) dX11_operand_295 (v := vi (ccS tx n S)) rfl rfl ?_
                      refine V_bipush (pc := 296) dX11_operand_296 (by unfold I32; omega) (by decide) ?_
                      refine V_icmp_ne (pc := 298) dX11_operand_298 (tgt := 305) rfl (fun h298 => ?_) (fun h298 => ?_)
                      · skip
                        refine V_iconst (pc := 305) dX11_operand_305 (by unfold I32; omega) ?_
                        skip
                        refine V_callV (pc := 306) dX11_operand_306 (F' := 0) (As := [vi ((ccS tx n (cAdv S)) - 65), vi 0]) (st := [vr 30]) cw_RX11_238 rfl rfl hL.t30 (by decide) (Nat.le_of_ble_eq_true rfl) (by omega) (q_lettered  (wI (setI (setI m 30 7 ((S.2 : Int) + 1)) 30 7 (((cAdv S).2 : Int) + 1)) Ix262) ((ccS tx n (cAdv S)) - 65) 0   (by first | assumption | omega) (EOK.frs hE frs262) (by rw [show mI (wI (setI (setI m 30 7 ((S.2 : Int) + 1)) 30 7 (((cAdv S).2 : Int) + 1)) Ix262) 30 25 = mI m 30 25 from frs262 30 25 (by omega)]; omega)) ?_
                        rintro _ _ ⟨x306, rfl, hx306, rfl⟩ ok306 le306
                        refine V_ld (pc := 309) dX11_operand_309 (v := vi ((cCol tx n (cAdv (cAdv S))).1)) rfl rfl ?_
                        refine V_callV (pc := 310) dX11_operand_310 (F' := 2) (As := [vi x306, vi ((cCol tx n (cAdv (cAdv S))).1)]) (st := []) cw_RX11_228 rfl rfl hL.t30 (by decide) (Nat.le_of_ble_eq_true rfl) (by omega) (q_seen  (wI (setI (setI m 30 7 ((S.2 : Int) + 1)) 30 7 (((cAdv S).2 : Int) + 1)) Ix262) x306 ((cCol tx n (cAdv (cAdv S))).1)   (by first | assumption | omega) (EOK.frs hE frs262) (by omega)) ?_
                        rintro _ _ ⟨x310, rfl, Ix310, rfl, hx310, hl310, hF310⟩ ok310 le310
                        refine V_retl (pc := 313) dX11_operand_313 trivial ?_
                        have eE_ : envR (mI (wI (setI (setI m 30 7 ((S.2 : Int) + 1)) 30 7 (((cAdv S).2 : Int) + 1)) Ix262)) = envR (mI m) := envR_fr (QFs.r frs262)
                        have hd2_ : (2 * ((ccS tx n (cAdv S)) - 65) + (cCol tx n (cAdv (cAdv S))).1) / 2 = (ccS tx n (cAdv S)) - 65 := by omega
                        have hm2_ : (2 * ((ccS tx n (cAdv S)) - 65) + (cCol tx n (cAdv (cAdv S))).1) % 2 = (cCol tx n (cAdv (cAdv S))).1 := by omega
                        rw [eE_, if_pos rfl] at hx306
                        exact ⟨mI (wI (wI (setI (setI m 30 7 ((S.2 : Int) + 1)) 30 7 (((cAdv S).2 : Int) + 1)) Ix262) Ix310), rfl, op_goal (k := 108) (d := (2 * ((ccS tx n (cAdv S)) - 65) + (cCol tx n (cAdv (cAdv S))).1)) (st := (cCol tx n (cAdv (cAdv S))).2) ((if_neg (by omega)).trans ((if_neg (by omega)).trans ((if_pos (by omega)).trans ((if_pos (by omega)).trans ((if_neg (by omega)).trans (congrArg (fun z => (z, (2 * ((ccS tx n (cAdv S)) - 65) + (cCol tx n (cAdv (cAdv S))).1), (cCol tx n (cAdv (cAdv S))).2)) (show ccS tx n S = 108 from by omega))))))) (hv_seen (fun h0_ => valC_108.trans (by rw [hd2_, hm2_, ← hx306])) frs262 hx310) (RQ.fr hP262 (fun o k h_ => hF310 o k (by omega))) (QFr.tr (QFs.r frs262) (fun o k h_ => hF310 o k (by omega))) hl310 ((hF310 30 26 (by omega)).trans (frs262 30 26 (by omega)))⟩
                      · skip
                        refine V_iconst (pc := 301) dX11_operand_301 (by unfold I32; omega) ?_
                        refine V_goto (pc := 302) dX11_operand_302 (tgt := 306) rfl ?_
                        skip
                        refine V_callV (pc := 306) dX11_operand_306 (F' := 0) (As := [vi ((ccS tx n (cAdv S)) - 65), vi 1]) (st := [vr 30]) cw_RX11_238 rfl rfl hL.t30 (by decide) (Nat.le_of_ble_eq_true rfl) (by omega) (q_lettered  (wI (setI (setI m 30 7 ((S.2 : Int) + 1)) 30 7 (((cAdv S).2 : Int) + 1)) Ix262) ((ccS tx n (cAdv S)) - 65) 1   (by first | assumption | omega) (EOK.frs hE frs262) (by rw [show mI (wI (setI (setI m 30 7 ((S.2 : Int) + 1)) 30 7 (((cAdv S).2 : Int) + 1)) Ix262) 30 25 = mI m 30 25 from frs262 30 25 (by omega)]; omega)) ?_
                        rintro _ _ ⟨x306, rfl, hx306, rfl⟩ ok306 le306
                        refine V_ld (pc := 309) dX11_operand_309 (v := vi ((cCol tx n (cAdv (cAdv S))).1)) rfl rfl ?_
                        refine V_callV (pc := 310) dX11_operand_310 (F' := 2) (As := [vi x306, vi ((cCol tx n (cAdv (cAdv S))).1)]) (st := []) cw_RX11_228 rfl rfl hL.t30 (by decide) (Nat.le_of_ble_eq_true rfl) (by omega) (q_seen  (wI (setI (setI m 30 7 ((S.2 : Int) + 1)) 30 7 (((cAdv S).2 : Int) + 1)) Ix262) x306 ((cCol tx n (cAdv (cAdv S))).1)   (by first | assumption | omega) (EOK.frs hE frs262) (by omega)) ?_
                        rintro _ _ ⟨x310, rfl, Ix310, rfl, hx310, hl310, hF310⟩ ok310 le310
                        refine V_retl (pc := 313) dX11_operand_313 trivial ?_
                        have eE_ : envR (mI (wI (setI (setI m 30 7 ((S.2 : Int) + 1)) 30 7 (((cAdv S).2 : Int) + 1)) Ix262)) = envR (mI m) := envR_fr (QFs.r frs262)
                        have hd2_ : (2 * ((ccS tx n (cAdv S)) - 65) + (cCol tx n (cAdv (cAdv S))).1) / 2 = (ccS tx n (cAdv S)) - 65 := by omega
                        have hm2_ : (2 * ((ccS tx n (cAdv S)) - 65) + (cCol tx n (cAdv (cAdv S))).1) % 2 = (cCol tx n (cAdv (cAdv S))).1 := by omega
                        rw [eE_, if_neg (by decide)] at hx306
                        exact ⟨mI (wI (wI (setI (setI m 30 7 ((S.2 : Int) + 1)) 30 7 (((cAdv S).2 : Int) + 1)) Ix262) Ix310), rfl, op_goal (k := 102) (d := (2 * ((ccS tx n (cAdv S)) - 65) + (cCol tx n (cAdv (cAdv S))).1)) (st := (cCol tx n (cAdv (cAdv S))).2) ((if_neg (by omega)).trans ((if_neg (by omega)).trans ((if_pos (by omega)).trans ((if_pos (by omega)).trans ((if_neg (by omega)).trans (congrArg (fun z => (z, (2 * ((ccS tx n (cAdv S)) - 65) + (cCol tx n (cAdv (cAdv S))).1), (cCol tx n (cAdv (cAdv S))).2)) (show ccS tx n S = 102 from by omega))))))) (hv_seen (fun h0_ => valC_102.trans (by rw [hd2_, hm2_, ← hx306])) frs262 hx310) (RQ.fr hP262 (fun o k h_ => hF310 o k (by omega))) (QFr.tr (QFs.r frs262) (fun o k h_ => hF310 o k (by omega))) hl310 ((hF310 30 26 (by omega)).trans (frs262 30 26 (by omega)))⟩
                    · skip
                      refine V_ld (pc := 283) dX11_operand_283 (v := vr 30) rfl rfl ?_
                      refine V_ld (pc := 284) dX11_operand_284 (v := vi ((ccS tx n (cAdv S)) - 65)) rfl rfl ?_
                      refine V_ld (pc := 285) dX11_operand_285 (v := vi ((cCol tx n (cAdv (cAdv S))).1)) rfl rfl ?_
                      refine V_callV (pc := 286) dX11_operand_286 (F' := 0) (As := [vi ((ccS tx n (cAdv S)) - 65), vi ((cCol tx n (cAdv (cAdv S))).1)]) (st := []) cw_RX11_235 rfl rfl hL.t30 (by decide) (Nat.le_of_ble_eq_true rfl) (by omega) (q_summed  (wI (setI (setI m 30 7 ((S.2 : Int) + 1)) 30 7 (((cAdv S).2 : Int) + 1)) Ix262) ((ccS tx n (cAdv S)) - 65) ((cCol tx n (cAdv (cAdv S))).1)   (by first | assumption | omega) (EOK.frs hE frs262) (by rw [show mI (wI (setI (setI m 30 7 ((S.2 : Int) + 1)) 30 7 (((cAdv S).2 : Int) + 1)) Ix262) 30 25 = mI m 30 25 from frs262 30 25 (by omega)]; omega) (by omega)) ?_
                      rintro _ _ ⟨x286, rfl, hx286, rfl⟩ ok286 le286
                      refine V_goto (pc := 289) dX11_operand_289 (tgt := 313) rfl ?_
                      refine V_retl (pc := 313) dX11_operand_313 trivial ?_
                      have eE_ : envR (mI (wI (setI (setI m 30 7 ((S.2 : Int) + 1)) 30 7 (((cAdv S).2 : Int) + 1)) Ix262)) = envR (mI m) := envR_fr (QFs.r frs262)
                      have hd2_ : (2 * ((ccS tx n (cAdv S)) - 65) + (cCol tx n (cAdv (cAdv S))).1) / 2 = (ccS tx n (cAdv S)) - 65 := by omega
                      have hm2_ : (2 * ((ccS tx n (cAdv S)) - 65) + (cCol tx n (cAdv (cAdv S))).1) % 2 = (cCol tx n (cAdv (cAdv S))).1 := by omega
                      rw [eE_] at hx286
                      exact ⟨mI (wI (setI (setI m 30 7 ((S.2 : Int) + 1)) 30 7 (((cAdv S).2 : Int) + 1)) Ix262), rfl, op_goal (k := 115) (d := (2 * ((ccS tx n (cAdv S)) - 65) + (cCol tx n (cAdv (cAdv S))).1)) (st := (cCol tx n (cAdv (cAdv S))).2) ((if_neg (by omega)).trans ((if_neg (by omega)).trans ((if_pos (by omega)).trans ((if_pos (by omega)).trans ((if_neg (by omega)).trans (congrArg (fun z => (z, (2 * ((ccS tx n (cAdv S)) - 65) + (cCol tx n (cAdv (cAdv S))).1), (cCol tx n (cAdv (cAdv S))).2)) (show ccS tx n S = 115 from by omega))))))) (hv_some (valC_115.trans (by rw [hd2_, hm2_])) hx286 (frs262 30 27 (by omega))) hP262 (QFs.r frs262) (by rw [show mI (wI (setI (setI m 30 7 ((S.2 : Int) + 1)) 30 7 (((cAdv S).2 : Int) + 1)) Ix262) 30 27 = mI m 30 27 from frs262 30 27 (by omega)]; exact hE.2.2.2.1) (frs262 30 26 (by omega))⟩
                  · skip
                    refine V_lconst (pc := 273) dX11_operand_273 (x := 0) (by unfold I64; omega) (by decide) ?_
                    refine V_goto (pc := 274) dX11_operand_274 (tgt := 313) rfl ?_
                    refine V_retl (pc := 313) dX11_operand_313 trivial ?_
                    exact ⟨mI (wI (setI (setI m 30 7 ((S.2 : Int) + 1)) 30 7 (((cAdv S).2 : Int) + 1)) Ix262), rfl, op_goal (k := (ccS tx n S)) (d := (2 * ((ccS tx n (cAdv S)) - 65) + (cCol tx n (cAdv (cAdv S))).1)) (st := (cCol tx n (cAdv (cAdv S))).2) ((if_neg (by omega)).trans ((if_neg (by omega)).trans ((if_pos (by omega)).trans ((if_pos (by omega)).trans (if_neg (by omega)))))) (fun h0_ _ => absurd h0_ (by omega)) hP262 (QFs.r frs262) (by rw [show mI (wI (setI (setI m 30 7 ((S.2 : Int) + 1)) 30 7 (((cAdv S).2 : Int) + 1)) Ix262) 30 27 = mI m 30 27 from frs262 30 27 (by omega)]; exact hE.2.2.2.1) (frs262 30 26 (by omega))⟩
                · skip
                  refine V_ld (pc := 243) dX11_operand_243 (v := vr 30) rfl rfl ?_
                  refine V_getIv (pc := 244) dX11_operand_244 (v := mI m 30 25) fw_RX11_216 rfl hL.t30 (frshA237 30 25 (by omega)) (fun g244 => ?_)
                  refine V_if_ge (pc := 247) dX11_operand_247 (tgt := 254) rfl (fun h247 => ?_) (fun h247 => ?_)
                  · skip
                    refine V_ld (pc := 254) dX11_operand_254 (v := vr 30) rfl rfl ?_
                    refine V_ld (pc := 255) dX11_operand_255 (v := vi ((ccS tx n (cAdv S)) - 65)) rfl rfl ?_
                    refine V_callV (pc := 256) dX11_operand_256 (F' := 0) (As := [vi ((ccS tx n (cAdv S)) - 65)]) (st := []) cw_RX11_232 rfl rfl hL.t30 (by decide) (Nat.le_of_ble_eq_true rfl) (by omega) (q_counted  (setI (setI m 30 7 ((S.2 : Int) + 1)) 30 7 (((cAdv S).2 : Int) + 1)) ((ccS tx n (cAdv S)) - 65)   (by first | assumption | omega) (EOK.frs hE frshA237) (by rw [show mI (setI (setI m 30 7 ((S.2 : Int) + 1)) 30 7 (((cAdv S).2 : Int) + 1)) 30 25 = mI m 30 25 from frshA237 30 25 (by omega)]; omega)) ?_
                    rintro _ _ ⟨x256, rfl, hx256, rfl⟩ ok256 le256
                    refine V_i2l (pc := 259) dX11_operand_259 ?_
                    refine V_retl (pc := 260) dX11_operand_260 trivial ?_
                    have eE_ : envR (mI (setI (setI m 30 7 ((S.2 : Int) + 1)) 30 7 (((cAdv S).2 : Int) + 1))) = envR (mI m) := envR_fr (QFs.r frshA237)
                    have hd2_ : (2 * ((ccS tx n (cAdv S)) - 65)) / 2 = (ccS tx n (cAdv S)) - 65 := by omega
                    rw [eE_] at hx256
                    exact ⟨mI (setI (setI m 30 7 ((S.2 : Int) + 1)) 30 7 (((cAdv S).2 : Int) + 1)), rfl, op_goal (k := 99) (d := (2 * ((ccS tx n (cAdv S)) - 65))) (st := cAdv (cAdv S)) ((if_neg (by omega)).trans ((if_neg (by omega)).trans ((if_pos (by omega)).trans ((if_pos (by omega)).trans (if_pos (by omega)))))) (hv_some (valC_99.trans (by rw [hd2_])) hx256 (frshA237 30 27 (by omega))) hA237 (QFs.r frshA237) (by rw [show mI (setI (setI m 30 7 ((S.2 : Int) + 1)) 30 7 (((cAdv S).2 : Int) + 1)) 30 27 = mI m 30 27 from frshA237 30 27 (by omega)]; exact hE.2.2.2.1) (frshA237 30 26 (by omega))⟩
                  · skip
                    refine V_lconst (pc := 250) dX11_operand_250 (x := 0) (by unfold I64; omega) (by decide) ?_
                    refine V_goto (pc := 251) dX11_operand_251 (tgt := 260) rfl ?_
                    refine V_retl (pc := 260) dX11_operand_260 trivial ?_
                    exact ⟨mI (setI (setI m 30 7 ((S.2 : Int) + 1)) 30 7 (((cAdv S).2 : Int) + 1)), rfl, op_goal (k := 99) (d := (2 * ((ccS tx n (cAdv S)) - 65))) (st := cAdv (cAdv S)) ((if_neg (by omega)).trans ((if_neg (by omega)).trans ((if_pos (by omega)).trans ((if_pos (by omega)).trans (if_pos (by omega)))))) (fun h0_ _ => absurd h0_ (by omega)) hA237 (QFs.r frshA237) (by rw [show mI (setI (setI m 30 7 ((S.2 : Int) + 1)) 30 7 (((cAdv S).2 : Int) + 1)) 30 27 = mI m 30 27 from frshA237 30 27 (by omega)]; exact hE.2.2.2.1) (frshA237 30 26 (by omega))⟩
              · skip
                refine V_ld (pc := 207) dX11_operand_207 (v := vr 30) rfl rfl ?_
                refine V_iconst (pc := 208) dX11_operand_208 (by unfold I32; omega) ?_
                refine V_putI (pc := 209) dX11_operand_209 fw_RX11_128 rfl hL.t30 (Or.inl rfl) (Or.inr ⟨rfl, by first | exact Or.inl rfl | exact Or.inr rfl | omega⟩) ?_
                refine V_lconst (pc := 212) dX11_operand_212 (x := 0) (by unfold I64; omega) (by decide) ?_
                refine V_retl (pc := 213) dX11_operand_213 trivial ?_
                have frs213 : QFs (mI m) (mI (setI (setI m 30 7 ((S.2 : Int) + 1)) 30 8 0)) := QFs.set frshA196 (by omega)
                exact ⟨mI (setI (setI m 30 7 ((S.2 : Int) + 1)) 30 8 0), rfl, op_goal (k := 0) (d := 0) (st := cBad (cAdv S)) ((if_neg (by omega)).trans ((if_neg (by omega)).trans ((if_pos (by omega)).trans (if_neg (by omega))))) (fun _ h_ => by cases h_) (RQ.bad hA196) (QFs.r frs213) (by rw [show mI (setI (setI m 30 7 ((S.2 : Int) + 1)) 30 8 0) 30 27 = mI m 30 27 from frs213 30 27 (by omega)]; exact hE.2.2.2.1) (frs213 30 26 (by omega))⟩
            · skip
              refine V_ld (pc := 114) dX11_operand_114 (v := vr 30) rfl rfl ?_
              refine V_bipush (pc := 115) dX11_operand_115 (by unfold I32; omega) (by decide) ?_
              refine V_callV (pc := 117) dX11_operand_117 (F' := 0) (As := [vi 115]) (st := []) cw_RX11_132 rfl rfl hL.t30 (by decide) (Nat.le_of_ble_eq_true rfl) (by omega) (q_isAt tx n S m 115   (by first | assumption | omega) hP (by decide)) ?_
              rintro _ _ ⟨x117, rfl, hx117, rfl⟩ ok117 le117
              refine V_if_ne (pc := 120) dX11_operand_120 (tgt := 176) rfl (fun h120 => ?_) (fun h120 => ?_)
              · skip
                have hlt1_ := (cc_lt (tx := tx) (n := n) (S := S) (by omega)).2
                refine V_ld (pc := 176) dX11_operand_176 (v := vr 30) rfl rfl ?_
                refine V_getRv (pc := 177) dX11_operand_177 (o' := 34) fw_RX11_21 rfl hL.t30 hL.r30_5 ?_
                refine V_ld (pc := 180) dX11_operand_180 (v := vr 30) rfl rfl ?_
                refine V_getIv (pc := 181) dX11_operand_181 (v := (S.2 : Int)) fw_RX11_125 rfl hL.t30 hP.2.1 (fun g181 => ?_)
                refine V_ialdv (pc := 184) dX11_operand_184 (v := (ccS tx n S)) hL.t34 (by omega) (RQ.rd hP (by omega)) (fun g184 => ?_)
                refine V_st (pc := 185) dX11_operand_185 (ls' := [(1, vi (ccS tx n S)), (0, vr 30)]) rfl (Nat.le_of_ble_eq_true rfl) rfl ?_
                refine V_ld (pc := 186) dX11_operand_186 (v := vr 30) rfl rfl ?_
                refine V_dup (pc := 187) dX11_operand_187 rfl ?_
                refine V_getIv (pc := 188) dX11_operand_188 (v := (S.2 : Int)) fw_RX11_125 rfl hL.t30 hP.2.1 (fun g188 => ?_)
                refine V_iconst (pc := 191) dX11_operand_191 (by unfold I32; omega) ?_
                refine V_iadd (pc := 192) dX11_operand_192 (by unfold I32 at *; omega) ?_
                refine V_putI (pc := 193) dX11_operand_193 fw_RX11_125 rfl hL.t30 (Or.inl rfl) (Or.inl rfl) ?_
                have frshA196 : QFs (mI m) (mI (setI m 30 7 ((S.2 : Int) + 1))) := QFs.set (QFs.rf : QFs (mI m) (mI m)) (by omega)
                have hA196 : RQ (mI (setI m 30 7 ((S.2 : Int) + 1))) tx n (cAdv S) := RQ.adv hP (congrArg (fun z => z + 1) hP.2.1.symm) (RQ.lt hP (by omega))
                have ehA196 : (cAdv S).2 = S.2 + 1 := rfl
                have bhA196 := hA196.2.2.2.1
                refine V_ld (pc := 196) dX11_operand_196 (v := vr 30) rfl rfl ?_
                refine V_bipush (pc := 197) dX11_operand_197 (by unfold I32; omega) (by decide) ?_
                refine V_bipush (pc := 199) dX11_operand_199 (by unfold I32; omega) (by decide) ?_
                refine V_callV (pc := 201) dX11_operand_201 (F' := 1) (As := [vi 65, vi 90]) (st := []) cw_RX11_135 rfl rfl hL.t30 (by decide) (Nat.le_of_ble_eq_true rfl) (by omega) (q_isAmong tx n (cAdv S) (setI m 30 7 ((S.2 : Int) + 1)) 65 90   (by first | assumption | omega) hA196 (by decide)) ?_
                rintro _ _ ⟨x201, rfl, hx201, rfl⟩ ok201 le201
                refine V_if_ne (pc := 204) dX11_operand_204 (tgt := 214) rfl (fun h204 => ?_) (fun h204 => ?_)
                · skip
                  have hlt2_ := (cc_lt (tx := tx) (n := n) (S := cAdv S) (by omega)).2
                  refine V_ld (pc := 214) dX11_operand_214 (v := vr 30) rfl rfl ?_
                  refine V_getRv (pc := 215) dX11_operand_215 (o' := 34) fw_RX11_21 rfl hL.t30 hL.r30_5 ?_
                  refine V_ld (pc := 218) dX11_operand_218 (v := vr 30) rfl rfl ?_
                  refine V_getIv (pc := 219) dX11_operand_219 (v := ((cAdv S).2 : Int)) fw_RX11_125 rfl hL.t30 hA196.2.1 (fun g219 => ?_)
                  refine V_ialdv (pc := 222) dX11_operand_222 (v := (ccS tx n (cAdv S))) hL.t34 (by omega) (RQ.rd hA196 (by omega)) (fun g222 => ?_)
                  refine V_bipush (pc := 223) dX11_operand_223 (by unfold I32; omega) (by decide) ?_
                  refine V_isub (pc := 225) dX11_operand_225 (by unfold I32 at *; omega) ?_
                  refine V_st (pc := 226) dX11_operand_226 (ls' := [(2, vi ((ccS tx n (cAdv S)) - 65)), (1, vi (ccS tx n S)), (0, vr 30)]) rfl (Nat.le_of_ble_eq_true rfl) rfl ?_
                  refine V_ld (pc := 227) dX11_operand_227 (v := vr 30) rfl rfl ?_
                  refine V_dup (pc := 228) dX11_operand_228 rfl ?_
                  refine V_getIv (pc := 229) dX11_operand_229 (v := ((cAdv S).2 : Int)) fw_RX11_125 rfl hL.t30 hA196.2.1 (fun g229 => ?_)
                  refine V_iconst (pc := 232) dX11_operand_232 (by unfold I32; omega) ?_
                  refine V_iadd (pc := 233) dX11_operand_233 (by unfold I32 at *; omega) ?_
                  refine V_putI (pc := 234) dX11_operand_234 fw_RX11_125 rfl hL.t30 (Or.inl rfl) (Or.inl rfl) ?_
                  have frshA237 : QFs (mI m) (mI (setI (setI m 30 7 ((S.2 : Int) + 1)) 30 7 (((cAdv S).2 : Int) + 1))) := QFs.set frshA196 (by omega)
                  have hA237 : RQ (mI (setI (setI m 30 7 ((S.2 : Int) + 1)) 30 7 (((cAdv S).2 : Int) + 1))) tx n (cAdv (cAdv S)) := RQ.adv hA196 (congrArg (fun z => z + 1) hA196.2.1.symm) (RQ.lt hA196 (by omega))
                  have ehA237 : (cAdv (cAdv S)).2 = (cAdv S).2 + 1 := rfl
                  have bhA237 := hA237.2.2.2.1
                  refine V_ld (pc := 237) dX11_operand_237 (v := vi (ccS tx n S)) rfl rfl ?_
                  refine V_bipush (pc := 238) dX11_operand_238 (by unfold I32; omega) (by decide) ?_
                  refine V_icmp_ne (pc := 240) dX11_operand_240 (tgt := 261) rfl (fun h240 => ?_) (fun h240 => ?_)
                  · skip
                    refine V_ld (pc := 261) dX11_operand_261 (v := vr 30) rfl rfl ?_
                    refine V_callV (pc := 262) dX11_operand_262 (F' := 2) (As := []) (st := []) cw_RX11_225 rfl rfl hL.t30 (by decide) (Nat.le_of_ble_eq_true rfl) (by omega) (q_column tx n (cAdv (cAdv S)) (setI (setI m 30 7 ((S.2 : Int) + 1)) 30 7 (((cAdv S).2 : Int) + 1))    (by first | assumption | omega) hA237) ?_
                    rintro _ _ ⟨x262, rfl, Ix262, rfl, rfl, hP262, hF262⟩ ok262 le262
                    have hcl262 := (ccol_ni tx n (cAdv (cAdv S))).2
                    have hB262 := hP262.2.2.2.1
                    have frs262 : QFs (mI m) (mI (wI (setI (setI m 30 7 ((S.2 : Int) + 1)) 30 7 (((cAdv S).2 : Int) + 1)) Ix262)) := QFs.tr frshA237 hF262
                    refine V_st (pc := 265) dX11_operand_265 (ls' := [(3, vi ((cCol tx n (cAdv (cAdv S))).1)), (2, vi ((ccS tx n (cAdv S)) - 65)), (1, vi (ccS tx n S)), (0, vr 30)]) rfl (Nat.le_of_ble_eq_true rfl) rfl ?_
                    refine V_ld (pc := 266) dX11_operand_266 (v := vr 30) rfl rfl ?_
                    refine V_getIv (pc := 267) dX11_operand_267 (v := mI m 30 25) fw_RX11_216 rfl hL.t30 (frs262 30 25 (by omega)) (fun g267 => ?_)
                    refine V_if_ge (pc := 270) dX11_operand_270 (tgt := 277) rfl (fun h270 => ?_) (fun h270 => ?_)
                    · skip
                      refine V_ld (pc := 277) dX11_operand_277 (v := vi (ccS tx n S)) rfl rfl ?_
                      refine V_bipush (pc := 278) dX11_operand_278 (by unfold I32; omega) (by decide) ?_
                      refine V_icmp_ne (pc := 280) dX11_operand_280 (tgt := 292) rfl (fun h280 => ?_) (fun h280 => ?_)
                      · skip
                        refine V_ld (pc := 292) dX11_operand_292 (v := vr 30) rfl rfl ?_
                        refine V_ld (pc := 293) dX11_operand_293 (v := vr 30) rfl rfl ?_
                        refine V_ld (pc := 294) dX11_operand_294 (v := vi ((ccS tx n (cAdv S)) - 65)) rfl rfl ?_
                        refine V_ld (pc := 295) dX11_operand_295 (v := vi (ccS tx n S)) rfl rfl ?_
                        refine V_bipush (pc := 296) dX11_operand_296 (by unfold I32; omega) (by decide) ?_
                        refine V_icmp_ne (pc := 298) dX11_operand_298 (tgt := 305) rfl (fun h298 => ?_) (fun h298 => ?_)
                        · skip
                          refine V_iconst (pc := 305) dX11_operand_305 (by unfold I32; omega) ?_
                          skip
                          refine V_callV (pc := 306) dX11_operand_306 (F' := 0) (As := [vi ((ccS tx n (cAdv S)) - 65), vi 0]) (st := [vr 30]) cw_RX11_238 rfl rfl hL.t30 (by decide) (Nat.le_of_ble_eq_true rfl) (by omega) (q_lettered  (wI (setI (setI m 30 7 ((S.2 : Int) + 1)) 30 7 (((cAdv S).2 : Int) + 1)) Ix262) ((ccS tx n (cAdv S)) - 65) 0   (by first | assumption | omega) (EOK.frs hE frs262) (by rw [show mI (wI (setI (setI m 30 7 ((S.2 : Int) + 1)) 30 7 (((cAdv S).2 : Int) + 1)) Ix262) 30 25 = mI m 30 25 from frs262 30 25 (by omega)]; omega)) ?_
                          rintro _ _ ⟨x306, rfl, hx306, rfl⟩ ok306 le306
                          refine V_ld (pc := 309) dX11_operand_309 (v := vi ((cCol tx n (cAdv (cAdv S))).1)) rfl rfl ?_
                          refine V_callV (pc := 310) dX11_operand_310 (F' := 2) (As := [vi x306, vi ((cCol tx n (cAdv (cAdv S))).1)]) (st := []) cw_RX11_228 rfl rfl hL.t30 (by decide) (Nat.le_of_ble_eq_true rfl) (by omega) (q_seen  (wI (setI (setI m 30 7 ((S.2 : Int) + 1)) 30 7 (((cAdv S).2 : Int) + 1)) Ix262) x306 ((cCol tx n (cAdv (cAdv S))).1)   (by first | assumption | omega) (EOK.frs hE frs262) (by omega)) ?_
                          rintro _ _ ⟨x310, rfl, Ix310, rfl, hx310, hl310, hF310⟩ ok310 le310
                          refine V_retl (pc := 313) dX11_operand_313 trivial ?_
                          have eE_ : envR (mI (wI (setI (setI m 30 7 ((S.2 : Int) + 1)) 30 7 (((cAdv S).2 : Int) + 1)) Ix262)) = envR (mI m) := envR_fr (QFs.r frs262)
                          have hd2_ : (2 * ((ccS tx n (cAdv S)) - 65) + (cCol tx n (cAdv (cAdv S))).1) / 2 = (ccS tx n (cAdv S)) - 65 := by omega
                          have hm2_ : (2 * ((ccS tx n (cAdv S)) - 65) + (cCol tx n (cAdv (cAdv S))).1) % 2 = (cCol tx n (cAdv (cAdv S))).1 := by omega
                          rw [eE_, if_pos rfl] at hx306
                          exact ⟨mI (wI (wI (setI (setI m 30 7 ((S.2 : Int) + 1)) 30 7 (((cAdv S).2 : Int) + 1)) Ix262) Ix310), rfl, op_goal (k := 108) (d := (2 * ((ccS tx n (cAdv S)) - 65) + (cCol tx n (cAdv (cAdv S))).1)) (st := (cCol tx n (cAdv (cAdv S))).2) ((if_neg (by omega)).trans ((if_neg (by omega)).trans ((if_pos (by omega)).trans ((if_pos (by omega)).trans ((if_neg (by omega)).trans (congrArg (fun z => (z, (2 * ((ccS tx n (cAdv S)) - 65) + (cCol tx n (cAdv (cAdv S))).1), (cCol tx n (cAdv (cAdv S))).2)) (show ccS tx n S = 108 from by omega))))))) (hv_seen (fun h0_ => valC_108.trans (by rw [hd2_, hm2_, ← hx306])) frs262 hx310) (RQ.fr hP262 (fun o k h_ => hF310 o k (by omega))) (QFr.tr (QFs.r frs262) (fun o k h_ => hF310 o k (by omega))) hl310 ((hF310 30 26 (by omega)).trans (frs262 30 26 (by omega)))⟩
                        · skip
                          refine V_iconst (pc := 301) dX11_operand_301 (by unfold I32; omega) ?_
                          refine V_goto (pc := 302) dX11_operand_302 (tgt := 306) rfl ?_
                          skip
                          refine V_callV (pc := 306) dX11_operand_306 (F' := 0) (As := [vi ((ccS tx n (cAdv S)) - 65), vi 1]) (st := [vr 30]) cw_RX11_238 rfl rfl hL.t30 (by decide) (Nat.le_of_ble_eq_true rfl) (by omega) (q_lettered  (wI (setI (setI m 30 7 ((S.2 : Int) + 1)) 30 7 (((cAdv S).2 : Int) + 1)) Ix262) ((ccS tx n (cAdv S)) - 65) 1   (by first | assumption | omega) (EOK.frs hE frs262) (by rw [show mI (wI (setI (setI m 30 7 ((S.2 : Int) + 1)) 30 7 (((cAdv S).2 : Int) + 1)) Ix262) 30 25 = mI m 30 25 from frs262 30 25 (by omega)]; omega)) ?_
                          rintro _ _ ⟨x306, rfl, hx306, rfl⟩ ok306 le306
                          refine V_ld (pc := 309) dX11_operand_309 (v := vi ((cCol tx n (cAdv (cAdv S))).1)) rfl rfl ?_
                          refine V_callV (pc := 310) dX11_operand_310 (F' := 2) (As := [vi x306, vi ((cCol tx n (cAdv (cAdv S))).1)]) (st := []) cw_RX11_228 rfl rfl hL.t30 (by decide) (Nat.le_of_ble_eq_true rfl) (by omega) (q_seen  (wI (setI (setI m 30 7 ((S.2 : Int) + 1)) 30 7 (((cAdv S).2 : Int) + 1)) Ix262) x306 ((cCol tx n (cAdv (cAdv S))).1)   (by first | assumption | omega) (EOK.frs hE frs262) (by omega)) ?_
                          rintro _ _ ⟨x310, rfl, Ix310, rfl, hx310, hl310, hF310⟩ ok310 le310
                          refine V_retl (pc := 313) dX11_operand_313 trivial ?_
                          have eE_ : envR (mI (wI (setI (setI m 30 7 ((S.2 : Int) + 1)) 30 7 (((cAdv S).2 : Int) + 1)) Ix262)) = envR (mI m) := envR_fr (QFs.r frs262)
                          have hd2_ : (2 * ((ccS tx n (cAdv S)) - 65) + (cCol tx n (cAdv (cAdv S))).1) / 2 = (ccS tx n (cAdv S)) - 65 := by omega
                          have hm2_ : (2 * ((ccS tx n (cAdv S)) - 65) + (cCol tx n (cAdv (cAdv S))).1) % 2 = (cCol tx n (cAdv (cAdv S))).1 := by omega
                          rw [eE_, if_neg (by decide)] at hx306
                          exact ⟨mI (wI (wI (setI (setI m 30 7 ((S.2 : Int) + 1)) 30 7 (((cAdv S).2 : Int) + 1)) Ix262) Ix310), rfl, op_goal (k := 102) (d := (2 * ((ccS tx n (cAdv S)) - 65) + (cCol tx n (cAdv (cAdv S))).1)) (st := (cCol tx n (cAdv (cAdv S))).2) ((if_neg (by omega)).trans ((if_neg (by omega)).trans ((if_pos (by omega)).trans ((if_pos (by omega)).trans ((if_neg (by omega)).trans (congrArg (fun z => (z, (2 * ((ccS tx n (cAdv S)) - 65) + (cCol tx n (cAdv (cAdv S))).1), (cCol tx n (cAdv (cAdv S))).2)) (show ccS tx n S = 102 from by omega))))))) (hv_seen (fun h0_ => valC_102.trans (by rw [hd2_, hm2_, ← hx306])) frs262 hx310) (RQ.fr hP262 (fun o k h_ => hF310 o k (by omega))) (QFr.tr (QFs.r frs262) (fun o k h_ => hF310 o k (by omega))) hl310 ((hF310 30 26 (by omega)).trans (frs262 30 26 (by omega)))⟩
                      · skip
                        refine V_ld (pc := 283) dX11_operand_283 (v := vr 30) rfl rfl ?_
                        refine V_ld (pc := 284) dX11_operand_284 (v := vi ((ccS tx n (cAdv S)) - 65)) rfl rfl ?_
                        refine V_ld (pc := 285) dX11_operand_285 (v := vi ((cCol tx n (cAdv (cAdv S))).1)) rfl rfl ?_
                        refine V_callV (pc := 286) dX11_operand_286 (F' := 0) (As := [vi ((ccS tx n (cAdv S)) - 65), vi ((cCol tx n (cAdv (cAdv S))).1)]) (st := []) cw_RX11_235 rfl rfl hL.t30 (by decide) (Nat.le_of_ble_eq_true rfl) (by omega) (q_summed  (wI (setI (setI m 30 7 ((S.2 : Int) + 1)) 30 7 (((cAdv S).2 : Int) + 1)) Ix262) ((ccS tx n (cAdv S)) - 65) ((cCol tx n (cAdv (cAdv S))).1)   (by first | assumption | omega) (EOK.frs hE frs262) (by rw [show mI (wI (setI (setI m 30 7 ((S.2 : Int) + 1)) 30 7 (((cAdv S).2 : Int) + 1)) Ix262) 30 25 = mI m 30 25 from frs262 30 25 (by omega)]; omega) (by omega)) ?_
                        rintro _ _ ⟨x286, rfl, hx286, rfl⟩ ok286 le286
                        refine V_goto (pc := 289) dX11_operand_289 (tgt := 313) rfl ?_
                        refine V_retl (pc := 313) dX11_operand_313 trivial ?_
                        have eE_ : envR (mI (wI (setI (setI m 30 7 ((S.2 : Int) + 1)) 30 7 (((cAdv S).2 : Int) + 1)) Ix262)) = envR (mI m) := envR_fr (QFs.r frs262)
                        have hd2_ : (2 * ((ccS tx n (cAdv S)) - 65) + (cCol tx n (cAdv (cAdv S))).1) / 2 = (ccS tx n (cAdv S)) - 65 := by omega
                        have hm2_ : (2 * ((ccS tx n (cAdv S)) - 65) + (cCol tx n (cAdv (cAdv S))).1) % 2 = (cCol tx n (cAdv (cAdv S))).1 := by omega
                        rw [eE_] at hx286
                        exact ⟨mI (wI (setI (setI m 30 7 ((S.2 : Int) + 1)) 30 7 (((cAdv S).2 : Int) + 1)) Ix262), rfl, op_goal (k := 115) (d := (2 * ((ccS tx n (cAdv S)) - 65) + (cCol tx n (cAdv (cAdv S))).1)) (st := (cCol tx n (cAdv (cAdv S))).2) ((if_neg (by omega)).trans ((if_neg (by omega)).trans ((if_pos (by omega)).trans ((if_pos (by omega)).trans ((if_neg (by omega)).trans (congrArg (fun z => (z, (2 * ((ccS tx n (cAdv S)) - 65) + (cCol tx n (cAdv (cAdv S))).1), (cCol tx n (cAdv (cAdv S))).2)) (show ccS tx n S = 115 from by omega))))))) (hv_some (valC_115.trans (by rw [hd2_, hm2_])) hx286 (frs262 30 27 (by omega))) hP262 (QFs.r frs262) (by rw [show mI (wI (setI (setI m 30 7 ((S.2 : Int) + 1)) 30 7 (((cAdv S).2 : Int) + 1)) Ix262) 30 27 = mI m 30 27 from frs262 30 27 (by omega)]; exact hE.2.2.2.1) (frs262 30 26 (by omega))⟩
                    · skip
                      refine V_lconst (pc := 273) dX11_operand_273 (x := 0) (by unfold I64; omega) (by decide) ?_
                      refine V_goto (pc := 274) dX11_operand_274 (tgt := 313) rfl ?_
                      refine V_retl (pc := 313) dX11_operand_313 trivial ?_
                      exact ⟨mI (wI (setI (setI m 30 7 ((S.2 : Int) + 1)) 30 7 (((cAdv S).2 : Int) + 1)) Ix262), rfl, op_goal (k := (ccS tx n S)) (d := (2 * ((ccS tx n (cAdv S)) - 65) + (cCol tx n (cAdv (cAdv S))).1)) (st := (cCol tx n (cAdv (cAdv S))).2) ((if_neg (by omega)).trans ((if_neg (by omega)).trans ((if_pos (by omega)).trans ((if_pos (by omega)).trans (if_neg (by omega)))))) (fun h0_ _ => absurd h0_ (by omega)) hP262 (QFs.r frs262) (by rw [show mI (wI (setI (setI m 30 7 ((S.2 : Int) + 1)) 30 7 (((cAdv S).2 : Int) + 1)) Ix262) 30 27 = mI m 30 27 from frs262 30 27 (by omega)]; exact hE.2.2.2.1) (frs262 30 26 (by omega))⟩
                  · skip
                    refine V_ld (pc := 243) dX11_operand_243 (v := vr 30) rfl rfl ?_
                    refine V_getIv (pc := 244) dX11_operand_244 (v := mI m 30 25) fw_RX11_216 rfl hL.t30 (frshA237 30 25 (by omega)) (fun g244 => ?_)
                    refine V_if_ge (pc := 247) dX11_operand_247 (tgt := 254) rfl (fun h247 => ?_) (fun h247 => ?_)
                    · skip
                      refine V_ld (pc := 254) dX11_operand_254 (v := vr 30) rfl rfl ?_
                      refine V_ld (pc := 255) dX11_operand_255 (v := vi ((ccS tx n (cAdv S)) - 65)) rfl rfl ?_
                      refine V_callV (pc := 256) dX11_operand_256 (F' := 0) (As := [vi ((ccS tx n (cAdv S)) - 65)]) (st := []) cw_RX11_232 rfl rfl hL.t30 (by decide) (Nat.le_of_ble_eq_true rfl) (by omega) (q_counted  (setI (setI m 30 7 ((S.2 : Int) + 1)) 30 7 (((cAdv S).2 : Int) + 1)) ((ccS tx n (cAdv S)) - 65)   (by first | assumption | omega) (EOK.frs hE frshA237) (by rw [show mI (setI (setI m 30 7 ((S.2 : Int) + 1)) 30 7 (((cAdv S).2 : Int) + 1)) 30 25 = mI m 30 25 from frshA237 30 25 (by omega)]; omega)) ?_
                      rintro _ _ ⟨x256, rfl, hx256, rfl⟩ ok256 le256
                      refine V_i2l (pc := 259) dX11_operand_259 ?_
                      refine V_retl (pc := 260) dX11_operand_260 trivial ?_
                      have eE_ : envR (mI (setI (setI m 30 7 ((S.2 : Int) + 1)) 30 7 (((cAdv S).2 : Int) + 1))) = envR (mI m) := envR_fr (QFs.r frshA237)
                      have hd2_ : (2 * ((ccS tx n (cAdv S)) - 65)) / 2 = (ccS tx n (cAdv S)) - 65 := by omega
                      rw [eE_] at hx256
                      exact ⟨mI (setI (setI m 30 7 ((S.2 : Int) + 1)) 30 7 (((cAdv S).2 : Int) + 1)), rfl, op_goal (k := 99) (d := (2 * ((ccS tx n (cAdv S)) - 65))) (st := cAdv (cAdv S)) ((if_neg (by omega)).trans ((if_neg (by omega)).trans ((if_pos (by omega)).trans ((if_pos (by omega)).trans (if_pos (by omega)))))) (hv_some (valC_99.trans (by rw [hd2_])) hx256 (frshA237 30 27 (by omega))) hA237 (QFs.r frshA237) (by rw [show mI (setI (setI m 30 7 ((S.2 : Int) + 1)) 30 7 (((cAdv S).2 : Int) + 1)) 30 27 = mI m 30 27 from frshA237 30 27 (by omega)]; exact hE.2.2.2.1) (frshA237 30 26 (by omega))⟩
                    · skip
                      refine V_lconst (pc := 250) dX11_operand_250 (x := 0) (by unfold I64; omega) (by decide) ?_
                      refine V_goto (pc := 251) dX11_operand_251 (tgt := 260) rfl ?_
                      refine V_retl (pc := 260) dX11_operand_260 trivial ?_
                      exact ⟨mI (setI (setI m 30 7 ((S.2 : Int) + 1)) 30 7 (((cAdv S).2 : Int) + 1)), rfl, op_goal (k := 99) (d := (2 * ((ccS tx n (cAdv S)) - 65))) (st := cAdv (cAdv S)) ((if_neg (by omega)).trans ((if_neg (by omega)).trans ((if_pos (by omega)).trans ((if_pos (by omega)).trans (if_pos (by omega)))))) (fun h0_ _ => absurd h0_ (by omega)) hA237 (QFs.r frshA237) (by rw [show mI (setI (setI m 30 7 ((S.2 : Int) + 1)) 30 7 (((cAdv S).2 : Int) + 1)) 30 27 = mI m 30 27 from frshA237 30 27 (by omega)]; exact hE.2.2.2.1) (frshA237 30 26 (by omega))⟩
                · skip
                  refine V_ld (pc := 207) dX11_operand_207 (v := vr 30) rfl rfl ?_
                  refine V_iconst (pc := 208) dX11_operand_208 (by unfold I32; omega) ?_
                  refine V_putI (pc := 209) dX11_operand_209 fw_RX11_128 rfl hL.t30 (Or.inl rfl) (Or.inr ⟨rfl, by first | exact Or.inl rfl | exact Or.inr rfl | omega⟩) ?_
                  refine V_lconst (pc := 212) dX11_operand_212 (x := 0) (by unfold I64; omega) (by decide) ?_
                  refine V_retl (pc := 213) dX11_operand_213 trivial ?_
                  have frs213 : QFs (mI m) (mI (setI (setI m 30 7 ((S.2 : Int) + 1)) 30 8 0)) := QFs.set frshA196 (by omega)
                  exact ⟨mI (setI (setI m 30 7 ((S.2 : Int) + 1)) 30 8 0), rfl, op_goal (k := 0) (d := 0) (st := cBad (cAdv S)) ((if_neg (by omega)).trans ((if_neg (by omega)).trans ((if_pos (by omega)).trans (if_neg (by omega))))) (fun _ h_ => by cases h_) (RQ.bad hA196) (QFs.r frs213) (by rw [show mI (setI (setI m 30 7 ((S.2 : Int) + 1)) 30 8 0) 30 27 = mI m 30 27 from frs213 30 27 (by omega)]; exact hE.2.2.2.1) (frs213 30 26 (by omega))⟩
              · skip
                refine V_ld (pc := 123) dX11_operand_123 (v := vr 30) rfl rfl ?_
                refine V_bipush (pc := 124) dX11_operand_124 (by unfold I32; omega) (by decide) ?_
                refine V_callV (pc := 126) dX11_operand_126 (F' := 0) (As := [vi 99]) (st := []) cw_RX11_132 rfl rfl hL.t30 (by decide) (Nat.le_of_ble_eq_true rfl) (by omega) (q_isAt tx n S m 99   (by first | assumption | omega) hP (by decide)) ?_
                rintro _ _ ⟨x126, rfl, hx126, rfl⟩ ok126 le126
                refine V_if_ne (pc := 129) dX11_operand_129 (tgt := 176) rfl (fun h129 => ?_) (fun h129 => ?_)
                · skip
                  have hlt1_ := (cc_lt (tx := tx) (n := n) (S := S) (by omega)).2
                  refine V_ld (pc := 176) dX11_operand_176 (v := vr 30) rfl rfl ?_
                  refine V_getRv (pc := 177) dX11_operand_177 (o' := 34) fw_RX11_21 rfl hL.t30 hL.r30_5 ?_
                  refine V_ld (pc := 180) dX11_operand_180 (v := vr 30) rfl rfl ?_
                  refine V_getIv (pc := 181) dX11_operand_181 (v := (S.2 : Int)) fw_RX11_125 rfl hL.t30 hP.2.1 (fun g181 => ?_)
                  refine V_ialdv (pc := 184) dX11_operand_184 (v := (ccS tx n S)) hL.t34 (by omega) (RQ.rd hP (by omega)) (fun g184 => ?_)
                  refine V_st (pc := 185) dX11_operand_185 (ls' := [(1, vi (ccS tx n S)), (0, vr 30)]) rfl (Nat.le_of_ble_eq_true rfl) rfl ?_
                  refine V_ld (pc := 186) dX11_operand_186 (v := vr 30) rfl rfl ?_
                  refine V_dup (pc := 187) dX11_operand_187 rfl ?_
                  refine V_getIv (pc := 188) dX11_operand_188 (v := (S.2 : Int)) fw_RX11_125 rfl hL.t30 hP.2.1 (fun g188 => ?_)
                  refine V_iconst (pc := 191) dX11_operand_191 (by unfold I32; omega) ?_
                  refine V_iadd (pc := 192) dX11_operand_192 (by unfold I32 at *; omega) ?_
                  refine V_putI (pc := 193) dX11_operand_193 fw_RX11_125 rfl hL.t30 (Or.inl rfl) (Or.inl rfl) ?_
                  have frshA196 : QFs (mI m) (mI (setI m 30 7 ((S.2 : Int) + 1))) := QFs.set (QFs.rf : QFs (mI m) (mI m)) (by omega)
                  have hA196 : RQ (mI (setI m 30 7 ((S.2 : Int) + 1))) tx n (cAdv S) := RQ.adv hP (congrArg (fun z => z + 1) hP.2.1.symm) (RQ.lt hP (by omega))
                  have ehA196 : (cAdv S).2 = S.2 + 1 := rfl
                  have bhA196 := hA196.2.2.2.1
                  refine V_ld (pc := 196) dX11_operand_196 (v := vr 30) rfl rfl ?_
                  refine V_bipush (pc := 197) dX11_operand_197 (by unfold I32; omega) (by decide) ?_
                  refine V_bipush (pc := 199) dX11_operand_199 (by unfold I32; omega) (by decide) ?_
                  refine V_callV (pc := 201) dX11_operand_201 (F' := 1) (As := [vi 65, vi 90]) (st := []) cw_RX11_135 rfl rfl hL.t30 (by decide) (Nat.le_of_ble_eq_true rfl) (by omega) (q_isAmong tx n (cAdv S) (setI m 30 7 ((S.2 : Int) + 1)) 65 90   (by first | assumption | omega) hA196 (by decide)) ?_
                  rintro _ _ ⟨x201, rfl, hx201, rfl⟩ ok201 le201
                  refine V_if_ne (pc := 204) dX11_operand_204 (tgt := 214) rfl (fun h204 => ?_) (fun h204 => ?_)
                  · skip
                    have hlt2_ := (cc_lt (tx := tx) (n := n) (S := cAdv S) (by omega)).2
                    refine V_ld (pc := 214) dX11_operand_214 (v := vr 30) rfl rfl ?_
                    refine V_getRv (pc := 215) dX11_operand_215 (o' := 34) fw_RX11_21 rfl hL.t30 hL.r30_5 ?_
                    refine V_ld (pc := 218) dX11_operand_218 (v := vr 30) rfl rfl ?_
                    refine V_getIv (pc := 219) dX11_operand_219 (v := ((cAdv S).2 : Int)) fw_RX11_125 rfl hL.t30 hA196.2.1 (fun g219 => ?_)
                    refine V_ialdv (pc := 222) dX11_operand_222 (v := (ccS tx n (cAdv S))) hL.t34 (by omega) (RQ.rd hA196 (by omega)) (fun g222 => ?_)
                    refine V_bipush (pc := 223) dX11_operand_223 (by unfold I32; omega) (by decide) ?_
                    refine V_isub (pc := 225) dX11_operand_225 (by unfold I32 at *; omega) ?_
                    refine V_st (pc := 226) dX11_operand_226 (ls' := [(2, vi ((ccS tx n (cAdv S)) - 65)), (1, vi (ccS tx n S)), (0, vr 30)]) rfl (Nat.le_of_ble_eq_true rfl) rfl ?_
                    refine V_ld (pc := 227) dX11_operand_227 (v := vr 30) rfl rfl ?_
                    refine V_dup (pc := 228) dX11_operand_228 rfl ?_
                    refine V_getIv (pc := 229) dX11_operand_229 (v := ((cAdv S).2 : Int)) fw_RX11_125 rfl hL.t30 hA196.2.1 (fun g229 => ?_)
                    refine V_iconst (pc := 232) dX11_operand_232 (by unfold I32; omega) ?_
                    refine V_iadd (pc := 233) dX11_operand_233 (by unfold I32 at *; omega) ?_
                    refine V_putI (pc := 234) dX11_operand_234 fw_RX11_125 rfl hL.t30 (Or.inl rfl) (Or.inl rfl) ?_
                    have frshA237 : QFs (mI m) (mI (setI (setI m 30 7 ((S.2 : Int) + 1)) 30 7 (((cAdv S).2 : Int) + 1))) := QFs.set frshA196 (by omega)
                    have hA237 : RQ (mI (setI (setI m 30 7 ((S.2 : Int) + 1)) 30 7 (((cAdv S).2 : Int) + 1))) tx n (cAdv (cAdv S)) := RQ.adv hA196 (congrArg (fun z => z + 1) hA196.2.1.symm) (RQ.lt hA196 (by omega))
                    have ehA237 : (cAdv (cAdv S)).2 = (cAdv S).2 + 1 := rfl
                    have bhA237 := hA237.2.2.2.1
                    refine V_ld (pc := 237) dX11_operand_237 (v := vi (ccS tx n S)) rfl rfl ?_
                    refine V_bipush (pc := 238) dX11_operand_238 (by unfold I32; omega) (by decide) ?_
                    refine V_icmp_ne (pc := 240) dX11_operand_240 (tgt := 261) rfl (fun h240 => ?_) (fun h240 => ?_)
                    · skip
                      refine V_ld (pc := 261) dX11_operand_261 (v := vr 30) rfl rfl ?_
                      refine V_callV (pc := 262) dX11_operand_262 (F' := 2) (As := []) (st := []) cw_RX11_225 rfl rfl hL.t30 (by decide) (Nat.le_of_ble_eq_true rfl) (by omega) (q_column tx n (cAdv (cAdv S)) (setI (setI m 30 7 ((S.2 : Int) + 1)) 30 7 (((cAdv S).2 : Int) + 1))    (by first | assumption | omega) hA237) ?_
                      rintro _ _ ⟨x262, rfl, Ix262, rfl, rfl, hP262, hF262⟩ ok262 le262
                      have hcl262 := (ccol_ni tx n (cAdv (cAdv S))).2
                      have hB262 := hP262.2.2.2.1
                      have frs262 : QFs (mI m) (mI (wI (setI (setI m 30 7 ((S.2 : Int) + 1)) 30 7 (((cAdv S).2 : Int) + 1)) Ix262)) := QFs.tr frshA237 hF262
                      refine V_st (pc := 265) dX11_operand_265 (ls' := [(3, vi ((cCol tx n (cAdv (cAdv S))).1)), (2, vi ((ccS tx n (cAdv S)) - 65)), (1, vi (ccS tx n S)), (0, vr 30)]) rfl (Nat.le_of_ble_eq_true rfl) rfl ?_
                      refine V_ld (pc := 266) dX11_operand_266 (v := vr 30) rfl rfl ?_
                      refine V_getIv (pc := 267) dX11_operand_267 (v := mI m 30 25) fw_RX11_216 rfl hL.t30 (frs262 30 25 (by omega)) (fun g267 => ?_)
                      refine V_if_ge (pc := 270) dX11_operand_270 (tgt := 277) rfl (fun h270 => ?_) (fun h270 => ?_)
                      · skip
                        refine V_ld (pc := 277) dX11_operand_277 (v := vi (ccS tx n S)) rfl rfl ?_
                        refine V_bipush (pc := 278) dX11_operand_278 (by unfold I32; omega) (by decide) ?_
                        refine V_icmp_ne (pc := 280) dX11_operand_280 (tgt := 292) rfl (fun h280 => ?_) (fun h280 => ?_)
                        · skip
                          refine V_ld (pc := 292) dX11_operand_292 (v := vr 30) rfl rfl ?_
                          refine V_ld (pc := 293) dX11_operand_293 (v := vr 30) rfl rfl ?_
                          refine V_ld (pc := 294) dX11_operand_294 (v := vi ((ccS tx n (cAdv S)) - 65)) rfl rfl ?_
                          refine V_ld (pc := 295) dX11_operand_295 (v := vi (ccS tx n S)) rfl rfl ?_
                          refine V_bipush (pc := 296) dX11_operand_296 (by unfold I32; omega) (by decide) ?_
                          refine V_icmp_ne (pc := 298) dX11_operand_298 (tgt := 305) rfl (fun h298 => ?_) (fun h298 => ?_)
                          · skip
                            refine V_iconst (pc := 305) dX11_operand_305 (by unfold I32; omega) ?_
                            skip
                            refine V_callV (pc := 306) dX11_operand_306 (F' := 0) (As := [vi ((ccS tx n (cAdv S)) - 65), vi 0]) (st := [vr 30]) cw_RX11_238 rfl rfl hL.t30 (by decide) (Nat.le_of_ble_eq_true rfl) (by omega) (q_lettered  (wI (setI (setI m 30 7 ((S.2 : Int) + 1)) 30 7 (((cAdv S).2 : Int) + 1)) Ix262) ((ccS tx n (cAdv S)) - 65) 0   (by first | assumption | omega) (EOK.frs hE frs262) (by rw [show mI (wI (setI (setI m 30 7 ((S.2 : Int) + 1)) 30 7 (((cAdv S).2 : Int) + 1)) Ix262) 30 25 = mI m 30 25 from frs262 30 25 (by omega)]; omega)) ?_
                            rintro _ _ ⟨x306, rfl, hx306, rfl⟩ ok306 le306
                            refine V_ld (pc := 309) dX11_operand_309 (v := vi ((cCol tx n (cAdv (cAdv S))).1)) rfl rfl ?_
                            refine V_callV (pc := 310) dX11_operand_310 (F' := 2) (As := [vi x306, vi ((cCol tx n (cAdv (cAdv S))).1)]) (st := []) cw_RX11_228 rfl rfl hL.t30 (by decide) (Nat.le_of_ble_eq_true rfl) (by omega) (q_seen  (wI (setI (setI m 30 7 ((S.2 : Int) + 1)) 30 7 (((cAdv S).2 : Int) + 1)) Ix262) x306 ((cCol tx n (cAdv (cAdv S))).1)   (by first | assumption | omega) (EOK.frs hE frs262) (by omega)) ?_
                            rintro _ _ ⟨x310, rfl, Ix310, rfl, hx310, hl310, hF310⟩ ok310 le310
                            refine V_retl (pc := 313) dX11_operand_313 trivial ?_
                            have eE_ : envR (mI (wI (setI (setI m 30 7 ((S.2 : Int) + 1)) 30 7 (((cAdv S).2 : Int) + 1)) Ix262)) = envR (mI m) := envR_fr (QFs.r frs262)
                            have hd2_ : (2 * ((ccS tx n (cAdv S)) - 65) + (cCol tx n (cAdv (cAdv S))).1) / 2 = (ccS tx n (cAdv S)) - 65 := by omega
                            have hm2_ : (2 * ((ccS tx n (cAdv S)) - 65) + (cCol tx n (cAdv (cAdv S))).1) % 2 = (cCol tx n (cAdv (cAdv S))).1 := by omega
                            rw [eE_, if_pos rfl] at hx306
                            exact ⟨mI (wI (wI (setI (setI m 30 7 ((S.2 : Int) + 1)) 30 7 (((cAdv S).2 : Int) + 1)) Ix262) Ix310), rfl, op_goal (k := 108) (d := (2 * ((ccS tx n (cAdv S)) - 65) + (cCol tx n (cAdv (cAdv S))).1)) (st := (cCol tx n (cAdv (cAdv S))).2) ((if_neg (by omega)).trans ((if_neg (by omega)).trans ((if_pos (by omega)).trans ((if_pos (by omega)).trans ((if_neg (by omega)).trans (congrArg (fun z => (z, (2 * ((ccS tx n (cAdv S)) - 65) + (cCol tx n (cAdv (cAdv S))).1), (cCol tx n (cAdv (cAdv S))).2)) (show ccS tx n S = 108 from by omega))))))) (hv_seen (fun h0_ => valC_108.trans (by rw [hd2_, hm2_, ← hx306])) frs262 hx310) (RQ.fr hP262 (fun o k h_ => hF310 o k (by omega))) (QFr.tr (QFs.r frs262) (fun o k h_ => hF310 o k (by omega))) hl310 ((hF310 30 26 (by omega)).trans (frs262 30 26 (by omega)))⟩
                          · skip
                            refine V_iconst (pc := 301) dX11_operand_301 (by unfold I32; omega) ?_
                            refine V_goto (pc := 302) dX11_operand_302 (tgt := 306) rfl ?_
                            skip
                            refine V_callV (pc := 306) dX11_operand_306 (F' := 0) (As := [vi ((ccS tx n (cAdv S)) - 65), vi 1]) (st := [vr 30]) cw_RX11_238 rfl rfl hL.t30 (by decide) (Nat.le_of_ble_eq_true rfl) (by omega) (q_lettered  (wI (setI (setI m 30 7 ((S.2 : Int) + 1)) 30 7 (((cAdv S).2 : Int) + 1)) Ix262) ((ccS tx n (cAdv S)) - 65) 1   (by first | assumption | omega) (EOK.frs hE frs262) (by rw [show mI (wI (setI (setI m 30 7 ((S.2 : Int) + 1)) 30 7 (((cAdv S).2 : Int) + 1)) Ix262) 30 25 = mI m 30 25 from frs262 30 25 (by omega)]; omega)) ?_
                            rintro _ _ ⟨x306, rfl, hx306, rfl⟩ ok306 le306
                            refine V_ld (pc := 309) dX11_operand_309 (v := vi ((cCol tx n (cAdv (cAdv S))).1)) rfl rfl ?_
                            refine V_callV (pc := 310) dX11_operand_310 (F' := 2) (As := [vi x306, vi ((cCol tx n (cAdv (cAdv S))).1)]) (st := []) cw_RX11_228 rfl rfl hL.t30 (by decide) (Nat.le_of_ble_eq_true rfl) (by omega) (q_seen  (wI (setI (setI m 30 7 ((S.2 : Int) + 1)) 30 7 (((cAdv S).2 : Int) + 1)) Ix262) x306 ((cCol tx n (cAdv (cAdv S))).1)   (by first | assumption | omega) (EOK.frs hE frs262) (by omega)) ?_
                            rintro _ _ ⟨x310, rfl, Ix310, rfl, hx310, hl310, hF310⟩ ok310 le310
                            refine V_retl (pc := 313) dX11_operand_313 trivial ?_
                            have eE_ : envR (mI (wI (setI (setI m 30 7 ((S.2 : Int) + 1)) 30 7 (((cAdv S).2 : Int) + 1)) Ix262)) = envR (mI m) := envR_fr (QFs.r frs262)
                            have hd2_ : (2 * ((ccS tx n (cAdv S)) - 65) + (cCol tx n (cAdv (cAdv S))).1) / 2 = (ccS tx n (cAdv S)) - 65 := by omega
                            have hm2_ : (2 * ((ccS tx n (cAdv S)) - 65) + (cCol tx n (cAdv (cAdv S))).1) % 2 = (cCol tx n (cAdv (cAdv S))).1 := by omega
                            rw [eE_, if_neg (by decide)] at hx306
                            exact ⟨mI (wI (wI (setI (setI m 30 7 ((S.2 : Int) + 1)) 30 7 (((cAdv S).2 : Int) + 1)) Ix262) Ix310), rfl, op_goal (k := 102) (d := (2 * ((ccS tx n (cAdv S)) - 65) + (cCol tx n (cAdv (cAdv S))).1)) (st := (cCol tx n (cAdv (cAdv S))).2) ((if_neg (by omega)).trans ((if_neg (by omega)).trans ((if_pos (by omega)).trans ((if_pos (by omega)).trans ((if_neg (by omega)).trans (congrArg (fun z => (z, (2 * ((ccS tx n (cAdv S)) - 65) + (cCol tx n (cAdv (cAdv S))).1), (cCol tx n (cAdv (cAdv S))).2)) (show ccS tx n S = 102 from by omega))))))) (hv_seen (fun h0_ => valC_102.trans (by rw [hd2_, hm2_, ← hx306])) frs262 hx310) (RQ.fr hP262 (fun o k h_ => hF310 o k (by omega))) (QFr.tr (QFs.r frs262) (fun o k h_ => hF310 o k (by omega))) hl310 ((hF310 30 26 (by omega)).trans (frs262 30 26 (by omega)))⟩
                        · skip
                          refine V_ld (pc := 283) dX11_operand_283 (v := vr 30) rfl rfl ?_
                          refine V_ld (pc := 284) dX11_operand_284 (v := vi ((ccS tx n (cAdv S)) - 65)) rfl rfl ?_
                          refine V_ld (pc := 285) dX11_operand_285 (v := vi ((cCol tx n (cAdv (cAdv S))).1)) rfl rfl ?_
                          refine V_callV (pc := 286) dX11_operand_286 (F' := 0) (As := [vi ((ccS tx n (cAdv S)) - 65), vi ((cCol tx n (cAdv (cAdv S))).1)]) (st := []) cw_RX11_235 rfl rfl hL.t30 (by decide) (Nat.le_of_ble_eq_true rfl) (by omega) (q_summed  (wI (setI (setI m 30 7 ((S.2 : Int) + 1)) 30 7 (((cAdv S).2 : Int) + 1)) Ix262) ((ccS tx n (cAdv S)) - 65) ((cCol tx n (cAdv (cAdv S))).1)   (by first | assumption | omega) (EOK.frs hE frs262) (by rw [show mI (wI (setI (setI m 30 7 ((S.2 : Int) + 1)) 30 7 (((cAdv S).2 : Int) + 1)) Ix262) 30 25 = mI m 30 25 from frs262 30 25 (by omega)]; omega) (by omega)) ?_
                          rintro _ _ ⟨x286, rfl, hx286, rfl⟩ ok286 le286
                          refine V_goto (pc := 289) dX11_operand_289 (tgt := 313) rfl ?_
                          refine V_retl (pc := 313) dX11_operand_313 trivial ?_
                          have eE_ : envR (mI (wI (setI (setI m 30 7 ((S.2 : Int) + 1)) 30 7 (((cAdv S).2 : Int) + 1)) Ix262)) = envR (mI m) := envR_fr (QFs.r frs262)
                          have hd2_ : (2 * ((ccS tx n (cAdv S)) - 65) + (cCol tx n (cAdv (cAdv S))).1) / 2 = (ccS tx n (cAdv S)) - 65 := by omega
                          have hm2_ : (2 * ((ccS tx n (cAdv S)) - 65) + (cCol tx n (cAdv (cAdv S))).1) % 2 = (cCol tx n (cAdv (cAdv S))).1 := by omega
                          rw [eE_] at hx286
                          exact ⟨mI (wI (setI (setI m 30 7 ((S.2 : Int) + 1)) 30 7 (((cAdv S).2 : Int) + 1)) Ix262), rfl, op_goal (k := 115) (d := (2 * ((ccS tx n (cAdv S)) - 65) + (cCol tx n (cAdv (cAdv S))).1)) (st := (cCol tx n (cAdv (cAdv S))).2) ((if_neg (by omega)).trans ((if_neg (by omega)).trans ((if_pos (by omega)).trans ((if_pos (by omega)).trans ((if_neg (by omega)).trans (congrArg (fun z => (z, (2 * ((ccS tx n (cAdv S)) - 65) + (cCol tx n (cAdv (cAdv S))).1), (cCol tx n (cAdv (cAdv S))).2)) (show ccS tx n S = 115 from by omega))))))) (hv_some (valC_115.trans (by rw [hd2_, hm2_])) hx286 (frs262 30 27 (by omega))) hP262 (QFs.r frs262) (by rw [show mI (wI (setI (setI m 30 7 ((S.2 : Int) + 1)) 30 7 (((cAdv S).2 : Int) + 1)) Ix262) 30 27 = mI m 30 27 from frs262 30 27 (by omega)]; exact hE.2.2.2.1) (frs262 30 26 (by omega))⟩
                      · skip
                        refine V_lconst (pc := 273) dX11_operand_273 (x := 0) (by unfold I64; omega) (by decide) ?_
                        refine V_goto (pc := 274) dX11_operand_274 (tgt := 313) rfl ?_
                        refine V_retl (pc := 313) dX11_operand_313 trivial ?_
                        exact ⟨mI (wI (setI (setI m 30 7 ((S.2 : Int) + 1)) 30 7 (((cAdv S).2 : Int) + 1)) Ix262), rfl, op_goal (k := (ccS tx n S)) (d := (2 * ((ccS tx n (cAdv S)) - 65) + (cCol tx n (cAdv (cAdv S))).1)) (st := (cCol tx n (cAdv (cAdv S))).2) ((if_neg (by omega)).trans ((if_neg (by omega)).trans ((if_pos (by omega)).trans ((if_pos (by omega)).trans (if_neg (by omega)))))) (fun h0_ _ => absurd h0_ (by omega)) hP262 (QFs.r frs262) (by rw [show mI (wI (setI (setI m 30 7 ((S.2 : Int) + 1)) 30 7 (((cAdv S).2 : Int) + 1)) Ix262) 30 27 = mI m 30 27 from frs262 30 27 (by omega)]; exact hE.2.2.2.1) (frs262 30 26 (by omega))⟩
                    · skip
                      refine V_ld (pc := 243) dX11_operand_243 (v := vr 30) rfl rfl ?_
                      refine V_getIv (pc := 244) dX11_operand_244 (v := mI m 30 25) fw_RX11_216 rfl hL.t30 (frshA237 30 25 (by omega)) (fun g244 => ?_)
                      refine V_if_ge (pc := 247) dX11_operand_247 (tgt := 254) rfl (fun h247 => ?_) (fun h247 => ?_)
                      · skip
                        refine V_ld (pc := 254) dX11_operand_254 (v := vr 30) rfl rfl ?_
                        refine V_ld (pc := 255) dX11_operand_255 (v := vi ((ccS tx n (cAdv S)) - 65)) rfl rfl ?_
                        refine V_callV (pc := 256) dX11_operand_256 (F' := 0) (As := [vi ((ccS tx n (cAdv S)) - 65)]) (st := []) cw_RX11_232 rfl rfl hL.t30 (by decide) (Nat.le_of_ble_eq_true rfl) (by omega) (q_counted  (setI (setI m 30 7 ((S.2 : Int) + 1)) 30 7 (((cAdv S).2 : Int) + 1)) ((ccS tx n (cAdv S)) - 65)   (by first | assumption | omega) (EOK.frs hE frshA237) (by rw [show mI (setI (setI m 30 7 ((S.2 : Int) + 1)) 30 7 (((cAdv S).2 : Int) + 1)) 30 25 = mI m 30 25 from frshA237 30 25 (by omega)]; omega)) ?_
                        rintro _ _ ⟨x256, rfl, hx256, rfl⟩ ok256 le256
                        refine V_i2l (pc := 259) dX11_operand_259 ?_
                        refine V_retl (pc := 260) dX11_operand_260 trivial ?_
                        have eE_ : envR (mI (setI (setI m 30 7 ((S.2 : Int) + 1)) 30 7 (((cAdv S).2 : Int) + 1))) = envR (mI m) := envR_fr (QFs.r frshA237)
                        have hd2_ : (2 * ((ccS tx n (cAdv S)) - 65)) / 2 = (ccS tx n (cAdv S)) - 65 := by omega
                        rw [eE_] at hx256
                        exact ⟨mI (setI (setI m 30 7 ((S.2 : Int) + 1)) 30 7 (((cAdv S).2 : Int) + 1)), rfl, op_goal (k := 99) (d := (2 * ((ccS tx n (cAdv S)) - 65))) (st := cAdv (cAdv S)) ((if_neg (by omega)).trans ((if_neg (by omega)).trans ((if_pos (by omega)).trans ((if_pos (by omega)).trans (if_pos (by omega)))))) (hv_some (valC_99.trans (by rw [hd2_])) hx256 (frshA237 30 27 (by omega))) hA237 (QFs.r frshA237) (by rw [show mI (setI (setI m 30 7 ((S.2 : Int) + 1)) 30 7 (((cAdv S).2 : Int) + 1)) 30 27 = mI m 30 27 from frshA237 30 27 (by omega)]; exact hE.2.2.2.1) (frshA237 30 26 (by omega))⟩
                      · skip
                        refine V_lconst (pc := 250) dX11_operand_250 (x := 0) (by unfold I64; omega) (by decide) ?_
                        refine V_goto (pc := 251) dX11_operand_251 (tgt := 260) rfl ?_
                        refine V_retl (pc := 260) dX11_operand_260 trivial ?_
                        exact ⟨mI (setI (setI m 30 7 ((S.2 : Int) + 1)) 30 7 (((cAdv S).2 : Int) + 1)), rfl, op_goal (k := 99) (d := (2 * ((ccS tx n (cAdv S)) - 65))) (st := cAdv (cAdv S)) ((if_neg (by omega)).trans ((if_neg (by omega)).trans ((if_pos (by omega)).trans ((if_pos (by omega)).trans (if_pos (by omega)))))) (fun h0_ _ => absurd h0_ (by omega)) hA237 (QFs.r frshA237) (by rw [show mI (setI (setI m 30 7 ((S.2 : Int) + 1)) 30 7 (((cAdv S).2 : Int) + 1)) 30 27 = mI m 30 27 from frshA237 30 27 (by omega)]; exact hE.2.2.2.1) (frshA237 30 26 (by omega))⟩
                  · skip
                    refine V_ld (pc := 207) dX11_operand_207 (v := vr 30) rfl rfl ?_
                    refine V_iconst (pc := 208) dX11_operand_208 (by unfold I32; omega) ?_
                    refine V_putI (pc := 209) dX11_operand_209 fw_RX11_128 rfl hL.t30 (Or.inl rfl) (Or.inr ⟨rfl, by first | exact Or.inl rfl | exact Or.inr rfl | omega⟩) ?_
                    refine V_lconst (pc := 212) dX11_operand_212 (x := 0) (by unfold I64; omega) (by decide) ?_
                    refine V_retl (pc := 213) dX11_operand_213 trivial ?_
                    have frs213 : QFs (mI m) (mI (setI (setI m 30 7 ((S.2 : Int) + 1)) 30 8 0)) := QFs.set frshA196 (by omega)
                    exact ⟨mI (setI (setI m 30 7 ((S.2 : Int) + 1)) 30 8 0), rfl, op_goal (k := 0) (d := 0) (st := cBad (cAdv S)) ((if_neg (by omega)).trans ((if_neg (by omega)).trans ((if_pos (by omega)).trans (if_neg (by omega))))) (fun _ h_ => by cases h_) (RQ.bad hA196) (QFs.r frs213) (by rw [show mI (setI (setI m 30 7 ((S.2 : Int) + 1)) 30 8 0) 30 27 = mI m 30 27 from frs213 30 27 (by omega)]; exact hE.2.2.2.1) (frs213 30 26 (by omega))⟩
                · skip
                  refine V_ld (pc := 132) dX11_operand_132 (v := vr 30) rfl rfl ?_
                  refine V_bipush (pc := 133) dX11_operand_133 (by unfold I32; omega) (by decide) ?_
                  refine V_callV (pc := 135) dX11_operand_135 (F' := 0) (As := [vi 45]) (st := []) cw_RX11_132 rfl rfl hL.t30 (by decide) (Nat.le_of_ble_eq_true rfl) (by omega) (q_isAt tx n S m 45   (by first | assumption | omega) hP (by decide)) ?_
                  rintro _ _ ⟨x135, rfl, hx135, rfl⟩ ok135 le135
                  refine V_st (pc := 138) dX11_operand_138 (ls' := [(1, vi x135), (0, vr 30)]) rfl (Nat.le_of_ble_eq_true rfl) rfl ?_
                  refine V_ld (pc := 139) dX11_operand_139 (v := vr 30) rfl rfl ?_
                  refine V_dup (pc := 140) dX11_operand_140 rfl ?_
                  refine V_getIv (pc := 141) dX11_operand_141 (v := (S.2 : Int)) fw_RX11_125 rfl hL.t30 hP.2.1 (fun g141 => ?_)
                  refine V_ld (pc := 144) dX11_operand_144 (v := vi x135) rfl rfl ?_
                  refine V_if_eq (pc := 145) dX11_operand_145 (tgt := 152) rfl (fun h145 => ?_) (fun h145 => ?_)
                  · skip
                    refine V_iconst (pc := 152) dX11_operand_152 (by unfold I32; omega) ?_
                    refine V_iadd (pc := 153) dX11_operand_153 (by unfold I32 at *; omega) ?_
                    refine V_putI (pc := 154) dX11_operand_154 fw_RX11_125 rfl hL.t30 (Or.inl rfl) (Or.inl rfl) ?_
                    have frs157a : QFs (mI m) (mI (setI m 30 7 ((S.2 : Int) + 0))) := QFs.set (QFs.rf : QFs (mI m) (mI m)) (by omega)
                    have hA157 : RQ (mI (setI m 30 7 ((S.2 : Int) + 0))) tx n S := RQ.same hP (by omega)
                    refine V_ld (pc := 157) dX11_operand_157 (v := vr 30) rfl rfl ?_
                    refine V_iconst (pc := 158) dX11_operand_158 (by unfold I32; omega) ?_
                    refine V_callV (pc := 159) dX11_operand_159 (F' := 2) (As := [vi 3]) (st := []) cw_RX11_160 rfl rfl hL.t30 (by decide) (Nat.le_of_ble_eq_true rfl) (by omega) (q_number tx n S (setI m 30 7 ((S.2 : Int) + 0)) 3   (by first | assumption | omega) hA157 rfl) ?_
                    rintro _ _ ⟨x159, rfl, Ix159, rfl, rfl, hP159, hF159⟩ ok159 le159
                    have hn3 := (num3_ni tx n S).2
                    have hB159 := hP159.2.2.2.1
                    have frs159 : QFs (mI m) (mI (wI (setI m 30 7 ((S.2 : Int) + 0)) Ix159)) := QFs.tr frs157a hF159
                    refine V_st (pc := 162) dX11_operand_162 (ls' := [(2, vi ((num3 tx n S).1)), (1, vi x135), (0, vr 30)]) rfl (Nat.le_of_ble_eq_true rfl) rfl ?_
                    refine V_ld (pc := 163) dX11_operand_163 (v := vi x135) rfl rfl ?_
                    refine V_if_eq (pc := 164) dX11_operand_164 (tgt := 173) rfl (fun h164 => ?_) (fun h164 => ?_)
                    · skip
                      refine V_ld (pc := 173) dX11_operand_173 (v := vi ((num3 tx n S).1)) rfl rfl ?_
                      refine V_i2l (pc := 174) dX11_operand_174 ?_
                      refine V_retl (pc := 175) dX11_operand_175 trivial ?_
                      first
                        | (exfalso; omega)
                        | (exact ⟨mI (wI (setI m 30 7 ((S.2 : Int) + 0)) Ix159), rfl, op_goal (k := 48) (d := ((num3 tx n S).1 + 1000)) (st := (num3 tx n S).2) ((if_neg (by omega)).trans ((if_neg (by omega)).trans ((if_neg (by omega)).trans (if_neg (by omega))))) (hv_some valC_48 (by omega) (frs159 30 27 (by omega))) hP159 (QFs.r frs159) (by rw [show mI (wI (setI m 30 7 ((S.2 : Int) + 0)) Ix159) 30 27 = mI m 30 27 from frs159 30 27 (by omega)]; exact hE.2.2.2.1) (frs159 30 26 (by omega))⟩)
                    · skip
                      refine V_ld (pc := 167) dX11_operand_167 (v := vi ((num3 tx n S).1)) rfl rfl ?_
                      refine V_ineg (pc := 168) dX11_operand_168 (by unfold I32 at *; omega) ?_
                      refine V_i2l (pc := 169) dX11_operand_169 ?_
                      refine V_goto (pc := 170) dX11_operand_170 (tgt := 175) rfl ?_
                      refine V_retl (pc := 175) dX11_operand_175 trivial ?_
                      first
                        | (exfalso; omega)
                        | (exact ⟨mI (wI (setI m 30 7 ((S.2 : Int) + 0)) Ix159), rfl, op_goal (k := 48) (d := ((num3 tx n S).1 + 1000)) (st := (num3 tx n S).2) ((if_neg (by omega)).trans ((if_neg (by omega)).trans ((if_neg (by omega)).trans (if_neg (by omega))))) (hv_some valC_48 (by omega) (frs159 30 27 (by omega))) hP159 (QFs.r frs159) (by rw [show mI (wI (setI m 30 7 ((S.2 : Int) + 0)) Ix159) 30 27 = mI m 30 27 from frs159 30 27 (by omega)]; exact hE.2.2.2.1) (frs159 30 26 (by omega))⟩)
                  · skip
                    refine V_iconst (pc := 148) dX11_operand_148 (by unfold I32; omega) ?_
                    refine V_goto (pc := 149) dX11_operand_149 (tgt := 153) rfl ?_
                    refine V_iadd (pc := 153) dX11_operand_153 (by unfold I32 at *; omega) ?_
                    refine V_putI (pc := 154) dX11_operand_154 fw_RX11_125 rfl hL.t30 (Or.inl rfl) (Or.inl rfl) ?_
                    have frshA157 : QFs (mI m) (mI (setI m 30 7 ((S.2 : Int) + 1))) := QFs.set (QFs.rf : QFs (mI m) (mI m)) (by omega)
                    have hA157 : RQ (mI (setI m 30 7 ((S.2 : Int) + 1))) tx n (cAdv S) := RQ.adv hP (congrArg (fun z => z + 1) hP.2.1.symm) (RQ.lt hP (by omega))
                    have ehA157 : (cAdv S).2 = S.2 + 1 := rfl
                    have bhA157 := hA157.2.2.2.1
                    refine V_ld (pc := 157) dX11_operand_157 (v := vr 30) rfl rfl ?_
                    refine V_iconst (pc := 158) dX11_operand_158 (by unfold I32; omega) ?_
                    refine V_callV (pc := 159) dX11_operand_159 (F' := 2) (As := [vi 3]) (st := []) cw_RX11_160 rfl rfl hL.t30 (by decide) (Nat.le_of_ble_eq_true rfl) (by omega) (q_number tx n (cAdv S) (setI m 30 7 ((S.2 : Int) + 1)) 3   (by first | assumption | omega) hA157 rfl) ?_
                    rintro _ _ ⟨x159, rfl, Ix159, rfl, rfl, hP159, hF159⟩ ok159 le159
                    have hn3 := (num3_ni tx n (cAdv S)).2
                    have hB159 := hP159.2.2.2.1
                    have frs159 : QFs (mI m) (mI (wI (setI m 30 7 ((S.2 : Int) + 1)) Ix159)) := QFs.tr frshA157 hF159
                    refine V_st (pc := 162) dX11_operand_162 (ls' := [(2, vi ((num3 tx n (cAdv S)).1)), (1, vi x135), (0, vr 30)]) rfl (Nat.le_of_ble_eq_true rfl) rfl ?_
                    refine V_ld (pc := 163) dX11_operand_163 (v := vi x135) rfl rfl ?_
                    refine V_if_eq (pc := 164) dX11_operand_164 (tgt := 173) rfl (fun h164 => ?_) (fun h164 => ?_)
                    · skip
                      refine V_ld (pc := 173) dX11_operand_173 (v := vi ((num3 tx n (cAdv S)).1)) rfl rfl ?_
                      refine V_i2l (pc := 174) dX11_operand_174 ?_
                      refine V_retl (pc := 175) dX11_operand_175 trivial ?_
                      first
                        | (exfalso; omega)
                        | (exact ⟨mI (wI (setI m 30 7 ((S.2 : Int) + 1)) Ix159), rfl, op_goal (k := 48) (d := (1000 - (num3 tx n (cAdv S)).1)) (st := (num3 tx n (cAdv S)).2) ((if_neg (by omega)).trans ((if_neg (by omega)).trans ((if_neg (by omega)).trans (if_pos (by omega))))) (hv_some valC_48 (by omega) (frs159 30 27 (by omega))) hP159 (QFs.r frs159) (by rw [show mI (wI (setI m 30 7 ((S.2 : Int) + 1)) Ix159) 30 27 = mI m 30 27 from frs159 30 27 (by omega)]; exact hE.2.2.2.1) (frs159 30 26 (by omega))⟩)
                    · skip
                      refine V_ld (pc := 167) dX11_operand_167 (v := vi ((num3 tx n (cAdv S)).1)) rfl rfl ?_
                      refine V_ineg (pc := 168) dX11_operand_168 (by unfold I32 at *; omega) ?_
                      refine V_i2l (pc := 169) dX11_operand_169 ?_
                      refine V_goto (pc := 170) dX11_operand_170 (tgt := 175) rfl ?_
                      refine V_retl (pc := 175) dX11_operand_175 trivial ?_
                      first
                        | (exfalso; omega)
                        | (exact ⟨mI (wI (setI m 30 7 ((S.2 : Int) + 1)) Ix159), rfl, op_goal (k := 48) (d := (1000 - (num3 tx n (cAdv S)).1)) (st := (num3 tx n (cAdv S)).2) ((if_neg (by omega)).trans ((if_neg (by omega)).trans ((if_neg (by omega)).trans (if_pos (by omega))))) (hv_some valC_48 (by omega) (frs159 30 27 (by omega))) hP159 (QFs.r frs159) (by rw [show mI (wI (setI m 30 7 ((S.2 : Int) + 1)) Ix159) 30 27 = mI m 30 27 from frs159 30 27 (by omega)]; exact hE.2.2.2.1) (frs159 30 26 (by omega))⟩)
        · skip
          have hlt1_ := (cc_lt (tx := tx) (n := n) (S := S) (by omega)).2
          refine V_ld (pc := 49) dX11_operand_49 (v := vr 30) rfl rfl ?_
          refine V_getRv (pc := 50) dX11_operand_50 (o' := 34) fw_RX11_21 rfl hL.t30 hL.r30_5 ?_
          refine V_ld (pc := 53) dX11_operand_53 (v := vr 30) rfl rfl ?_
          refine V_getIv (pc := 54) dX11_operand_54 (v := (S.2 : Int)) fw_RX11_125 rfl hL.t30 hP.2.1 (fun g54 => ?_)
          refine V_ialdv (pc := 57) dX11_operand_57 (v := (ccS tx n S)) hL.t34 (by omega) (RQ.rd hP (by omega)) (fun g57 => ?_)
          refine V_bipush (pc := 58) dX11_operand_58 (by unfold I32; omega) (by decide) ?_
          refine V_icmp_ne (pc := 60) dX11_operand_60 (tgt := 67) rfl (fun h60 => ?_) (fun h60 => ?_)
          · skip
            refine V_iconst (pc := 67) dX11_operand_67 (by unfold I32; omega) ?_
            skip
            refine V_st (pc := 68) dX11_operand_68 (ls' := [(1, vi 1), (0, vr 30)]) rfl (Nat.le_of_ble_eq_true rfl) rfl ?_
            refine V_ld (pc := 69) dX11_operand_69 (v := vr 30) rfl rfl ?_
            refine V_dup (pc := 70) dX11_operand_70 rfl ?_
            refine V_getIv (pc := 71) dX11_operand_71 (v := (S.2 : Int)) fw_RX11_125 rfl hL.t30 hP.2.1 (fun g71 => ?_)
            refine V_iconst (pc := 74) dX11_operand_74 (by unfold I32; omega) ?_
            refine V_iadd (pc := 75) dX11_operand_75 (by unfold I32 at *; omega) ?_
            refine V_putI (pc := 76) dX11_operand_76 fw_RX11_125 rfl hL.t30 (Or.inl rfl) (Or.inl rfl) ?_
            have frshA79 : QFs (mI m) (mI (setI m 30 7 ((S.2 : Int) + 1))) := QFs.set (QFs.rf : QFs (mI m) (mI m)) (by omega)
            have hA79 : RQ (mI (setI m 30 7 ((S.2 : Int) + 1))) tx n (cAdv S) := RQ.adv hP (congrArg (fun z => z + 1) hP.2.1.symm) (RQ.lt hP (by omega))
            have ehA79 : (cAdv S).2 = S.2 + 1 := rfl
            have bhA79 := hA79.2.2.2.1
            refine V_ld (pc := 79) dX11_operand_79 (v := vr 30) rfl rfl ?_
            refine V_callV (pc := 80) dX11_operand_80 (F' := 2) (As := []) (st := []) cw_RX11_225 rfl rfl hL.t30 (by decide) (Nat.le_of_ble_eq_true rfl) (by omega) (q_column tx n (cAdv S) (setI m 30 7 ((S.2 : Int) + 1))    (by first | assumption | omega) hA79) ?_
            rintro _ _ ⟨x80, rfl, Ix80, rfl, rfl, hP80, hF80⟩ ok80 le80
            have hcl80 := (ccol_ni tx n (cAdv S)).2
            have hB80 := hP80.2.2.2.1
            have frs80 : QFs (mI m) (mI (wI (setI m 30 7 ((S.2 : Int) + 1)) Ix80)) := QFs.tr frshA79 hF80
            refine V_st (pc := 83) dX11_operand_83 (ls' := [(2, vi ((cCol tx n (cAdv S)).1)), (1, vi 1), (0, vr 30)]) rfl (Nat.le_of_ble_eq_true rfl) rfl ?_
            refine V_ld (pc := 84) dX11_operand_84 (v := vr 30) rfl rfl ?_
            refine V_ld (pc := 85) dX11_operand_85 (v := vr 30) rfl rfl ?_
            refine V_getIv (pc := 86) dX11_operand_86 (v := mI m 30 25) fw_RX11_216 rfl hL.t30 (frs80 30 25 (by omega)) (fun g86 => ?_)
            refine V_ld (pc := 89) dX11_operand_89 (v := vi 1) rfl rfl ?_
            refine V_iadd (pc := 90) dX11_operand_90 (by unfold I32 at *; omega) ?_
            refine V_ld (pc := 91) dX11_operand_91 (v := vi ((cCol tx n (cAdv S)).1)) rfl rfl ?_
            refine V_callV (pc := 92) dX11_operand_92 (F' := 2) (As := [vi ((mI m 30 25) + 1), vi ((cCol tx n (cAdv S)).1)]) (st := []) cw_RX11_228 rfl rfl hL.t30 (by decide) (Nat.le_of_ble_eq_true rfl) (by omega) (q_seen  (wI (setI m 30 7 ((S.2 : Int) + 1)) Ix80) ((mI m 30 25) + 1) ((cCol tx n (cAdv S)).1)   (by first | assumption | omega) (EOK.frs hE frs80) (by omega)) ?_
            rintro _ _ ⟨x92, rfl, Ix92, rfl, hx92, hl92, hF92⟩ ok92 le92
            refine V_retl (pc := 95) dX11_operand_95 trivial ?_
            exact ⟨mI (wI (wI (setI m 30 7 ((S.2 : Int) + 1)) Ix80) Ix92), rfl, op_goal (k := 110) (d := (cCol tx n (cAdv S)).1) (st := (cCol tx n (cAdv S)).2) ((if_neg (by omega)).trans ((if_pos (by omega)).trans (congrArg (fun z => (z, cCol tx n (cAdv S))) (show ccS tx n S = 110 from by omega)))) (hv_seen (fun h0_ => valC_110) frs80 hx92) (RQ.fr hP80 (fun o k h_ => hF92 o k (by omega))) (QFr.tr (QFs.r frs80) (fun o k h_ => hF92 o k (by omega))) hl92 ((hF92 30 26 (by omega)).trans (frs80 30 26 (by omega)))⟩
          · skip
            refine V_iconst (pc := 63) dX11_operand_63 (by unfold I32; omega) ?_
            refine V_goto (pc := 64) dX11_operand_64 (tgt := 68) rfl ?_
            skip
            refine V_st (pc := 68) dX11_operand_68 (ls' := [(1, vi (-1)), (0, vr 30)]) rfl (Nat.le_of_ble_eq_true rfl) rfl ?_
            refine V_ld (pc := 69) dX11_operand_69 (v := vr 30) rfl rfl ?_
            refine V_dup (pc := 70) dX11_operand_70 rfl ?_
            refine V_getIv (pc := 71) dX11_operand_71 (v := (S.2 : Int)) fw_RX11_125 rfl hL.t30 hP.2.1 (fun g71 => ?_)
            refine V_iconst (pc := 74) dX11_operand_74 (by unfold I32; omega) ?_
            refine V_iadd (pc := 75) dX11_operand_75 (by unfold I32 at *; omega) ?_
            refine V_putI (pc := 76) dX11_operand_76 fw_RX11_125 rfl hL.t30 (Or.inl rfl) (Or.inl rfl) ?_
            have frshA79 : QFs (mI m) (mI (setI m 30 7 ((S.2 : Int) + 1))) := QFs.set (QFs.rf : QFs (mI m) (mI m)) (by omega)
            have hA79 : RQ (mI (setI m 30 7 ((S.2 : Int) + 1))) tx n (cAdv S) := RQ.adv hP (congrArg (fun z => z + 1) hP.2.1.symm) (RQ.lt hP (by omega))
            have ehA79 : (cAdv S).2 = S.2 + 1 := rfl
            have bhA79 := hA79.2.2.2.1
            refine V_ld (pc := 79) dX11_operand_79 (v := vr 30) rfl rfl ?_
            refine V_callV (pc := 80) dX11_operand_80 (F' := 2) (As := []) (st := []) cw_RX11_225 rfl rfl hL.t30 (by decide) (Nat.le_of_ble_eq_true rfl) (by omega) (q_column tx n (cAdv S) (setI m 30 7 ((S.2 : Int) + 1))    (by first | assumption | omega) hA79) ?_
            rintro _ _ ⟨x80, rfl, Ix80, rfl, rfl, hP80, hF80⟩ ok80 le80
            have hcl80 := (ccol_ni tx n (cAdv S)).2
            have hB80 := hP80.2.2.2.1
            have frs80 : QFs (mI m) (mI (wI (setI m 30 7 ((S.2 : Int) + 1)) Ix80)) := QFs.tr frshA79 hF80
            refine V_st (pc := 83) dX11_operand_83 (ls' := [(2, vi ((cCol tx n (cAdv S)).1)), (1, vi (-1)), (0, vr 30)]) rfl (Nat.le_of_ble_eq_true rfl) rfl ?_
            refine V_ld (pc := 84) dX11_operand_84 (v := vr 30) rfl rfl ?_
            refine V_ld (pc := 85) dX11_operand_85 (v := vr 30) rfl rfl ?_
            refine V_getIv (pc := 86) dX11_operand_86 (v := mI m 30 25) fw_RX11_216 rfl hL.t30 (frs80 30 25 (by omega)) (fun g86 => ?_)
            refine V_ld (pc := 89) dX11_operand_89 (v := vi (-1)) rfl rfl ?_
            refine V_iadd (pc := 90) dX11_operand_90 (by unfold I32 at *; omega) ?_
            refine V_ld (pc := 91) dX11_operand_91 (v := vi ((cCol tx n (cAdv S)).1)) rfl rfl ?_
            refine V_callV (pc := 92) dX11_operand_92 (F' := 2) (As := [vi ((mI m 30 25) + (-1)), vi ((cCol tx n (cAdv S)).1)]) (st := []) cw_RX11_228 rfl rfl hL.t30 (by decide) (Nat.le_of_ble_eq_true rfl) (by omega) (q_seen  (wI (setI m 30 7 ((S.2 : Int) + 1)) Ix80) ((mI m 30 25) + (-1)) ((cCol tx n (cAdv S)).1)   (by first | assumption | omega) (EOK.frs hE frs80) (by omega)) ?_
            rintro _ _ ⟨x92, rfl, Ix92, rfl, hx92, hl92, hF92⟩ ok92 le92
            refine V_retl (pc := 95) dX11_operand_95 trivial ?_
            exact ⟨mI (wI (wI (setI m 30 7 ((S.2 : Int) + 1)) Ix80) Ix92), rfl, op_goal (k := 112) (d := (cCol tx n (cAdv S)).1) (st := (cCol tx n (cAdv S)).2) ((if_neg (by omega)).trans ((if_pos (by omega)).trans (congrArg (fun z => (z, cCol tx n (cAdv S))) (show ccS tx n S = 112 from by omega)))) (hv_seen (fun h0_ => valC_112.trans (congrArg (fun z => cellE _ z _) (by show mI m 30 25 - 1 = mI m 30 25 + (-1); omega))) frs80 hx92) (RQ.fr hP80 (fun o k h_ => hF92 o k (by omega))) (QFr.tr (QFs.r frs80) (fun o k h_ => hF92 o k (by omega))) hl92 ((hF92 30 26 (by omega)).trans (frs80 30 26 (by omega)))⟩
    · skip
      refine V_ld (pc := 18) dX11_operand_18 (v := vr 30) rfl rfl ?_
      refine V_ld (pc := 19) dX11_operand_19 (v := vr 30) rfl rfl ?_
      refine V_getIv (pc := 20) dX11_operand_20 (v := mI m 30 25) fw_RX11_216 rfl hL.t30 rfl (fun g20 => ?_)
      refine V_ld (pc := 23) dX11_operand_23 (v := vr 30) rfl rfl ?_
      refine V_callV (pc := 24) dX11_operand_24 (F' := 2) (As := []) (st := [vi (mI m 30 25), vr 30]) cw_RX11_225 rfl rfl hL.t30 (by decide) (Nat.le_of_ble_eq_true rfl) (by omega) (q_column tx n S m    (by first | assumption | omega) hP) ?_
      rintro _ _ ⟨x24, rfl, Ix24, rfl, rfl, hP24, hF24⟩ ok24 le24
      have hcl24 := (ccol_ni tx n S).2
      have hB24 := hP24.2.2.2.1
      have frs24 : QFs (mI m) (mI (wI m Ix24)) := QFs.tr (QFs.rf : QFs (mI m) (mI m)) hF24
      refine V_callV (pc := 27) dX11_operand_27 (F' := 2) (As := [vi (mI m 30 25), vi ((cCol tx n S).1)]) (st := []) cw_RX11_228 rfl rfl hL.t30 (by decide) (Nat.le_of_ble_eq_true rfl) (by omega) (q_seen  (wI m Ix24) (mI m 30 25) ((cCol tx n S).1)   (by first | assumption | omega) (EOK.frs hE frs24) (by omega)) ?_
      rintro _ _ ⟨x27, rfl, Ix27, rfl, hx27, hl27, hF27⟩ ok27 le27
      refine V_retl (pc := 30) dX11_operand_30 trivial ?_
      exact ⟨mI (wI (wI m Ix24) Ix27), rfl, op_goal (k := 120) (d := (cCol tx n S).1) (st := (cCol tx n S).2) (if_pos (by omega)) (hv_seen (fun h0_ => valC_120) frs24 hx27) (RQ.fr hP24 (fun o k h_ => hF27 o k (by omega))) (QFr.tr (QFs.r frs24) (fun o k h_ => hF27 o k (by omega))) hl27 ((hF27 30 26 (by omega)).trans (frs24 30 26 (by omega)))⟩
