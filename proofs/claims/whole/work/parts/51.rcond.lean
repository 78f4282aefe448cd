/-! the reference reads conditions: both, either; whether a letter holds at a row -/
theorem joinC_and {A B : CR} {e : CEnv} : (joinC 38 A B).2.1 e = (A.2.1 e && B.2.1 e) := by
  show (if (38 : Int) = 38 then A.2.1 e && B.2.1 e else A.2.1 e || B.2.1 e) = _
  rw [if_pos rfl]
theorem joinC_or {A B : CR} {e : CEnv} : (joinC 124 A B).2.1 e = (A.2.1 e || B.2.1 e) := by
  show (if (124 : Int) = 38 then A.2.1 e && B.2.1 e else A.2.1 e || B.2.1 e) = _
  rw [if_neg (by decide)]
theorem bI_and (a b : Bool) : bI (a && b) = (if bI a = 1 ∧ bI b = 1 then 1 else 0) := by cases a <;> cases b <;> rfl
theorem bI_or (a b : Bool) : bI (a || b) = (if bI a = 1 ∨ bI b = 1 then 1 else 0) := by cases a <;> cases b <;> rfl
theorem QOut.join {I0 I J K : Nat → Nat → Int} {tx : Nat → Int} {n : Nat} {ch v x y : Int} {A B : CR} {go : CS → CR} (h : QOut I0 I tx n A v) (hc : ccS tx n A.2.2 = ch) (hch : ch = 38 ∨ ch = 124) (hJ : QFr I J) (h26 : J 30 26 = I 30 26) (hB : QOut J K tx n B x) (hni : CNi n 3 (cAdv A.2.2) B.2.2) (hy : y = (if ch = 38 then (if v = 1 ∧ x = 1 then 1 else 0) else (if v = 1 ∨ x = 1 then 1 else 0))) : QOut I0 K tx n (joinC ch A B) y := by
  obtain ⟨a1, a2, a3, a4, a5, a6⟩ := h
  obtain ⟨b1, b2, b3, b4, b5, b6⟩ := hB
  have f1 := QFr.tr a2 (QFr.tr hJ b2)
  refine ⟨b1, f1, b3, b4.trans (h26.trans a4), ?_, fun h0 hw => ?_⟩
  · rw [hy]; split <;> split <;> omega
  · have wB : B.2.2.1 = true := hw
    have wA := ((hni.2.1 wB).1 : A.2.2.1 = true)
    have va := a6 h0 wA
    have fJ : QFr I0 J := QFr.tr a2 hJ
    have vb := b6 (by rw [fJ 30 25 (by omega)]; exact h0) wB
    rw [envR_fr fJ] at vb
    rcases hch with rfl | rfl
    · rw [joinC_and, bI_and, ← va, ← vb, hy]; exact if_pos rfl
    · rw [joinC_or, bI_or, ← va, ← vb, hy]; exact if_neg (by decide)

set_option maxHeartbeats 8000000 in
theorem L_qboth {F : Nat} {m0 m : Mem} {post : Option AV → Mem → Prop} {tx : Nat → Int} {n k : Nat} {I0 : Nat → Nat → Int} (hL : Lay (mT m) (mR m)) (hE0 : EOK I0) (hin : I0 30 26 + (k : Int) = 4) (hFF : 5 + 3 * k < F) (hsub : QFac tx n k) : ∀ (f : Nat) (R : CR) (v : Int) (I : Nat → Nat → Int), QOut I0 I tx n R v → (R.2.2.1 = true → n + 1 ≤ f + R.2.2.2) → (∀ (v' : Int) (J : Nat → Nat → Int), QOut I0 J tx n (lpC tx n 38 (facC tx n k) f R) v' → V μX11_both F m0 post 46 [(1, vi v'), (0, vr 30)] [] (wI m J)) → V μX11_both F m0 post 5 [(1, vi v), (0, vr 30)] [] (wI m I) := by
  intro f
  induction f with
  | zero =>
    intro R v I hq hf kx
    have hP := hq.1
    have hB0 := hP.2.2.2.1
    have hn120 := hP.2.2.2.2.1
    obtain ⟨q1, q2, q3, q4, q5, q6⟩ := hq
    have hq : QOut I0 I tx n R v := ⟨q1, q2, q3, q4, q5, q6⟩
    have hE : EOK I := EOK.fr hE0 q2 q3
    refine V_ld (pc := 5) dX11_both_5 (v := vr 30) rfl rfl ?_
    refine V_bipush (pc := 6) dX11_both_6 (by unfold I32; omega) (by decide) ?_
    refine V_callV (pc := 8) dX11_both_8 (F' := 0) (As := [vi 38]) (st := []) cw_RX11_132 rfl rfl hL.t30 (by decide) (Nat.le_of_ble_eq_true rfl) (by omega) (q_isAt tx n R.2.2 (wI m I) 38   (by first | assumption | omega) hP (by decide)) ?_
    rintro _ _ ⟨x8, rfl, hx8, rfl⟩ ok8 le8
    refine V_if_eq (pc := 11) dX11_both_11 (tgt := 46) rfl (fun h11 => ?_) (fun h11 => ?_)
    · skip
      skip
      exact kx v I hq
    · skip
      exfalso
      have h_ := cc_lt (tx := tx) (n := n) (S := R.2.2) (by omega)
      have h2_ := hf h_.1
      omega
  | succ f ih =>
    intro R v I hq hf kx
    have hP := hq.1
    have hB0 := hP.2.2.2.1
    have hn120 := hP.2.2.2.2.1
    obtain ⟨q1, q2, q3, q4, q5, q6⟩ := hq
    have hq : QOut I0 I tx n R v := ⟨q1, q2, q3, q4, q5, q6⟩
    have hE : EOK I := EOK.fr hE0 q2 q3
    refine V_ld (pc := 5) dX11_both_5 (v := vr 30) rfl rfl ?_
    refine V_bipush (pc := 6) dX11_both_6 (by unfold I32; omega) (by decide) ?_
    refine V_callV (pc := 8) dX11_both_8 (F' := 0) (As := [vi 38]) (st := []) cw_RX11_132 rfl rfl hL.t30 (by decide) (Nat.le_of_ble_eq_true rfl) (by omega) (q_isAt tx n R.2.2 (wI m I) 38   (by first | assumption | omega) hP (by decide)) ?_
    rintro _ _ ⟨x8, rfl, hx8, rfl⟩ ok8 le8
    refine V_if_eq (pc := 11) dX11_both_11 (tgt := 46) rfl (fun h11 => ?_) (fun h11 => ?_)
    · skip
      skip
      have e_ : lpC tx n 38 (facC tx n k) (f + 1) R = R := lpC_stop (by omega)
      refine kx v I ?_
      rw [e_]
      exact hq
    · skip
      refine V_ld (pc := 14) dX11_both_14 (v := vr 30) rfl rfl ?_
      refine V_dup (pc := 15) dX11_both_15 rfl ?_
      refine V_getIv (pc := 16) dX11_both_16 (v := (R.2.2.2 : Int)) fw_RX11_125 rfl hL.t30 hP.2.1 (fun g16 => ?_)
      refine V_iconst (pc := 19) dX11_both_19 (by unfold I32; omega) ?_
      refine V_iadd (pc := 20) dX11_both_20 (by unfold I32 at *; omega) ?_
      refine V_putI (pc := 21) dX11_both_21 fw_RX11_125 rfl hL.t30 (Or.inl rfl) (Or.inl rfl) ?_
      have hA24 : RQ (mI (setI (wI m I) 30 7 ((R.2.2.2 : Int) + 1))) tx n (cAdv R.2.2) := RQ.adv hP (congrArg (fun z => z + 1) hP.2.1.symm) (RQ.lt hP (by omega))
      have ehA24 : (cAdv R.2.2).2 = R.2.2.2 + 1 := rfl
      have bhA24 := hA24.2.2.2.1
      refine V_ld (pc := 24) dX11_both_24 (v := vr 30) rfl rfl ?_
      refine V_callV (pc := 25) dX11_both_25 (F' := (5 + 3 * k)) (As := []) (st := []) cw_RX11_249 rfl rfl hL.t30 (by decide) (Nat.le_of_ble_eq_true rfl) (by omega) (hsub (cAdv R.2.2) (setI (wI m I) 30 7 ((R.2.2.2 : Int) + 1))    (by first | assumption | omega) hA24 (EOK.fr hE (QFr.set QFr.rf (by omega)) hE.2.2.2.1) (by rw [show mI (setI (wI m I) 30 7 ((R.2.2.2 : Int) + 1)) 30 26 = I 30 26 from rfl]; omega)) ?_
      rintro _ _ ⟨x25, rfl, Ix25, rfl, hx25, ⟨hP25, hF25, hl25, hi25, hb25, hv25⟩⟩ ok25 le25
      have hB25 := hP25.2.2.2.1
      refine V_st (pc := 28) dX11_both_28 (ls' := [(2, vi x25), (1, vi v), (0, vr 30)]) rfl (Nat.le_of_ble_eq_true rfl) rfl ?_
      refine V_ld (pc := 29) dX11_both_29 (v := vi v) rfl rfl ?_
      refine V_if_eq (pc := 30) dX11_both_30 (tgt := 41) rfl (fun h30 => ?_) (fun h30 => ?_)
      · skip
        refine V_iconst (pc := 41) dX11_both_41 (by unfold I32; omega) ?_
        refine V_st (pc := 42) dX11_both_42 (ls' := [(1, vi 0), (2, vi x25), (0, vr 30)]) rfl (Nat.le_of_ble_eq_true rfl) rfl ?_
        refine V_goto (pc := 43) dX11_both_43 (tgt := 5) rfl ?_
        refine V_ls (ls' := [(1, vi 0), (0, vr 30)]) (by intro q_ h_; simp only [List.mem_cons, List.not_mem_nil, or_false] at h_ ⊢; rcases h_ with rfl | rfl <;> simp) ?_
        have hni_ := (fac_ni tx n k (cAdv R.2.2)).1
        have hq25 : QOut (mI (setI (wI m I) 30 7 ((R.2.2.2 : Int) + 1))) Ix25 tx n (facC tx n k (cAdv R.2.2)) x25 := ⟨hP25, hF25, hl25, hi25, hb25, hv25⟩
        refine ih (joinC 38 R (facC tx n k (cAdv R.2.2))) (0) Ix25 (QOut.join (go := facC tx n k) hq (by omega) (by decide) (QFr.set QFr.rf (by omega)) rfl hq25 hni_ ?_) (fun hw_ => ?_) ?_
        · rw [if_pos rfl]
          first | (rw [if_pos (by omega)]) | (rw [if_neg (by omega)])
        · have h1_ := hni_.2.1 hw_
          have h2_ := hf h1_.1
          have h3_ : (cAdv R.2.2).2 = R.2.2.2 + 1 := rfl
          show n + 1 ≤ f + (facC tx n k (cAdv R.2.2)).2.2.2
          omega
        · intro v' J hJ
          refine kx v' J ?_
          have e_ : lpC tx n 38 (facC tx n k) (f + 1) R = lpC tx n 38 (facC tx n k) f (joinC 38 R (facC tx n k (cAdv R.2.2))) := if_pos (by omega)
          rw [e_]
          exact hJ
      · skip
        refine V_ld (pc := 33) dX11_both_33 (v := vi x25) rfl rfl ?_
        refine V_if_eq (pc := 34) dX11_both_34 (tgt := 41) rfl (fun h34 => ?_) (fun h34 => ?_)
        · skip
          refine V_iconst (pc := 41) dX11_both_41 (by unfold I32; omega) ?_
          refine V_st (pc := 42) dX11_both_42 (ls' := [(1, vi 0), (2, vi x25), (0, vr 30)]) rfl (Nat.le_of_ble_eq_true rfl) rfl ?_
          refine V_goto (pc := 43) dX11_both_43 (tgt := 5) rfl ?_
          refine V_ls (ls' := [(1, vi 0), (0, vr 30)]) (by intro q_ h_; simp only [List.mem_cons, List.not_mem_nil, or_false] at h_ ⊢; rcases h_ with rfl | rfl <;> simp) ?_
          have hni_ := (fac_ni tx n k (cAdv R.2.2)).1
          have hq25 : QOut (mI (setI (wI m I) 30 7 ((R.2.2.2 : Int) + 1))) Ix25 tx n (facC tx n k (cAdv R.2.2)) x25 := ⟨hP25, hF25, hl25, hi25, hb25, hv25⟩
          refine ih (joinC 38 R (facC tx n k (cAdv R.2.2))) (0) Ix25 (QOut.join (go := facC tx n k) hq (by omega) (by decide) (QFr.set QFr.rf (by omega)) rfl hq25 hni_ ?_) (fun hw_ => ?_) ?_
          · rw [if_pos rfl]
            first | (rw [if_pos (by omega)]) | (rw [if_neg (by omega)])
          · have h1_ := hni_.2.1 hw_
            have h2_ := hf h1_.1
            have h3_ : (cAdv R.2.2).2 = R.2.2.2 + 1 := rfl
            show n + 1 ≤ f + (facC tx n k (cAdv R.2.2)).2.2.2
            omega
          · intro v' J hJ
            refine kx v' J ?_
            have e_ : lpC tx n 38 (facC tx n k) (f + 1) R = lpC tx n 38 (facC tx n k) f (joinC 38 R (facC tx n k (cAdv R.2.2))) := if_pos (by omega)
            rw [e_]
            exact hJ
        · skip
          refine V_iconst (pc := 37) dX11_both_37 (by unfold I32; omega) ?_
          refine V_goto (pc := 38) dX11_both_38 (tgt := 42) rfl ?_
          refine V_st (pc := 42) dX11_both_42 (ls' := [(1, vi 1), (2, vi x25), (0, vr 30)]) rfl (Nat.le_of_ble_eq_true rfl) rfl ?_
          refine V_goto (pc := 43) dX11_both_43 (tgt := 5) rfl ?_
          refine V_ls (ls' := [(1, vi 1), (0, vr 30)]) (by intro q_ h_; simp only [List.mem_cons, List.not_mem_nil, or_false] at h_ ⊢; rcases h_ with rfl | rfl <;> simp) ?_
          have hni_ := (fac_ni tx n k (cAdv R.2.2)).1
          have hq25 : QOut (mI (setI (wI m I) 30 7 ((R.2.2.2 : Int) + 1))) Ix25 tx n (facC tx n k (cAdv R.2.2)) x25 := ⟨hP25, hF25, hl25, hi25, hb25, hv25⟩
          refine ih (joinC 38 R (facC tx n k (cAdv R.2.2))) (1) Ix25 (QOut.join (go := facC tx n k) hq (by omega) (by decide) (QFr.set QFr.rf (by omega)) rfl hq25 hni_ ?_) (fun hw_ => ?_) ?_
          · rw [if_pos rfl]
            first | (rw [if_pos (by omega)]) | (rw [if_neg (by omega)])
          · have h1_ := hni_.2.1 hw_
            have h2_ := hf h1_.1
            have h3_ : (cAdv R.2.2).2 = R.2.2.2 + 1 := rfl
            show n + 1 ≤ f + (facC tx n k (cAdv R.2.2)).2.2.2
            omega
          · intro v' J hJ
            refine kx v' J ?_
            have e_ : lpC tx n 38 (facC tx n k) (f + 1) R = lpC tx n 38 (facC tx n k) f (joinC 38 R (facC tx n k (cAdv R.2.2))) := if_pos (by omega)
            rw [e_]
            exact hJ

set_option maxHeartbeats 8000000 in
theorem q_both (tx : Nat → Int) (n : Nat) (k : Nat) (S : CS) (m : Mem)    (hL : Lay (mT m) (mR m)) (hP : RQ (mI m) tx n S) (hE : EOK (mI m)) (hin : mI m 30 26 + (k : Int) = 4) (hsub : QFac tx n k) : Ct μX11_both (6 + 3 * k) [vr 30] m (ri fun x_ m' => ∃ I_ : Nat → Nat → Int, wI m I_ = m' ∧ (True) ∧ QOut (mI m) I_ tx n (bthL tx n k S) x_) := by
  refine Ct_of_V rfl (by decide) rfl (Nat.le_of_ble_eq_true rfl) ?_
  show V μX11_both (6 + 3 * k) m _ 0 [(0, vr 30)] [] m
  refine V_ld (pc := 0) dX11_both_0 (v := vr 30) rfl rfl ?_
  refine V_callV (pc := 1) dX11_both_1 (F' := (5 + 3 * k)) (As := []) (st := []) cw_RX11_249 rfl rfl hL.t30 (by decide) (Nat.le_of_ble_eq_true rfl) (by omega) (hsub S m    (by first | assumption | omega) hP hE hin) ?_
  rintro _ _ ⟨x1, rfl, Ix1, rfl, hx1, ⟨hP1, hF1, hl1, hi1, hb1, hv1⟩⟩ ok1 le1
  have hB1 := hP1.2.2.2.1
  refine V_st (pc := 4) dX11_both_4 (ls' := [(1, vi x1), (0, vr 30)]) rfl (Nat.le_of_ble_eq_true rfl) rfl ?_
  skip
  refine V_mem (m' := wI m Ix1) rfl ?_
  refine L_qboth (m := m) (k := k) (I0 := mI m) hL hE hin (by omega) hsub (n + 1) (facC tx n k S) x1 Ix1 ⟨hP1, hF1, hl1, hi1, hb1, hv1⟩ (fun _ => by omega) ?_
  intro v' J hJ
  have hJb := hJ.2.2.2.2.1
  refine V_ld (pc := 46) dX11_both_46 (v := vi v') rfl rfl ?_
  refine V_reti (pc := 47) dX11_both_47 hJb ?_
  exact ⟨J, rfl, trivial, hJ⟩

set_option maxHeartbeats 8000000 in
theorem L_qeither {F : Nat} {m0 m : Mem} {post : Option AV → Mem → Prop} {tx : Nat → Int} {n k : Nat} {I0 : Nat → Nat → Int} (hL : Lay (mT m) (mR m)) (hE0 : EOK I0) (hin : I0 30 26 + (k : Int) = 4) (hFF : 6 + 3 * k < F) (hsub : QBth tx n k) : ∀ (f : Nat) (R : CR) (v : Int) (I : Nat → Nat → Int), QOut I0 I tx n R v → (R.2.2.1 = true → n + 1 ≤ f + R.2.2.2) → (∀ (v' : Int) (J : Nat → Nat → Int), QOut I0 J tx n (lpC tx n 124 (bthL tx n k) f R) v' → V μX11_either F m0 post 46 [(1, vi v'), (0, vr 30)] [] (wI m J)) → V μX11_either F m0 post 5 [(1, vi v), (0, vr 30)] [] (wI m I) := by
  intro f
  induction f with
  | zero =>
    intro R v I hq hf kx
    have hP := hq.1
    have hB0 := hP.2.2.2.1
    have hn120 := hP.2.2.2.2.1
    obtain ⟨q1, q2, q3, q4, q5, q6⟩ := hq
    have hq : QOut I0 I tx n R v := ⟨q1, q2, q3, q4, q5, q6⟩
    have hE : EOK I := EOK.fr hE0 q2 q3
    refine V_ld (pc := 5) dX11_either_5 (v := vr 30) rfl rfl ?_
    refine V_bipush (pc := 6) dX11_either_6 (by unfold I32; omega) (by decide) ?_
    refine V_callV (pc := 8) dX11_either_8 (F' := 0) (As := [vi 124]) (st := []) cw_RX11_132 rfl rfl hL.t30 (by decide) (Nat.le_of_ble_eq_true rfl) (by omega) (q_isAt tx n R.2.2 (wI m I) 124   (by first | assumption | omega) hP (by decide)) ?_
    rintro _ _ ⟨x8, rfl, hx8, rfl⟩ ok8 le8
    refine V_if_eq (pc := 11) dX11_either_11 (tgt := 46) rfl (fun h11 => ?_) (fun h11 => ?_)
    · skip
      skip
      exact kx v I hq
    · skip
      exfalso
      have h_ := cc_lt (tx := tx) (n := n) (S := R.2.2) (by omega)
      have h2_ := hf h_.1
      omega
  | succ f ih =>
    intro R v I hq hf kx
    have hP := hq.1
    have hB0 := hP.2.2.2.1
    have hn120 := hP.2.2.2.2.1
    obtain ⟨q1, q2, q3, q4, q5, q6⟩ := hq
    have hq : QOut I0 I tx n R v := ⟨q1, q2, q3, q4, q5, q6⟩
    have hE : EOK I := EOK.fr hE0 q2 q3
    refine V_ld (pc := 5) dX11_either_5 (v := vr 30) rfl rfl ?_
    refine V_bipush (pc := 6) dX11_either_6 (by unfold I32; omega) (by decide) ?_
    refine V_callV (pc := 8) dX11_either_8 (F' := 0) (As := [vi 124]) (st := []) cw_RX11_132 rfl rfl hL.t30 (by decide) (Nat.le_of_ble_eq_true rfl) (by omega) (q_isAt tx n R.2.2 (wI m I) 124   (by first | assumption | omega) hP (by decide)) ?_
    rintro _ _ ⟨x8, rfl, hx8, rfl⟩ ok8 le8
    refine V_if_eq (pc := 11) dX11_either_11 (tgt := 46) rfl (fun h11 => ?_) (fun h11 => ?_)
    · skip
      skip
      have e_ : lpC tx n 124 (bthL tx n k) (f + 1) R = R := lpC_stop (by omega)
      refine kx v I ?_
      rw [e_]
      exact hq
    · skip
      refine V_ld (pc := 14) dX11_either_14 (v := vr 30) rfl rfl ?_
      refine V_dup (pc := 15) dX11_either_15 rfl ?_
      refine V_getIv (pc := 16) dX11_either_16 (v := (R.2.2.2 : Int)) fw_RX11_125 rfl hL.t30 hP.2.1 (fun g16 => ?_)
      refine V_iconst (pc := 19) dX11_either_19 (by unfold I32; omega) ?_
      refine V_iadd (pc := 20) dX11_either_20 (by unfold I32 at *; omega) ?_
      refine V_putI (pc := 21) dX11_either_21 fw_RX11_125 rfl hL.t30 (Or.inl rfl) (Or.inl rfl) ?_
      have hA24 : RQ (mI (setI (wI m I) 30 7 ((R.2.2.2 : Int) + 1))) tx n (cAdv R.2.2) := RQ.adv hP (congrArg (fun z => z + 1) hP.2.1.symm) (RQ.lt hP (by omega))
      have ehA24 : (cAdv R.2.2).2 = R.2.2.2 + 1 := rfl
      have bhA24 := hA24.2.2.2.1
      refine V_ld (pc := 24) dX11_either_24 (v := vr 30) rfl rfl ?_
      refine V_callV (pc := 25) dX11_either_25 (F' := (6 + 3 * k)) (As := []) (st := []) cw_RX11_258 rfl rfl hL.t30 (by decide) (Nat.le_of_ble_eq_true rfl) (by omega) (hsub (cAdv R.2.2) (setI (wI m I) 30 7 ((R.2.2.2 : Int) + 1))    (by first | assumption | omega) hA24 (EOK.fr hE (QFr.set QFr.rf (by omega)) hE.2.2.2.1) (by rw [show mI (setI (wI m I) 30 7 ((R.2.2.2 : Int) + 1)) 30 26 = I 30 26 from rfl]; omega)) ?_
      rintro _ _ ⟨x25, rfl, Ix25, rfl, hx25, ⟨hP25, hF25, hl25, hi25, hb25, hv25⟩⟩ ok25 le25
      have hB25 := hP25.2.2.2.1
      refine V_st (pc := 28) dX11_either_28 (ls' := [(2, vi x25), (1, vi v), (0, vr 30)]) rfl (Nat.le_of_ble_eq_true rfl) rfl ?_
      refine V_ld (pc := 29) dX11_either_29 (v := vi v) rfl rfl ?_
      refine V_if_ne (pc := 30) dX11_either_30 (tgt := 37) rfl (fun h30 => ?_) (fun h30 => ?_)
      · skip
        refine V_iconst (pc := 37) dX11_either_37 (by unfold I32; omega) ?_
        refine V_goto (pc := 38) dX11_either_38 (tgt := 42) rfl ?_
        refine V_st (pc := 42) dX11_either_42 (ls' := [(1, vi 1), (2, vi x25), (0, vr 30)]) rfl (Nat.le_of_ble_eq_true rfl) rfl ?_
        refine V_goto (pc := 43) dX11_either_43 (tgt := 5) rfl ?_
        refine V_ls (ls' := [(1, vi 1), (0, vr 30)]) (by intro q_ h_; simp only [List.mem_cons, List.not_mem_nil, or_false] at h_ ⊢; rcases h_ with rfl | rfl <;> simp) ?_
        have hni_ := (bthL_ni tx n k (cAdv R.2.2)).1
        have hq25 : QOut (mI (setI (wI m I) 30 7 ((R.2.2.2 : Int) + 1))) Ix25 tx n (bthL tx n k (cAdv R.2.2)) x25 := ⟨hP25, hF25, hl25, hi25, hb25, hv25⟩
        refine ih (joinC 124 R (bthL tx n k (cAdv R.2.2))) (1) Ix25 (QOut.join (go := bthL tx n k) hq (by omega) (by decide) (QFr.set QFr.rf (by omega)) rfl hq25 hni_ ?_) (fun hw_ => ?_) ?_
        · rw [if_neg (by decide)]
          first | (rw [if_pos (by omega)]) | (rw [if_neg (by omega)])
        · have h1_ := hni_.2.1 hw_
          have h2_ := hf h1_.1
          have h3_ : (cAdv R.2.2).2 = R.2.2.2 + 1 := rfl
          show n + 1 ≤ f + (bthL tx n k (cAdv R.2.2)).2.2.2
          omega
        · intro v' J hJ
          refine kx v' J ?_
          have e_ : lpC tx n 124 (bthL tx n k) (f + 1) R = lpC tx n 124 (bthL tx n k) f (joinC 124 R (bthL tx n k (cAdv R.2.2))) := if_pos (by omega)
          rw [e_]
          exact hJ
      · skip
        refine V_ld (pc := 33) dX11_either_33 (v := vi x25) rfl rfl ?_
        refine V_if_eq (pc := 34) dX11_either_34 (tgt := 41) rfl (fun h34 => ?_) (fun h34 => ?_)
        · skip
          refine V_iconst (pc := 41) dX11_either_41 (by unfold I32; omega) ?_
          refine V_st (pc := 42) dX11_either_42 (ls' := [(1, vi 0), (2, vi x25), (0, vr 30)]) rfl (Nat.le_of_ble_eq_true rfl) rfl ?_
          refine V_goto (pc := 43) dX11_either_43 (tgt := 5) rfl ?_
          refine V_ls (ls' := [(1, vi 0), (0, vr 30)]) (by intro q_ h_; simp only [List.mem_cons, List.not_mem_nil, or_false] at h_ ⊢; rcases h_ with rfl | rfl <;> simp) ?_
          have hni_ := (bthL_ni tx n k (cAdv R.2.2)).1
          have hq25 : QOut (mI (setI (wI m I) 30 7 ((R.2.2.2 : Int) + 1))) Ix25 tx n (bthL tx n k (cAdv R.2.2)) x25 := ⟨hP25, hF25, hl25, hi25, hb25, hv25⟩
          refine ih (joinC 124 R (bthL tx n k (cAdv R.2.2))) (0) Ix25 (QOut.join (go := bthL tx n k) hq (by omega) (by decide) (QFr.set QFr.rf (by omega)) rfl hq25 hni_ ?_) (fun hw_ => ?_) ?_
          · rw [if_neg (by decide)]
            first | (rw [if_pos (by omega)]) | (rw [if_neg (by omega)])
          · have h1_ := hni_.2.1 hw_
            have h2_ := hf h1_.1
            have h3_ : (cAdv R.2.2).2 = R.2.2.2 + 1 := rfl
            show n + 1 ≤ f + (bthL tx n k (cAdv R.2.2)).2.2.2
            omega
          · intro v' J hJ
            refine kx v' J ?_
            have e_ : lpC tx n 124 (bthL tx n k) (f + 1) R = lpC tx n 124 (bthL tx n k) f (joinC 124 R (bthL tx n k (cAdv R.2.2))) := if_pos (by omega)
            rw [e_]
            exact hJ
        · skip
          refine V_iconst (pc := 37) dX11_either_37 (by unfold I32; omega) ?_
          refine V_goto (pc := 38) dX11_either_38 (tgt := 42) rfl ?_
          refine V_st (pc := 42) dX11_either_42 (ls' := [(1, vi 1), (2, vi x25), (0, vr 30)]) rfl (Nat.le_of_ble_eq_true rfl) rfl ?_
          refine V_goto (pc := 43) dX11_either_43 (tgt := 5) rfl ?_
          refine V_ls (ls' := [(1, vi 1), (0, vr 30)]) (by intro q_ h_; simp only [List.mem_cons, List.not_mem_nil, or_false] at h_ ⊢; rcases h_ with rfl | rfl <;> simp) ?_
          have hni_ := (bthL_ni tx n k (cAdv R.2.2)).1
          have hq25 : QOut (mI (setI (wI m I) 30 7 ((R.2.2.2 : Int) + 1))) Ix25 tx n (bthL tx n k (cAdv R.2.2)) x25 := ⟨hP25, hF25, hl25, hi25, hb25, hv25⟩
          refine ih (joinC 124 R (bthL tx n k (cAdv R.2.2))) (1) Ix25 (QOut.join (go := bthL tx n k) hq (by omega) (by decide) (QFr.set QFr.rf (by omega)) rfl hq25 hni_ ?_) (fun hw_ => ?_) ?_
          · rw [if_neg (by decide)]
            first | (rw [if_pos (by omega)]) | (rw [if_neg (by omega)])
          · have h1_ := hni_.2.1 hw_
            have h2_ := hf h1_.1
            have h3_ : (cAdv R.2.2).2 = R.2.2.2 + 1 := rfl
            show n + 1 ≤ f + (bthL tx n k (cAdv R.2.2)).2.2.2
            omega
          · intro v' J hJ
            refine kx v' J ?_
            have e_ : lpC tx n 124 (bthL tx n k) (f + 1) R = lpC tx n 124 (bthL tx n k) f (joinC 124 R (bthL tx n k (cAdv R.2.2))) := if_pos (by omega)
            rw [e_]
            exact hJ

set_option maxHeartbeats 8000000 in
theorem q_either (tx : Nat → Int) (n : Nat) (k : Nat) (S : CS) (m : Mem)    (hL : Lay (mT m) (mR m)) (hP : RQ (mI m) tx n S) (hE : EOK (mI m)) (hin : mI m 30 26 + (k : Int) = 4) (hsub : QBth tx n k) : Ct μX11_either (7 + 3 * k) [vr 30] m (ri fun x_ m' => ∃ I_ : Nat → Nat → Int, wI m I_ = m' ∧ (True) ∧ QOut (mI m) I_ tx n (eitL tx n k S) x_) := by
  refine Ct_of_V rfl (by decide) rfl (Nat.le_of_ble_eq_true rfl) ?_
  show V μX11_either (7 + 3 * k) m _ 0 [(0, vr 30)] [] m
  refine V_ld (pc := 0) dX11_either_0 (v := vr 30) rfl rfl ?_
  refine V_callV (pc := 1) dX11_either_1 (F' := (6 + 3 * k)) (As := []) (st := []) cw_RX11_258 rfl rfl hL.t30 (by decide) (Nat.le_of_ble_eq_true rfl) (by omega) (hsub S m    (by first | assumption | omega) hP hE hin) ?_
  rintro _ _ ⟨x1, rfl, Ix1, rfl, hx1, ⟨hP1, hF1, hl1, hi1, hb1, hv1⟩⟩ ok1 le1
  have hB1 := hP1.2.2.2.1
  refine V_st (pc := 4) dX11_either_4 (ls' := [(1, vi x1), (0, vr 30)]) rfl (Nat.le_of_ble_eq_true rfl) rfl ?_
  skip
  refine V_mem (m' := wI m Ix1) rfl ?_
  refine L_qeither (m := m) (k := k) (I0 := mI m) hL hE hin (by omega) hsub (n + 1) (bthL tx n k S) x1 Ix1 ⟨hP1, hF1, hl1, hi1, hb1, hv1⟩ (fun _ => by omega) ?_
  intro v' J hJ
  have hJb := hJ.2.2.2.2.1
  refine V_ld (pc := 46) dX11_either_46 (v := vi v') rfl rfl ?_
  refine V_reti (pc := 47) dX11_either_47 hJb ?_
  exact ⟨J, rfl, trivial, hJ⟩

theorem QFac.b {tx : Nat → Int} {n k : Nat} (h : QFac tx n k) : QBth tx n k := fun S m hL hP hE hin => q_both tx n k S m hL hP hE hin h
theorem QBth.e {tx : Nat → Int} {n k : Nat} (h : QBth tx n k) : QEit tx n k := fun S m hL hP hE hin => q_either tx n k S m hL hP hE hin h
theorem QFac_all (tx : Nat → Int) (n : Nat) : ∀ k, QFac tx n k
  | 0 => fun S m hL hP hE hin => q_factor tx n 0 S m hL hP hE hin (fun k_ h => by omega)
  | k + 1 => fun S m hL hP hE hin => q_factor tx n (k + 1) S m hL hP hE hin (fun k_ h => by
      obtain rfl : k = k_ := by omega
      exact ⟨QFac_all tx n k, (QFac_all tx n k).b.e⟩)
theorem QEit_all (tx : Nat → Int) (n k : Nat) : QEit tx n k := (QFac_all tx n k).b.e
