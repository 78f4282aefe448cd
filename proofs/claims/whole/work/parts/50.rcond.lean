/-! the reference reads conditions: tests, the levels -/
theorem tst_val {sg x y l1 l2 r : Int} {va vb : Option Int} (hx : x = va.getD 0) (hy : y = vb.getD 0) (h1 : l1 = (if va.isSome = true then 0 else 1)) (h2 : l2 = (if vb.isSome = true then l1 else 1)) (hr : (r = 1 ∧ l2 = 0 ∧ (if sg = 60 then x < y else if sg = 61 then x = y else y < x)) ∨ (r = 0 ∧ ¬ (l2 = 0 ∧ (if sg = 60 then x < y else if sg = 61 then x = y else y < x)))) : r = bI (cmpB sg va vb) := by
  have key : ∀ p : Prop, ∀ _ : Decidable p, (r = 1 ∧ l2 = 0 ∧ p) ∨ (r = 0 ∧ ¬ (l2 = 0 ∧ p)) → l2 = 0 → r = bI (decide p) := by
    intro p d h h0
    by_cases c : p
    · rcases h with h | h
      · rw [h.1]; simp [bI, c]
      · exact absurd ⟨h0, c⟩ h.2
    · rcases h with h | h
      · exact absurd h.2.2 c
      · rw [h.1]; simp [bI, c]
  have kn : l2 = 1 → r = 0 := by
    intro h0
    rcases hr with h | h
    · have := h.2.1; omega
    · exact h.1
  cases va with
  | none =>
    have e : l2 = 1 := by
      rw [h2, h1]
      cases vb <;> rfl
    rw [kn e]; rfl
  | some a =>
    cases vb with
    | none =>
      have e : l2 = 1 := h2
      rw [kn e]; rfl
    | some b =>
      have e : l2 = 0 := by rw [h2, h1]; rfl
      have hx' : x = a := hx
      have hy' : y = b := hy
      subst hx' hy'
      show r = bI (if sg = 60 then decide (x < y) else if sg = 61 then decide (x = y) else decide (y < x))
      by_cases c : sg = 60
      · rw [if_pos c] at hr ⊢; exact key _ _ hr e
      · rw [if_neg c] at hr ⊢
        by_cases c2 : sg = 61
        · rw [if_pos c2] at hr ⊢; exact key _ _ hr e
        · rw [if_neg c2] at hr ⊢; exact key _ _ hr e
/-- what reading a condition's part gives -/
def QOut (I0 I : Nat → Nat → Int) (tx : Nat → Int) (n : Nat) (R : CR) (x : Int) : Prop := RQ I tx n R.2.2 ∧ QFr I0 I ∧ (I 30 27 = 0 ∨ I 30 27 = 1) ∧ I 30 26 = I0 30 26 ∧ (x = 0 ∨ x = 1) ∧ (0 ≤ I0 30 25 → R.2.2.1 = true → x = bI (R.2.1 (envR I0)))

set_option maxHeartbeats 8000000 in
theorem q_test (tx : Nat → Int) (n : Nat) (S : CS) (m : Mem)    (hL : Lay (mT m) (mR m)) (hP : RQ (mI m) tx n S) (hE : EOK (mI m)) : Ct μX11_test 4 [vr 30] m (ri fun x_ m' => ∃ I_ : Nat → Nat → Int, wI m I_ = m' ∧ (True) ∧ QOut (mI m) I_ tx n (tstS tx n S) x_) := by
  refine Ct_of_V rfl (by decide) rfl (Nat.le_of_ble_eq_true rfl) ?_
  show V μX11_test 4 m _ 0 [(0, vr 30)] [] m
  refine V_ld (pc := 0) dX11_test_0 (v := vr 30) rfl rfl ?_
  refine V_iconst (pc := 1) dX11_test_1 (by unfold I32; omega) ?_
  refine V_putI (pc := 2) dX11_test_2 fw_RX11_219 rfl hL.t30 (Or.inl rfl) (Or.inr ⟨rfl, by first | exact Or.inl rfl | exact Or.inr rfl | omega⟩) ?_
  have hP5 : RQ (mI (setI m 30 27 0)) tx n S := RQ.fr hP (fun o k h_ => up2_nx (by omega))
  have hF5 : QFr (mI m) (mI (setI m 30 27 0)) := QFr.set QFr.rf (by omega)
  have hE5 : EOK (mI (setI m 30 27 0)) := EOK.fr hE hF5 (Or.inl mI_sets)
  have h27 : mI (setI m 30 27 0) 30 27 = 0 := mI_sets
  refine V_ld (pc := 5) dX11_test_5 (v := vr 30) rfl rfl ?_
  refine V_callV (pc := 6) dX11_test_6 (F' := 3) (As := []) (st := []) cw_RX11_242 rfl rfl hL.t30 (by decide) (Nat.le_of_ble_eq_true rfl) (by omega) (q_operand tx n S (setI m 30 27 0)    (by first | assumption | omega) hP5 hE5) ?_
  rintro _ _ ⟨x6, rfl, Ix6, rfl, hx6, hP6, hF6, hl6, hi6⟩ ok6 le6
  have hB6 := hP6.2.2.2.1
  refine V_st (pc := 9) dX11_test_9 (ls' := [(1, vl x6), (0, vr 30)]) rfl (Nat.le_of_ble_eq_true rfl) rfl ?_
  refine V_ld (pc := 10) dX11_test_10 (v := vr 30) rfl rfl ?_
  refine V_bipush (pc := 11) dX11_test_11 (by unfold I32; omega) (by decide) ?_
  refine V_callV (pc := 13) dX11_test_13 (F' := 0) (As := [vi 60]) (st := []) cw_RX11_132 rfl rfl hL.t30 (by decide) (Nat.le_of_ble_eq_true rfl) (by omega) (q_isAt tx n ((opS tx n S).2.2) (wI (setI m 30 27 0) Ix6) 60   (by first | assumption | omega) hP6 (by decide)) ?_
  rintro _ _ ⟨x13, rfl, hx13, rfl⟩ ok13 le13
  refine V_if_eq (pc := 16) dX11_test_16 (tgt := 23) rfl (fun h16 => ?_) (fun h16 => ?_)
  · skip
    refine V_ld (pc := 23) dX11_test_23 (v := vr 30) rfl rfl ?_
    refine V_bipush (pc := 24) dX11_test_24 (by unfold I32; omega) (by decide) ?_
    refine V_callV (pc := 26) dX11_test_26 (F' := 0) (As := [vi 62]) (st := []) cw_RX11_132 rfl rfl hL.t30 (by decide) (Nat.le_of_ble_eq_true rfl) (by omega) (q_isAt tx n ((opS tx n S).2.2) (wI (setI m 30 27 0) Ix6) 62   (by first | assumption | omega) hP6 (by decide)) ?_
    rintro _ _ ⟨x26, rfl, hx26, rfl⟩ ok26 le26
    refine V_if_eq (pc := 29) dX11_test_29 (tgt := 36) rfl (fun h29 => ?_) (fun h29 => ?_)
    · skip
      refine V_iconst (pc := 36) dX11_test_36 (by unfold I32; omega) ?_
      refine V_st (pc := 37) dX11_test_37 (ls' := [(3, vi 0), (1, vl x6), (0, vr 30)]) rfl (Nat.le_of_ble_eq_true rfl) rfl ?_
      refine V_ld (pc := 38) dX11_test_38 (v := vr 30) rfl rfl ?_
      refine V_ld (pc := 39) dX11_test_39 (v := vi 0) rfl rfl ?_
      refine V_if_ge (pc := 40) dX11_test_40 (tgt := 48) rfl (fun _ => ?_) (fun h_ => absurd h_ (by decide))
      refine V_ld (pc := 48) dX11_test_48 (v := vi 0) rfl rfl ?_
      refine V_if_le (pc := 49) dX11_test_49 (tgt := 57) rfl (fun _ => ?_) (fun h_ => absurd h_ (by decide))
      refine V_bipush (pc := 57) dX11_test_57 (by unfold I32; omega) (by decide) ?_
      have hsg : (sgn tx n (opS tx n S).2.2) = 61 := (if_neg (by omega)).trans (if_neg (by omega))
      refine V_callV (pc := 59) dX11_test_59 (F' := 1) (As := [vi 61]) (st := []) cw_RX11_146 rfl rfl hL.t30 (by decide) (Nat.le_of_ble_eq_true rfl) (by omega) (q_takes tx n ((opS tx n S).2.2) (wI (setI m 30 27 0) Ix6) 61   (by first | assumption | omega) hP6 (by decide)) ?_
      rintro _ _ ⟨rfl, Ix59, rfl, hP59, hF59⟩ ok59 le59
      have hB59 := hP59.2.2.2.1
      have hQ59 := hP59
      rw [← hsg] at hQ59
      have hE59 : EOK (mI (wI (wI (setI m 30 27 0) Ix6) Ix59)) := EOK.fr hE5 (QFr.tr hF6 (QFs.r hF59)) (by rw [show mI (wI (wI (setI m 30 27 0) Ix6) Ix59) 30 27 = Ix6 30 27 from hF59 30 27 (by omega)]; exact hl6)
      refine V_ld (pc := 62) dX11_test_62 (v := vr 30) rfl rfl ?_
      refine V_callV (pc := 63) dX11_test_63 (F' := 3) (As := []) (st := []) cw_RX11_242 rfl rfl hL.t30 (by decide) (Nat.le_of_ble_eq_true rfl) (by omega) (q_operand tx n (cTake tx n (opS tx n S).2.2 (sgn tx n (opS tx n S).2.2)) (wI (wI (setI m 30 27 0) Ix6) Ix59)    (by first | assumption | omega) hQ59 hE59) ?_
      rintro _ _ ⟨x63, rfl, Ix63, rfl, hx63, hP63, hF63, hl63, hi63⟩ ok63 le63
      have hB63 := hP63.2.2.2.1
      refine V_st (pc := 66) dX11_test_66 (ls' := [(4, vl x63), (3, vi 0), (1, vl x6), (0, vr 30)]) rfl (Nat.le_of_ble_eq_true rfl) rfl ?_
      refine V_ld (pc := 68) dX11_test_68 (v := vr 30) rfl rfl ?_
      refine V_getIv (pc := 69) dX11_test_69 (v := Ix63 30 27) fw_RX11_219 rfl hL.t30 rfl (fun g69 => ?_)
      refine V_if_ne (pc := 72) dX11_test_72 (tgt := 114) rfl (fun h72 => ?_) (fun h72 => ?_)
      · skip
        refine V_iconst (pc := 114) dX11_test_114 (by unfold I32; omega) ?_
        skip
        refine V_reti (pc := 115) dX11_test_115 (show _ = (0 : Int) ∨ _ = (1 : Int) from by first | exact Or.inl rfl | exact Or.inr rfl | omega) ?_
        refine ⟨mI (wI (wI (wI (setI m 30 27 0) Ix6) Ix59) Ix63), rfl, trivial, hP63, QFr.tr hF5 (QFr.tr hF6 (QFr.tr (QFs.r hF59) hF63)), hl63, hi63.trans ((hF59 30 26 (by omega)).trans hi6), by omega, fun h0_ hw_ => ?_⟩
        have hw2_ : (opS tx n (cTake tx n (opS tx n S).2.2 (sgn tx n (opS tx n S).2.2))).2.2.1 = true := hw_
        have hw1_ : (opS tx n S).2.2.1 = true := ((CNi.take (tx := tx) (n := n) (S := (opS tx n S).2.2) (c := (sgn tx n (opS tx n S).2.2)) (by rw [hsg]; decide)).2.1 (((opS_ni tx n (cTake tx n (opS tx n S).2.2 (sgn tx n (opS tx n S).2.2))).2.1 hw2_).1)).1
        have a_ := hx6 h0_ hw1_
        have b_ := hx63 (by rw [show mI (wI (wI (setI m 30 27 0) Ix6) Ix59) 30 25 = mI m 30 25 from (QFr.tr hF5 (QFr.tr hF6 (QFs.r hF59))) 30 25 (by omega)]; exact h0_) hw2_
        have eA_ : envR (mI (setI m 30 27 0)) = envR (mI m) := envR_fr hF5
        have eB_ : envR (mI (wI (wI (setI m 30 27 0) Ix6) Ix59)) = envR (mI m) := envR_fr (QFr.tr hF5 (QFr.tr hF6 (QFs.r hF59)))
        rw [eA_] at a_
        rw [eB_] at b_
        have l1_ : Ix6 30 27 = (if ((opS tx n S).2.1 (envR (mI m))).isSome = true then 0 else 1) := by rw [a_.2, h27]
        have l2_ : Ix63 30 27 = (if ((opS tx n (cTake tx n (opS tx n S).2.2 (sgn tx n (opS tx n S).2.2))).2.1 (envR (mI m))).isSome = true then Ix6 30 27 else 1) := by rw [b_.2, show mI (wI (wI (setI m 30 27 0) Ix6) Ix59) 30 27 = Ix6 30 27 from hF59 30 27 (by omega)]
        show (0 : Int) = bI (cmpB (sgn tx n (opS tx n S).2.2) ((opS tx n S).2.1 (envR (mI m))) ((opS tx n (cTake tx n (opS tx n S).2.2 (sgn tx n (opS tx n S).2.2))).2.1 (envR (mI m))))
        refine tst_val (l1 := Ix6 30 27) (l2 := Ix63 30 27) (x := x6) (y := x63) a_.1 b_.1 l1_ l2_ ?_
        rw [hsg]
        have ec_ : (if (61 : Int) = 60 then x6 < x63 else if (61 : Int) = 61 then x6 = x63 else x63 < x6) = (x6 = x63) := (if_neg (by decide)).trans (if_pos rfl)
        rw [ec_]
        unfold cmpI at *
        omega
      · skip
        refine V_ld (pc := 75) dX11_test_75 (v := vi 0) rfl rfl ?_
        refine V_if_ge (pc := 76) dX11_test_76 (tgt := 89) rfl (fun _ => ?_) (fun h_ => absurd h_ (by decide))
        refine V_ld (pc := 89) dX11_test_89 (v := vi 0) rfl rfl ?_
        refine V_if_le (pc := 90) dX11_test_90 (tgt := 103) rfl (fun _ => ?_) (fun h_ => absurd h_ (by decide))
        refine V_ld (pc := 103) dX11_test_103 (v := vl x6) rfl rfl ?_
        refine V_ld (pc := 104) dX11_test_104 (v := vl x63) rfl rfl ?_
        refine V_lcmp (pc := 106) dX11_test_106 ?_
        refine V_if_ne (pc := 107) dX11_test_107 (tgt := 114) rfl (fun h107 => ?_) (fun h107 => ?_)
        · skip
          refine V_iconst (pc := 114) dX11_test_114 (by unfold I32; omega) ?_
          skip
          refine V_reti (pc := 115) dX11_test_115 (show _ = (0 : Int) ∨ _ = (1 : Int) from by first | exact Or.inl rfl | exact Or.inr rfl | omega) ?_
          refine ⟨mI (wI (wI (wI (setI m 30 27 0) Ix6) Ix59) Ix63), rfl, trivial, hP63, QFr.tr hF5 (QFr.tr hF6 (QFr.tr (QFs.r hF59) hF63)), hl63, hi63.trans ((hF59 30 26 (by omega)).trans hi6), by omega, fun h0_ hw_ => ?_⟩
          have hw2_ : (opS tx n (cTake tx n (opS tx n S).2.2 (sgn tx n (opS tx n S).2.2))).2.2.1 = true := hw_
          have hw1_ : (opS tx n S).2.2.1 = true := ((CNi.take (tx := tx) (n := n) (S := (opS tx n S).2.2) (c := (sgn tx n (opS tx n S).2.2)) (by rw [hsg]; decide)).2.1 (((opS_ni tx n (cTake tx n (opS tx n S).2.2 (sgn tx n (opS tx n S).2.2))).2.1 hw2_).1)).1
          have a_ := hx6 h0_ hw1_
          have b_ := hx63 (by rw [show mI (wI (wI (setI m 30 27 0) Ix6) Ix59) 30 25 = mI m 30 25 from (QFr.tr hF5 (QFr.tr hF6 (QFs.r hF59))) 30 25 (by omega)]; exact h0_) hw2_
          have eA_ : envR (mI (setI m 30 27 0)) = envR (mI m) := envR_fr hF5
          have eB_ : envR (mI (wI (wI (setI m 30 27 0) Ix6) Ix59)) = envR (mI m) := envR_fr (QFr.tr hF5 (QFr.tr hF6 (QFs.r hF59)))
          rw [eA_] at a_
          rw [eB_] at b_
          have l1_ : Ix6 30 27 = (if ((opS tx n S).2.1 (envR (mI m))).isSome = true then 0 else 1) := by rw [a_.2, h27]
          have l2_ : Ix63 30 27 = (if ((opS tx n (cTake tx n (opS tx n S).2.2 (sgn tx n (opS tx n S).2.2))).2.1 (envR (mI m))).isSome = true then Ix6 30 27 else 1) := by rw [b_.2, show mI (wI (wI (setI m 30 27 0) Ix6) Ix59) 30 27 = Ix6 30 27 from hF59 30 27 (by omega)]
          show (0 : Int) = bI (cmpB (sgn tx n (opS tx n S).2.2) ((opS tx n S).2.1 (envR (mI m))) ((opS tx n (cTake tx n (opS tx n S).2.2 (sgn tx n (opS tx n S).2.2))).2.1 (envR (mI m))))
          refine tst_val (l1 := Ix6 30 27) (l2 := Ix63 30 27) (x := x6) (y := x63) a_.1 b_.1 l1_ l2_ ?_
          rw [hsg]
          have ec_ : (if (61 : Int) = 60 then x6 < x63 else if (61 : Int) = 61 then x6 = x63 else x63 < x6) = (x6 = x63) := (if_neg (by decide)).trans (if_pos rfl)
          rw [ec_]
          unfold cmpI at *
          omega
        · skip
          refine V_iconst (pc := 110) dX11_test_110 (by unfold I32; omega) ?_
          refine V_goto (pc := 111) dX11_test_111 (tgt := 115) rfl ?_
          skip
          refine V_reti (pc := 115) dX11_test_115 (show _ = (0 : Int) ∨ _ = (1 : Int) from by first | exact Or.inl rfl | exact Or.inr rfl | omega) ?_
          refine ⟨mI (wI (wI (wI (setI m 30 27 0) Ix6) Ix59) Ix63), rfl, trivial, hP63, QFr.tr hF5 (QFr.tr hF6 (QFr.tr (QFs.r hF59) hF63)), hl63, hi63.trans ((hF59 30 26 (by omega)).trans hi6), by omega, fun h0_ hw_ => ?_⟩
          have hw2_ : (opS tx n (cTake tx n (opS tx n S).2.2 (sgn tx n (opS tx n S).2.2))).2.2.1 = true := hw_
          have hw1_ : (opS tx n S).2.2.1 = true := ((CNi.take (tx := tx) (n := n) (S := (opS tx n S).2.2) (c := (sgn tx n (opS tx n S).2.2)) (by rw [hsg]; decide)).2.1 (((opS_ni tx n (cTake tx n (opS tx n S).2.2 (sgn tx n (opS tx n S).2.2))).2.1 hw2_).1)).1
          have a_ := hx6 h0_ hw1_
          have b_ := hx63 (by rw [show mI (wI (wI (setI m 30 27 0) Ix6) Ix59) 30 25 = mI m 30 25 from (QFr.tr hF5 (QFr.tr hF6 (QFs.r hF59))) 30 25 (by omega)]; exact h0_) hw2_
          have eA_ : envR (mI (setI m 30 27 0)) = envR (mI m) := envR_fr hF5
          have eB_ : envR (mI (wI (wI (setI m 30 27 0) Ix6) Ix59)) = envR (mI m) := envR_fr (QFr.tr hF5 (QFr.tr hF6 (QFs.r hF59)))
          rw [eA_] at a_
          rw [eB_] at b_
          have l1_ : Ix6 30 27 = (if ((opS tx n S).2.1 (envR (mI m))).isSome = true then 0 else 1) := by rw [a_.2, h27]
          have l2_ : Ix63 30 27 = (if ((opS tx n (cTake tx n (opS tx n S).2.2 (sgn tx n (opS tx n S).2.2))).2.1 (envR (mI m))).isSome = true then Ix6 30 27 else 1) := by rw [b_.2, show mI (wI (wI (setI m 30 27 0) Ix6) Ix59) 30 27 = Ix6 30 27 from hF59 30 27 (by omega)]
          show (1 : Int) = bI (cmpB (sgn tx n (opS tx n S).2.2) ((opS tx n S).2.1 (envR (mI m))) ((opS tx n (cTake tx n (opS tx n S).2.2 (sgn tx n (opS tx n S).2.2))).2.1 (envR (mI m))))
          refine tst_val (l1 := Ix6 30 27) (l2 := Ix63 30 27) (x := x6) (y := x63) a_.1 b_.1 l1_ l2_ ?_
          rw [hsg]
          have ec_ : (if (61 : Int) = 60 then x6 < x63 else if (61 : Int) = 61 then x6 = x63 else x63 < x6) = (x6 = x63) := (if_neg (by decide)).trans (if_pos rfl)
          rw [ec_]
          unfold cmpI at *
          omega
    · skip
      refine V_iconst (pc := 32) dX11_test_32 (by unfold I32; omega) ?_
      refine V_goto (pc := 33) dX11_test_33 (tgt := 37) rfl ?_
      refine V_st (pc := 37) dX11_test_37 (ls' := [(3, vi 1), (1, vl x6), (0, vr 30)]) rfl (Nat.le_of_ble_eq_true rfl) rfl ?_
      refine V_ld (pc := 38) dX11_test_38 (v := vr 30) rfl rfl ?_
      refine V_ld (pc := 39) dX11_test_39 (v := vi 1) rfl rfl ?_
      refine V_if_ge (pc := 40) dX11_test_40 (tgt := 48) rfl (fun _ => ?_) (fun h_ => absurd h_ (by decide))
      refine V_ld (pc := 48) dX11_test_48 (v := vi 1) rfl rfl ?_
      refine V_if_le (pc := 49) dX11_test_49 (tgt := 57) rfl (fun h_ => absurd h_ (by decide)) (fun _ => ?_)
      refine V_bipush (pc := 52) dX11_test_52 (by unfold I32; omega) (by decide) ?_
      refine V_goto (pc := 54) dX11_test_54 (tgt := 59) rfl ?_
      have hsg : (sgn tx n (opS tx n S).2.2) = 62 := (if_neg (by omega)).trans (if_pos (by omega))
      refine V_callV (pc := 59) dX11_test_59 (F' := 1) (As := [vi 62]) (st := []) cw_RX11_146 rfl rfl hL.t30 (by decide) (Nat.le_of_ble_eq_true rfl) (by omega) (q_takes tx n ((opS tx n S).2.2) (wI (setI m 30 27 0) Ix6) 62   (by first | assumption | omega) hP6 (by decide)) ?_
      rintro _ _ ⟨rfl, Ix59, rfl, hP59, hF59⟩ ok59 le59
      have hB59 := hP59.2.2.2.1
      have hQ59 := hP59
      rw [← hsg] at hQ59
      have hE59 : EOK (mI (wI (wI (setI m 30 27 0) Ix6) Ix59)) := EOK.fr hE5 (QFr.tr hF6 (QFs.r hF59)) (by rw [show mI (wI (wI (setI m 30 27 0) Ix6) Ix59) 30 27 = Ix6 30 27 from hF59 30 27 (by omega)]; exact hl6)
      refine V_ld (pc := 62) dX11_test_62 (v := vr 30) rfl rfl ?_
      refine V_callV (pc := 63) dX11_test_63 (F' := 3) (As := []) (st := []) cw_RX11_242 rfl rfl hL.t30 (by decide) (Nat.le_of_ble_eq_true rfl) (by omega) (q_operand tx n (cTake tx n (opS tx n S).2.2 (sgn tx n (opS tx n S).2.2)) (wI (wI (setI m 30 27 0) Ix6) Ix59)    (by first | assumption | omega) hQ59 hE59) ?_
      rintro _ _ ⟨x63, rfl, Ix63, rfl, hx63, hP63, hF63, hl63, hi63⟩ ok63 le63
      have hB63 := hP63.2.2.2.1
      refine V_st (pc := 66) dX11_test_66 (ls' := [(4, vl x63), (3, vi 1), (1, vl x6), (0, vr 30)]) rfl (Nat.le_of_ble_eq_true rfl) rfl ?_
      refine V_ld (pc := 68) dX11_test_68 (v := vr 30) rfl rfl ?_
      refine V_getIv (pc := 69) dX11_test_69 (v := Ix63 30 27) fw_RX11_219 rfl hL.t30 rfl (fun g69 => ?_)
      refine V_if_ne (pc := 72) dX11_test_72 (tgt := 114) rfl (fun h72 => ?_) (fun h72 => ?_)
      · skip
        refine V_iconst (pc := 114) dX11_test_114 (by unfold I32; omega) ?_
        skip
        refine V_reti (pc := 115) dX11_test_115 (show _ = (0 : Int) ∨ _ = (1 : Int) from by first | exact Or.inl rfl | exact Or.inr rfl | omega) ?_
        refine ⟨mI (wI (wI (wI (setI m 30 27 0) Ix6) Ix59) Ix63), rfl, trivial, hP63, QFr.tr hF5 (QFr.tr hF6 (QFr.tr (QFs.r hF59) hF63)), hl63, hi63.trans ((hF59 30 26 (by omega)).trans hi6), by omega, fun h0_ hw_ => ?_⟩
        have hw2_ : (opS tx n (cTake tx n (opS tx n S).2.2 (sgn tx n (opS tx n S).2.2))).2.2.1 = true := hw_
        have hw1_ : (opS tx n S).2.2.1 = true := ((CNi.take (tx := tx) (n := n) (S := (opS tx n S).2.2) (c := (sgn tx n (opS tx n S).2.2)) (by rw [hsg]; decide)).2.1 (((opS_ni tx n (cTake tx n (opS tx n S).2.2 (sgn tx n (opS tx n S).2.2))).2.1 hw2_).1)).1
        have a_ := hx6 h0_ hw1_
        have b_ := hx63 (by rw [show mI (wI (wI (setI m 30 27 0) Ix6) Ix59) 30 25 = mI m 30 25 from (QFr.tr hF5 (QFr.tr hF6 (QFs.r hF59))) 30 25 (by omega)]; exact h0_) hw2_
        have eA_ : envR (mI (setI m 30 27 0)) = envR (mI m) := envR_fr hF5
        have eB_ : envR (mI (wI (wI (setI m 30 27 0) Ix6) Ix59)) = envR (mI m) := envR_fr (QFr.tr hF5 (QFr.tr hF6 (QFs.r hF59)))
        rw [eA_] at a_
        rw [eB_] at b_
        have l1_ : Ix6 30 27 = (if ((opS tx n S).2.1 (envR (mI m))).isSome = true then 0 else 1) := by rw [a_.2, h27]
        have l2_ : Ix63 30 27 = (if ((opS tx n (cTake tx n (opS tx n S).2.2 (sgn tx n (opS tx n S).2.2))).2.1 (envR (mI m))).isSome = true then Ix6 30 27 else 1) := by rw [b_.2, show mI (wI (wI (setI m 30 27 0) Ix6) Ix59) 30 27 = Ix6 30 27 from hF59 30 27 (by omega)]
        show (0 : Int) = bI (cmpB (sgn tx n (opS tx n S).2.2) ((opS tx n S).2.1 (envR (mI m))) ((opS tx n (cTake tx n (opS tx n S).2.2 (sgn tx n (opS tx n S).2.2))).2.1 (envR (mI m))))
        refine tst_val (l1 := Ix6 30 27) (l2 := Ix63 30 27) (x := x6) (y := x63) a_.1 b_.1 l1_ l2_ ?_
        rw [hsg]
        have ec_ : (if (62 : Int) = 60 then x6 < x63 else if (62 : Int) = 61 then x6 = x63 else x63 < x6) = (x63 < x6) := (if_neg (by decide)).trans (if_neg (by decide))
        rw [ec_]
        unfold cmpI at *
        omega
      · skip
        refine V_ld (pc := 75) dX11_test_75 (v := vi 1) rfl rfl ?_
        refine V_if_ge (pc := 76) dX11_test_76 (tgt := 89) rfl (fun _ => ?_) (fun h_ => absurd h_ (by decide))
        refine V_ld (pc := 89) dX11_test_89 (v := vi 1) rfl rfl ?_
        refine V_if_le (pc := 90) dX11_test_90 (tgt := 103) rfl (fun h_ => absurd h_ (by decide)) (fun _ => ?_)
        refine V_ld (pc := 93) dX11_test_93 (v := vl x6) rfl rfl ?_
        refine V_ld (pc := 94) dX11_test_94 (v := vl x63) rfl rfl ?_
        refine V_lcmp (pc := 96) dX11_test_96 ?_
        refine V_if_le (pc := 97) dX11_test_97 (tgt := 114) rfl (fun h97 => ?_) (fun h97 => ?_)
        · skip
          refine V_iconst (pc := 114) dX11_test_114 (by unfold I32; omega) ?_
          skip
          refine V_reti (pc := 115) dX11_test_115 (show _ = (0 : Int) ∨ _ = (1 : Int) from by first | exact Or.inl rfl | exact Or.inr rfl | omega) ?_
          refine ⟨mI (wI (wI (wI (setI m 30 27 0) Ix6) Ix59) Ix63), rfl, trivial, hP63, QFr.tr hF5 (QFr.tr hF6 (QFr.tr (QFs.r hF59) hF63)), hl63, hi63.trans ((hF59 30 26 (by omega)).trans hi6), by omega, fun h0_ hw_ => ?_⟩
          have hw2_ : (opS tx n (cTake tx n (opS tx n S).2.2 (sgn tx n (opS tx n S).2.2))).2.2.1 = true := hw_
          have hw1_ : (opS tx n S).2.2.1 = true := ((CNi.take (tx := tx) (n := n) (S := (opS tx n S).2.2) (c := (sgn tx n (opS tx n S).2.2)) (by rw [hsg]; decide)).2.1 (((opS_ni tx n (cTake tx n (opS tx n S).2.2 (sgn tx n (opS tx n S).2.2))).2.1 hw2_).1)).1
          have a_ := hx6 h0_ hw1_
          have b_ := hx63 (by rw [show mI (wI (wI (setI m 30 27 0) Ix6) Ix59) 30 25 = mI m 30 25 from (QFr.tr hF5 (QFr.tr hF6 (QFs.r hF59))) 30 25 (by omega)]; exact h0_) hw2_
          have eA_ : envR (mI (setI m 30 27 0)) = envR (mI m) := envR_fr hF5
          have eB_ : envR (mI (wI (wI (setI m 30 27 0) Ix6) Ix59)) = envR (mI m) := envR_fr (QFr.tr hF5 (QFr.tr hF6 (QFs.r hF59)))
          rw [eA_] at a_
          rw [eB_] at b_
          have l1_ : Ix6 30 27 = (if ((opS tx n S).2.1 (envR (mI m))).isSome = true then 0 else 1) := by rw [a_.2, h27]
          have l2_ : Ix63 30 27 = (if ((opS tx n (cTake tx n (opS tx n S).2.2 (sgn tx n (opS tx n S).2.2))).2.1 (envR (mI m))).isSome = true then Ix6 30 27 else 1) := by rw [b_.2, show mI (wI (wI (setI m 30 27 0) Ix6) Ix59) 30 27 = Ix6 30 27 from hF59 30 27 (by omega)]
          show (0 : Int) = bI (cmpB (sgn tx n (opS tx n S).2.2) ((opS tx n S).2.1 (envR (mI m))) ((opS tx n (cTake tx n (opS tx n S).2.2 (sgn tx n (opS tx n S).2.2))).2.1 (envR (mI m))))
          refine tst_val (l1 := Ix6 30 27) (l2 := Ix63 30 27) (x := x6) (y := x63) a_.1 b_.1 l1_ l2_ ?_
          rw [hsg]
          have ec_ : (if (62 : Int) = 60 then x6 < x63 else if (62 : Int) = 61 then x6 = x63 else x63 < x6) = (x63 < x6) := (if_neg (by decide)).trans (if_neg (by decide))
          rw [ec_]
          unfold cmpI at *
          omega
        · skip
          refine V_goto (pc := 100) dX11_test_100 (tgt := 110) rfl ?_
          refine V_iconst (pc := 110) dX11_test_110 (by unfold I32; omega) ?_
          refine V_goto (pc := 111) dX11_test_111 (tgt := 115) rfl ?_
          skip
          refine V_reti (pc := 115) dX11_test_115 (show _ = (0 : Int) ∨ _ = (1 : Int) from by first | exact Or.inl rfl | exact Or.inr rfl | omega) ?_
          refine ⟨mI (wI (wI (wI (setI m 30 27 0) Ix6) Ix59) Ix63), rfl, trivial, hP63, QFr.tr hF5 (QFr.tr hF6 (QFr.tr (QFs.r hF59) hF63)), hl63, hi63.trans ((hF59 30 26 (by omega)).trans hi6), by omega, fun h0_ hw_ => ?_⟩
          have hw2_ : (opS tx n (cTake tx n (opS tx n S).2.2 (sgn tx n (opS tx n S).2.2))).2.2.1 = true := hw_
          have hw1_ : (opS tx n S).2.2.1 = true := ((CNi.take (tx := tx) (n := n) (S := (opS tx n S).2.2) (c := (sgn tx n (opS tx n S).2.2)) (by rw [hsg]; decide)).2.1 (((opS_ni tx n (cTake tx n (opS tx n S).2.2 (sgn tx n (opS tx n S).2.2))).2.1 hw2_).1)).1
          have a_ := hx6 h0_ hw1_
          have b_ := hx63 (by rw [show mI (wI (wI (setI m 30 27 0) Ix6) Ix59) 30 25 = mI m 30 25 from (QFr.tr hF5 (QFr.tr hF6 (QFs.r hF59))) 30 25 (by omega)]; exact h0_) hw2_
          have eA_ : envR (mI (setI m 30 27 0)) = envR (mI m) := envR_fr hF5
          have eB_ : envR (mI (wI (wI (setI m 30 27 0) Ix6) Ix59)) = envR (mI m) := envR_fr (QFr.tr hF5 (QFr.tr hF6 (QFs.r hF59)))
          rw [eA_] at a_
          rw [eB_] at b_
          have l1_ : Ix6 30 27 = (if ((opS tx n S).2.1 (envR (mI m))).isSome = true then 0 else 1) := by rw [a_.2, h27]
          have l2_ : Ix63 30 27 = (if ((opS tx n (cTake tx n (opS tx n S).2.2 (sgn tx n (opS tx n S).2.2))).2.1 (envR (mI m))).isSome = true then Ix6 30 27 else 1) := by rw [b_.2, show mI (wI (wI (setI m 30 27 0) Ix6) Ix59) 30 27 = Ix6 30 27 from hF59 30 27 (by omega)]
          show (1 : Int) = bI (cmpB (sgn tx n (opS tx n S).2.2) ((opS tx n S).2.1 (envR (mI m))) ((opS tx n (cTake tx n (opS tx n S).2.2 (sgn tx n (opS tx n S).2.2))).2.1 (envR (mI m))))
          refine tst_val (l1 := Ix6 30 27) (l2 := Ix63 30 27) (x := x6) (y := x63) a_.1 b_.1 l1_ l2_ ?_
          rw [hsg]
          have ec_ : (if (62 : Int) = 60 then x6 < x63 else if (62 : Int) = 61 then x6 = x63 else x63 < x6) = (x63 < x6) := (if_neg (by decide)).trans (if_neg (by decide))
          rw [ec_]
          unfold cmpI at *
          omega
  · skip
    refine V_iconst (pc := 19) dX11_test_19 (by unfold I32; omega) ?_
    refine V_goto (pc := 20) dX11_test_20 (tgt := 37) rfl ?_
    refine V_st (pc := 37) dX11_test_37 (ls' := [(3, vi (-1)), (1, vl x6), (0, vr 30)]) rfl (Nat.le_of_ble_eq_true rfl) rfl ?_
    refine V_ld (pc := 38) dX11_test_38 (v := vr 30) rfl rfl ?_
    refine V_ld (pc := 39) dX11_test_39 (v := vi (-1)) rfl rfl ?_
    refine V_if_ge (pc := 40) dX11_test_40 (tgt := 48) rfl (fun h_ => absurd h_ (by decide)) (fun _ => ?_)
    refine V_bipush (pc := 43) dX11_test_43 (by unfold I32; omega) (by decide) ?_
    refine V_goto (pc := 45) dX11_test_45 (tgt := 59) rfl ?_
    have hsg : (sgn tx n (opS tx n S).2.2) = 60 := if_pos (by omega)
    refine V_callV (pc := 59) dX11_test_59 (F' := 1) (As := [vi 60]) (st := []) cw_RX11_146 rfl rfl hL.t30 (by decide) (Nat.le_of_ble_eq_true rfl) (by omega) (q_takes tx n ((opS tx n S).2.2) (wI (setI m 30 27 0) Ix6) 60   (by first | assumption | omega) hP6 (by decide)) ?_
    rintro _ _ ⟨rfl, Ix59, rfl, hP59, hF59⟩ ok59 le59
    have hB59 := hP59.2.2.2.1
    have hQ59 := hP59
    rw [← hsg] at hQ59
    have hE59 : EOK (mI (wI (wI (setI m 30 27 0) Ix6) Ix59)) := EOK.fr hE5 (QFr.tr hF6 (QFs.r hF59)) (by rw [show mI (wI (wI (setI m 30 27 0) Ix6) Ix59) 30 27 = Ix6 30 27 from hF59 30 27 (by omega)]; exact hl6)
    refine V_ld (pc := 62) dX11_test_62 (v := vr 30) rfl rfl ?_
    refine V_callV (pc := 63) dX11_test_63 (F' := 3) (As := []) (st := []) cw_RX11_242 rfl rfl hL.t30 (by decide) (Nat.le_of_ble_eq_true rfl) (by omega) (q_operand tx n (cTake tx n (opS tx n S).2.2 (sgn tx n (opS tx n S).2.2)) (wI (wI (setI m 30 27 0) Ix6) Ix59)    (by first | assumption | omega) hQ59 hE59) ?_
    rintro _ _ ⟨x63, rfl, Ix63, rfl, hx63, hP63, hF63, hl63, hi63⟩ ok63 le63
    have hB63 := hP63.2.2.2.1
    refine V_st (pc := 66) dX11_test_66 (ls' := [(4, vl x63), (3, vi (-1)), (1, vl x6), (0, vr 30)]) rfl (Nat.le_of_ble_eq_true rfl) rfl ?_
    refine V_ld (pc := 68) dX11_test_68 (v := vr 30) rfl rfl ?_
    refine V_getIv (pc := 69) dX11_test_69 (v := Ix63 30 27) fw_RX11_219 rfl hL.t30 rfl (fun g69 => ?_)
    refine V_if_ne (pc := 72) dX11_test_72 (tgt := 114) rfl (fun h72 => ?_) (fun h72 => ?_)
    · skip
      refine V_iconst (pc := 114) dX11_test_114 (by unfold I32; omega) ?_
      skip
      refine V_reti (pc := 115) dX11_test_115 (show _ = (0 : Int) ∨ _ = (1 : Int) from by first | exact Or.inl rfl | exact Or.inr rfl | omega) ?_
      refine ⟨mI (wI (wI (wI (setI m 30 27 0) Ix6) Ix59) Ix63), rfl, trivial, hP63, QFr.tr hF5 (QFr.tr hF6 (QFr.tr (QFs.r hF59) hF63)), hl63, hi63.trans ((hF59 30 26 (by omega)).trans hi6), by omega, fun h0_ hw_ => ?_⟩
      have hw2_ : (opS tx n (cTake tx n (opS tx n S).2.2 (sgn tx n (opS tx n S).2.2))).2.2.1 = true := hw_
      have hw1_ : (opS tx n S).2.2.1 = true := ((CNi.take (tx := tx) (n := n) (S := (opS tx n S).2.2) (c := (sgn tx n (opS tx n S).2.2)) (by rw [hsg]; decide)).2.1 (((opS_ni tx n (cTake tx n (opS tx n S).2.2 (sgn tx n (opS tx n S).2.2))).2.1 hw2_).1)).1
      have a_ := hx6 h0_ hw1_
      have b_ := hx63 (by rw [show mI (wI (wI (setI m 30 27 0) Ix6) Ix59) 30 25 = mI m 30 25 from (QFr.tr hF5 (QFr.tr hF6 (QFs.r hF59))) 30 25 (by omega)]; exact h0_) hw2_
      have eA_ : envR (mI (setI m 30 27 0)) = envR (mI m) := envR_fr hF5
      have eB_ : envR (mI (wI (wI (setI m 30 27 0) Ix6) Ix59)) = envR (mI m) := envR_fr (QFr.tr hF5 (QFr.tr hF6 (QFs.r hF59)))
      rw [eA_] at a_
      rw [eB_] at b_
      have l1_ : Ix6 30 27 = (if ((opS tx n S).2.1 (envR (mI m))).isSome = true then 0 else 1) := by rw [a_.2, h27]
      have l2_ : Ix63 30 27 = (if ((opS tx n (cTake tx n (opS tx n S).2.2 (sgn tx n (opS tx n S).2.2))).2.1 (envR (mI m))).isSome = true then Ix6 30 27 else 1) := by rw [b_.2, show mI (wI (wI (setI m 30 27 0) Ix6) Ix59) 30 27 = Ix6 30 27 from hF59 30 27 (by omega)]
      show (0 : Int) = bI (cmpB (sgn tx n (opS tx n S).2.2) ((opS tx n S).2.1 (envR (mI m))) ((opS tx n (cTake tx n (opS tx n S).2.2 (sgn tx n (opS tx n S).2.2))).2.1 (envR (mI m))))
      refine tst_val (l1 := Ix6 30 27) (l2 := Ix63 30 27) (x := x6) (y := x63) a_.1 b_.1 l1_ l2_ ?_
      rw [hsg]
      have ec_ : (if (60 : Int) = 60 then x6 < x63 else if (60 : Int) = 61 then x6 = x63 else x63 < x6) = (x6 < x63) := if_pos rfl
      rw [ec_]
      unfold cmpI at *
      omega
    · skip
      refine V_ld (pc := 75) dX11_test_75 (v := vi (-1)) rfl rfl ?_
      refine V_if_ge (pc := 76) dX11_test_76 (tgt := 89) rfl (fun h_ => absurd h_ (by decide)) (fun _ => ?_)
      refine V_ld (pc := 79) dX11_test_79 (v := vl x6) rfl rfl ?_
      refine V_ld (pc := 80) dX11_test_80 (v := vl x63) rfl rfl ?_
      refine V_lcmp (pc := 82) dX11_test_82 ?_
      refine V_if_ge (pc := 83) dX11_test_83 (tgt := 114) rfl (fun h83 => ?_) (fun h83 => ?_)
      · skip
        refine V_iconst (pc := 114) dX11_test_114 (by unfold I32; omega) ?_
        skip
        refine V_reti (pc := 115) dX11_test_115 (show _ = (0 : Int) ∨ _ = (1 : Int) from by first | exact Or.inl rfl | exact Or.inr rfl | omega) ?_
        refine ⟨mI (wI (wI (wI (setI m 30 27 0) Ix6) Ix59) Ix63), rfl, trivial, hP63, QFr.tr hF5 (QFr.tr hF6 (QFr.tr (QFs.r hF59) hF63)), hl63, hi63.trans ((hF59 30 26 (by omega)).trans hi6), by omega, fun h0_ hw_ => ?_⟩
        have hw2_ : (opS tx n (cTake tx n (opS tx n S).2.2 (sgn tx n (opS tx n S).2.2))).2.2.1 = true := hw_
        have hw1_ : (opS tx n S).2.2.1 = true := ((CNi.take (tx := tx) (n := n) (S := (opS tx n S).2.2) (c := (sgn tx n (opS tx n S).2.2)) (by rw [hsg]; decide)).2.1 (((opS_ni tx n (cTake tx n (opS tx n S).2.2 (sgn tx n (opS tx n S).2.2))).2.1 hw2_).1)).1
        have a_ := hx6 h0_ hw1_
        have b_ := hx63 (by rw [show mI (wI (wI (setI m 30 27 0) Ix6) Ix59) 30 25 = mI m 30 25 from (QFr.tr hF5 (QFr.tr hF6 (QFs.r hF59))) 30 25 (by omega)]; exact h0_) hw2_
        have eA_ : envR (mI (setI m 30 27 0)) = envR (mI m) := envR_fr hF5
        have eB_ : envR (mI (wI (wI (setI m 30 27 0) Ix6) Ix59)) = envR (mI m) := envR_fr (QFr.tr hF5 (QFr.tr hF6 (QFs.r hF59)))
        rw [eA_] at a_
        rw [eB_] at b_
        have l1_ : Ix6 30 27 = (if ((opS tx n S).2.1 (envR (mI m))).isSome = true then 0 else 1) := by rw [a_.2, h27]
        have l2_ : Ix63 30 27 = (if ((opS tx n (cTake tx n (opS tx n S).2.2 (sgn tx n (opS tx n S).2.2))).2.1 (envR (mI m))).isSome = true then Ix6 30 27 else 1) := by rw [b_.2, show mI (wI (wI (setI m 30 27 0) Ix6) Ix59) 30 27 = Ix6 30 27 from hF59 30 27 (by omega)]
        show (0 : Int) = bI (cmpB (sgn tx n (opS tx n S).2.2) ((opS tx n S).2.1 (envR (mI m))) ((opS tx n (cTake tx n (opS tx n S).2.2 (sgn tx n (opS tx n S).2.2))).2.1 (envR (mI m))))
        refine tst_val (l1 := Ix6 30 27) (l2 := Ix63 30 27) (x := x6) (y := x63) a_.1 b_.1 l1_ l2_ ?_
        rw [hsg]
        have ec_ : (if (60 : Int) = 60 then x6 < x63 else if (60 : Int) = 61 then x6 = x63 else x63 < x6) = (x6 < x63) := if_pos rfl
        rw [ec_]
        unfold cmpI at *
        omega
      · skip
        refine V_goto (pc := 86) dX11_test_86 (tgt := 110) rfl ?_
        refine V_iconst (pc := 110) dX11_test_110 (by unfold I32; omega) ?_
        refine V_goto (pc := 111) dX11_test_111 (tgt := 115) rfl ?_
        skip
        refine V_reti (pc := 115) dX11_test_115 (show _ = (0 : Int) ∨ _ = (1 : Int) from by first | exact Or.inl rfl | exact Or.inr rfl | omega) ?_
        refine ⟨mI (wI (wI (wI (setI m 30 27 0) Ix6) Ix59) Ix63), rfl, trivial, hP63, QFr.tr hF5 (QFr.tr hF6 (QFr.tr (QFs.r hF59) hF63)), hl63, hi63.trans ((hF59 30 26 (by omega)).trans hi6), by omega, fun h0_ hw_ => ?_⟩
        have hw2_ : (opS tx n (cTake tx n (opS tx n S).2.2 (sgn tx n (opS tx n S).2.2))).2.2.1 = true := hw_
        have hw1_ : (opS tx n S).2.2.1 = true := ((CNi.take (tx := tx) (n := n) (S := (opS tx n S).2.2) (c := (sgn tx n (opS tx n S).2.2)) (by rw [hsg]; decide)).2.1 (((opS_ni tx n (cTake tx n (opS tx n S).2.2 (sgn tx n (opS tx n S).2.2))).2.1 hw2_).1)).1
        have a_ := hx6 h0_ hw1_
        have b_ := hx63 (by rw [show mI (wI (wI (setI m 30 27 0) Ix6) Ix59) 30 25 = mI m 30 25 from (QFr.tr hF5 (QFr.tr hF6 (QFs.r hF59))) 30 25 (by omega)]; exact h0_) hw2_
        have eA_ : envR (mI (setI m 30 27 0)) = envR (mI m) := envR_fr hF5
        have eB_ : envR (mI (wI (wI (setI m 30 27 0) Ix6) Ix59)) = envR (mI m) := envR_fr (QFr.tr hF5 (QFr.tr hF6 (QFs.r hF59)))
        rw [eA_] at a_
        rw [eB_] at b_
        have l1_ : Ix6 30 27 = (if ((opS tx n S).2.1 (envR (mI m))).isSome = true then 0 else 1) := by rw [a_.2, h27]
        have l2_ : Ix63 30 27 = (if ((opS tx n (cTake tx n (opS tx n S).2.2 (sgn tx n (opS tx n S).2.2))).2.1 (envR (mI m))).isSome = true then Ix6 30 27 else 1) := by rw [b_.2, show mI (wI (wI (setI m 30 27 0) Ix6) Ix59) 30 27 = Ix6 30 27 from hF59 30 27 (by omega)]
        show (1 : Int) = bI (cmpB (sgn tx n (opS tx n S).2.2) ((opS tx n S).2.1 (envR (mI m))) ((opS tx n (cTake tx n (opS tx n S).2.2 (sgn tx n (opS tx n S).2.2))).2.1 (envR (mI m))))
        refine tst_val (l1 := Ix6 30 27) (l2 := Ix63 30 27) (x := x6) (y := x63) a_.1 b_.1 l1_ l2_ ?_
        rw [hsg]
        have ec_ : (if (60 : Int) = 60 then x6 < x63 else if (60 : Int) = 61 then x6 = x63 else x63 < x6) = (x6 < x63) := if_pos rfl
        rw [ec_]
        unfold cmpI at *
        omega

def QFac (tx : Nat → Int) (n k : Nat) : Prop := ∀ (S : CS) (m : Mem)    (hL : Lay (mT m) (mR m)) (hP : RQ (mI m) tx n S) (hE : EOK (mI m)) (hin : mI m 30 26 + (k : Int) = 4), Ct μX11_factor (5 + 3 * k) [vr 30] m (ri fun x_ m' => ∃ I_ : Nat → Nat → Int, wI m I_ = m' ∧ (True) ∧ QOut (mI m) I_ tx n (facC tx n k S) x_)

def QBth (tx : Nat → Int) (n k : Nat) : Prop := ∀ (S : CS) (m : Mem)    (hL : Lay (mT m) (mR m)) (hP : RQ (mI m) tx n S) (hE : EOK (mI m)) (hin : mI m 30 26 + (k : Int) = 4), Ct μX11_both (6 + 3 * k) [vr 30] m (ri fun x_ m' => ∃ I_ : Nat → Nat → Int, wI m I_ = m' ∧ (True) ∧ QOut (mI m) I_ tx n (bthL tx n k S) x_)

def QEit (tx : Nat → Int) (n k : Nat) : Prop := ∀ (S : CS) (m : Mem)    (hL : Lay (mT m) (mR m)) (hP : RQ (mI m) tx n S) (hE : EOK (mI m)) (hin : mI m 30 26 + (k : Int) = 4), Ct μX11_either (7 + 3 * k) [vr 30] m (ri fun x_ m' => ∃ I_ : Nat → Nat → Int, wI m I_ = m' ∧ (True) ∧ QOut (mI m) I_ tx n (eitL tx n k S) x_)

theorem facC_pos {tx : Nat → Int} {n k : Nat} (h : 0 < k) (S : CS) : facC tx n k S = (if ccS tx n S = 33 then ((facC tx n (k - 1) (cAdv S)).1 ++ [33], (fun e => !((facC tx n (k - 1) (cAdv S)).2.1 e)), (facC tx n (k - 1) (cAdv S)).2.2)
      else if ccS tx n S = 40 then ((eitL tx n (k - 1) (cAdv S)).1, (eitL tx n (k - 1) (cAdv S)).2.1, cTake tx n (eitL tx n (k - 1) (cAdv S)).2.2 41)
      else tstS tx n S) := by
  cases k with
  | zero => omega
  | succ k => rfl
theorem facC_tst {tx : Nat → Int} {n k : Nat} {S : CS} (h : 0 < k → ccS tx n S ≠ 33 ∧ ccS tx n S ≠ 40) : facC tx n k S = tstS tx n S := by
  cases k with
  | zero => rfl
  | succ k =>
    have h' := h (by omega)
    rw [facC_pos (by omega), if_neg h'.1, if_neg h'.2]
theorem bI_not (b : Bool) : bI (!b) = 1 - bI b := by cases b <;> rfl

set_option maxHeartbeats 8000000 in
theorem q_factor (tx : Nat → Int) (n : Nat) (k : Nat) (S : CS) (m : Mem)    (hL : Lay (mT m) (mR m)) (hP : RQ (mI m) tx n S) (hE : EOK (mI m)) (hin : mI m 30 26 + (k : Int) = 4) (hsub : ∀ k_ : Nat, k = k_ + 1 → QFac tx n k_ ∧ QEit tx n k_) : Ct μX11_factor (5 + 3 * k) [vr 30] m (ri fun x_ m' => ∃ I_ : Nat → Nat → Int, wI m I_ = m' ∧ (True) ∧ QOut (mI m) I_ tx n (facC tx n k S) x_) := by
  refine Ct_of_V rfl (by decide) rfl (Nat.le_of_ble_eq_true rfl) ?_
  show V μX11_factor (5 + 3 * k) m _ 0 [(0, vr 30)] [] m
  have hB0 := hP.2.2.2.1
  have hn120 := hP.2.2.2.2.1
  refine V_ld (pc := 0) dX11_factor_0 (v := vr 30) rfl rfl ?_
  refine V_getIv (pc := 1) dX11_factor_1 (v := mI m 30 26) fw_RX11_246 rfl hL.t30 rfl (fun g1 => ?_)
  refine V_iconst (pc := 4) dX11_factor_4 (by unfold I32; omega) ?_
  refine V_icmp_ge (pc := 5) dX11_factor_5 (tgt := 63) rfl (fun h5 => ?_) (fun h5 => ?_)
  · skip
    refine V_ld (pc := 63) dX11_factor_63 (v := vr 30) rfl rfl ?_
    refine V_getIv (pc := 64) dX11_factor_64 (v := mI m 30 26) fw_RX11_246 rfl hL.t30 rfl (fun g64 => ?_)
    refine V_iconst (pc := 67) dX11_factor_67 (by unfold I32; omega) ?_
    refine V_icmp_ge (pc := 68) dX11_factor_68 (tgt := 124) rfl (fun h68 => ?_) (fun h68 => ?_)
    · skip
      refine V_ld (pc := 124) dX11_factor_124 (v := vr 30) rfl rfl ?_
      refine V_callV (pc := 125) dX11_factor_125 (F' := 4) (As := []) (st := []) cw_RX11_255 rfl rfl hL.t30 (by decide) (Nat.le_of_ble_eq_true rfl) (by omega) (q_test tx n S m    (by first | assumption | omega) hP hE) ?_
      rintro _ _ ⟨x125, rfl, Ix125, rfl, hx125, ⟨hP125, hF125, hl125, hi125, hb125, hv125⟩⟩ ok125 le125
      have hB125 := hP125.2.2.2.1
      refine V_st (pc := 128) dX11_factor_128 (ls' := [(1, vi x125), (0, vr 30)]) rfl (Nat.le_of_ble_eq_true rfl) rfl ?_
      refine V_ld (pc := 129) dX11_factor_129 (v := vi x125) rfl rfl ?_
      refine V_reti (pc := 130) dX11_factor_130 (show _ = (0 : Int) ∨ _ = (1 : Int) from by first | exact Or.inl rfl | exact Or.inr rfl | omega) ?_
      have e_ : facC tx n k S = tstS tx n S := facC_tst (fun hk_ => by omega)
      refine ⟨mI (wI m Ix125), rfl, trivial, ?_⟩
      rw [e_]
      exact ⟨hP125, hF125, hl125, hi125, hb125, hv125⟩
    · skip
      refine V_ld (pc := 71) dX11_factor_71 (v := vr 30) rfl rfl ?_
      refine V_bipush (pc := 72) dX11_factor_72 (by unfold I32; omega) (by decide) ?_
      refine V_callV (pc := 74) dX11_factor_74 (F' := 0) (As := [vi 40]) (st := []) cw_RX11_132 rfl rfl hL.t30 (by decide) (Nat.le_of_ble_eq_true rfl) (by omega) (q_isAt tx n S m 40   (by first | assumption | omega) hP (by decide)) ?_
      rintro _ _ ⟨x74, rfl, hx74, rfl⟩ ok74 le74
      refine V_if_eq (pc := 77) dX11_factor_77 (tgt := 124) rfl (fun h77 => ?_) (fun h77 => ?_)
      · skip
        refine V_ld (pc := 124) dX11_factor_124 (v := vr 30) rfl rfl ?_
        refine V_callV (pc := 125) dX11_factor_125 (F' := 4) (As := []) (st := []) cw_RX11_255 rfl rfl hL.t30 (by decide) (Nat.le_of_ble_eq_true rfl) (by omega) (q_test tx n S m    (by first | assumption | omega) hP hE) ?_
        rintro _ _ ⟨x125, rfl, Ix125, rfl, hx125, ⟨hP125, hF125, hl125, hi125, hb125, hv125⟩⟩ ok125 le125
        have hB125 := hP125.2.2.2.1
        refine V_st (pc := 128) dX11_factor_128 (ls' := [(1, vi x125), (0, vr 30)]) rfl (Nat.le_of_ble_eq_true rfl) rfl ?_
        refine V_ld (pc := 129) dX11_factor_129 (v := vi x125) rfl rfl ?_
        refine V_reti (pc := 130) dX11_factor_130 (show _ = (0 : Int) ∨ _ = (1 : Int) from by first | exact Or.inl rfl | exact Or.inr rfl | omega) ?_
        have e_ : facC tx n k S = tstS tx n S := facC_tst (fun hk_ => by omega)
        refine ⟨mI (wI m Ix125), rfl, trivial, ?_⟩
        rw [e_]
        exact ⟨hP125, hF125, hl125, hi125, hb125, hv125⟩
      · skip
        refine V_ld (pc := 80) dX11_factor_80 (v := vr 30) rfl rfl ?_
        refine V_dup (pc := 81) dX11_factor_81 rfl ?_
        refine V_getIv (pc := 82) dX11_factor_82 (v := (S.2 : Int)) fw_RX11_125 rfl hL.t30 hP.2.1 (fun g82 => ?_)
        refine V_iconst (pc := 85) dX11_factor_85 (by unfold I32; omega) ?_
        refine V_iadd (pc := 86) dX11_factor_86 (by unfold I32 at *; omega) ?_
        refine V_putI (pc := 87) dX11_factor_87 fw_RX11_125 rfl hL.t30 (Or.inl rfl) (Or.inl rfl) ?_
        have hA90 : RQ (mI (setI m 30 7 ((S.2 : Int) + 1))) tx n (cAdv S) := RQ.adv hP (congrArg (fun z => z + 1) hP.2.1.symm) (RQ.lt hP (by omega))
        have ehA90 : (cAdv S).2 = S.2 + 1 := rfl
        have bhA90 := hA90.2.2.2.1
        refine V_ld (pc := 90) dX11_factor_90 (v := vr 30) rfl rfl ?_
        refine V_dup (pc := 91) dX11_factor_91 rfl ?_
        refine V_getIv (pc := 92) dX11_factor_92 (v := mI m 30 26) fw_RX11_246 rfl hL.t30 rfl (fun g92 => ?_)
        refine V_iconst (pc := 95) dX11_factor_95 (by unfold I32; omega) ?_
        refine V_iadd (pc := 96) dX11_factor_96 (by unfold I32 at *; omega) ?_
        refine V_putI (pc := 97) dX11_factor_97 fw_RX11_246 rfl hL.t30 (Or.inl rfl) (Or.inl rfl) ?_
        have hPb : RQ (mI (setI (setI m 30 7 ((S.2 : Int) + 1)) 30 26 ((mI m 30 26) + 1))) tx n (cAdv S) := RQ.fr hA90 (fun o k h_ => up2_nx (by omega))
        have hFb : QFr (mI m) (mI (setI (setI m 30 7 ((S.2 : Int) + 1)) 30 26 ((mI m 30 26) + 1))) := (QFr.set (QFr.set (QFr.rf : QFr (mI m) (mI m)) (by omega)) (by omega))
        have hEb : EOK (mI (setI (setI m 30 7 ((S.2 : Int) + 1)) 30 26 ((mI m 30 26) + 1))) := EOK.fr hE hFb hE.2.2.2.1
        have hIb : mI (setI (setI m 30 7 ((S.2 : Int) + 1)) 30 26 ((mI m 30 26) + 1)) 30 26 = mI m 30 26 + 1 := mI_sets
        refine V_ld (pc := 100) dX11_factor_100 (v := vr 30) rfl rfl ?_
        refine V_callV (pc := 101) dX11_factor_101 (F' := (7 + 3 * (k - 1))) (As := []) (st := []) cw_RX11_252 rfl rfl hL.t30 (by decide) (Nat.le_of_ble_eq_true rfl) (by omega) ((hsub (k - 1) (by omega)).2 (cAdv S) (setI (setI m 30 7 ((S.2 : Int) + 1)) 30 26 ((mI m 30 26) + 1))    (by first | assumption | omega) hPb hEb (by omega)) ?_
        rintro _ _ ⟨x101, rfl, Ix101, rfl, hx101, ⟨hP101, hF101, hl101, hi101, hb101, hv101⟩⟩ ok101 le101
        have hB101 := hP101.2.2.2.1
        refine V_st (pc := 104) dX11_factor_104 (ls' := [(1, vi x101), (0, vr 30)]) rfl (Nat.le_of_ble_eq_true rfl) rfl ?_
        refine V_ld (pc := 105) dX11_factor_105 (v := vr 30) rfl rfl ?_
        refine V_dup (pc := 106) dX11_factor_106 rfl ?_
        refine V_getIv (pc := 107) dX11_factor_107 (v := (mI m 30 26 + 1)) fw_RX11_246 rfl hL.t30 (hi101.trans hIb) (fun g107 => ?_)
        refine V_iconst (pc := 110) dX11_factor_110 (by unfold I32; omega) ?_
        refine V_isub (pc := 111) dX11_factor_111 (by unfold I32 at *; omega) ?_
        refine V_putI (pc := 112) dX11_factor_112 fw_RX11_246 rfl hL.t30 (Or.inl rfl) (Or.inl rfl) ?_
        have hP115 : RQ (mI (setI (wI (setI (setI m 30 7 ((S.2 : Int) + 1)) 30 26 ((mI m 30 26) + 1)) Ix101) 30 26 ((mI m 30 26 + 1) - 1))) tx n (eitL tx n (k - 1) (cAdv S)).2.2 := RQ.fr hP101 (fun o k h_ => up2_nx (by omega))
        refine V_ld (pc := 115) dX11_factor_115 (v := vr 30) rfl rfl ?_
        refine V_bipush (pc := 116) dX11_factor_116 (by unfold I32; omega) (by decide) ?_
        refine V_callV (pc := 118) dX11_factor_118 (F' := 1) (As := [vi 41]) (st := []) cw_RX11_146 rfl rfl hL.t30 (by decide) (Nat.le_of_ble_eq_true rfl) (by omega) (q_takes tx n ((eitL tx n (k - 1) (cAdv S)).2.2) (setI (wI (setI (setI m 30 7 ((S.2 : Int) + 1)) 30 26 ((mI m 30 26) + 1)) Ix101) 30 26 ((mI m 30 26 + 1) - 1)) 41   (by first | assumption | omega) hP115 (by decide)) ?_
        rintro _ _ ⟨rfl, Ix118, rfl, hP118, hF118⟩ ok118 le118
        have hB118 := hP118.2.2.2.1
        refine V_goto (pc := 121) dX11_factor_121 (tgt := 129) rfl ?_
        refine V_ld (pc := 129) dX11_factor_129 (v := vi x101) rfl rfl ?_
        refine V_reti (pc := 130) dX11_factor_130 (show _ = (0 : Int) ∨ _ = (1 : Int) from by first | exact Or.inl rfl | exact Or.inr rfl | omega) ?_
        have e_ : facC tx n k S = ((eitL tx n (k - 1) (cAdv S)).1, (eitL tx n (k - 1) (cAdv S)).2.1, cTake tx n (eitL tx n (k - 1) (cAdv S)).2.2 41) := by rw [facC_pos (by omega), if_neg (by omega), if_pos (by omega)]
        have hF_ : QFr (mI m) (mI (wI (setI (wI (setI (setI m 30 7 ((S.2 : Int) + 1)) 30 26 ((mI m 30 26) + 1)) Ix101) 30 26 ((mI m 30 26 + 1) - 1)) Ix118)) := QFr.tr (QFr.set (QFr.tr hFb hF101) (by omega)) (QFs.r hF118)
        have h27_ : mI (wI (setI (wI (setI (setI m 30 7 ((S.2 : Int) + 1)) 30 26 ((mI m 30 26) + 1)) Ix101) 30 26 ((mI m 30 26 + 1) - 1)) Ix118) 30 27 = Ix101 30 27 := hF118 30 27 (by omega)
        have h26_ : mI (wI (setI (wI (setI (setI m 30 7 ((S.2 : Int) + 1)) 30 26 ((mI m 30 26) + 1)) Ix101) 30 26 ((mI m 30 26 + 1) - 1)) Ix118) 30 26 = mI m 30 26 + 1 - 1 := (hF118 30 26 (by omega)).trans mI_sets
        refine ⟨mI (wI (setI (wI (setI (setI m 30 7 ((S.2 : Int) + 1)) 30 26 ((mI m 30 26) + 1)) Ix101) 30 26 ((mI m 30 26 + 1) - 1)) Ix118), rfl, trivial, ?_⟩
        rw [e_]
        refine ⟨hP118, hF_, by rw [h27_]; exact hl101, by omega, hb101, fun h0_ hw_ => ?_⟩
        have hw1_ := ((CNi.take (tx := tx) (n := n) (S := (eitL tx n (k - 1) (cAdv S)).2.2) (c := 41) (by decide)).2.1 hw_).1
        have hv_ := hv101 (by rw [hFb 30 25 (by omega)]; exact h0_) hw1_
        rw [envR_fr hFb] at hv_
        exact hv_
  · skip
    refine V_ld (pc := 8) dX11_factor_8 (v := vr 30) rfl rfl ?_
    refine V_bipush (pc := 9) dX11_factor_9 (by unfold I32; omega) (by decide) ?_
    refine V_callV (pc := 11) dX11_factor_11 (F' := 0) (As := [vi 33]) (st := []) cw_RX11_132 rfl rfl hL.t30 (by decide) (Nat.le_of_ble_eq_true rfl) (by omega) (q_isAt tx n S m 33   (by first | assumption | omega) hP (by decide)) ?_
    rintro _ _ ⟨x11, rfl, hx11, rfl⟩ ok11 le11
    refine V_if_eq (pc := 14) dX11_factor_14 (tgt := 63) rfl (fun h14 => ?_) (fun h14 => ?_)
    · skip
      refine V_ld (pc := 63) dX11_factor_63 (v := vr 30) rfl rfl ?_
      refine V_getIv (pc := 64) dX11_factor_64 (v := mI m 30 26) fw_RX11_246 rfl hL.t30 rfl (fun g64 => ?_)
      refine V_iconst (pc := 67) dX11_factor_67 (by unfold I32; omega) ?_
      refine V_icmp_ge (pc := 68) dX11_factor_68 (tgt := 124) rfl (fun h68 => ?_) (fun h68 => ?_)
      · skip
        refine V_ld (pc := 124) dX11_factor_124 (v := vr 30) rfl rfl ?_
        refine V_callV (pc := 125) dX11_factor_125 (F' := 4) (As := []) (st := []) cw_RX11_255 rfl rfl hL.t30 (by decide) (Nat.le_of_ble_eq_true rfl) (by omega) (q_test tx n S m    (by first | assumption | omega) hP hE) ?_
        rintro _ _ ⟨x125, rfl, Ix125, rfl, hx125, ⟨hP125, hF125, hl125, hi125, hb125, hv125⟩⟩ ok125 le125
        have hB125 := hP125.2.2.2.1
        refine V_st (pc := 128) dX11_factor_128 (ls' := [(1, vi x125), (0, vr 30)]) rfl (Nat.le_of_ble_eq_true rfl) rfl ?_
        refine V_ld (pc := 129) dX11_factor_129 (v := vi x125) rfl rfl ?_
        refine V_reti (pc := 130) dX11_factor_130 (show _ = (0 : Int) ∨ _ = (1 : Int) from by first | exact Or.inl rfl | exact Or.inr rfl | omega) ?_
        have e_ : facC tx n k S = tstS tx n S := facC_tst (fun hk_ => by omega)
        refine ⟨mI (wI m Ix125), rfl, trivial, ?_⟩
        rw [e_]
        exact ⟨hP125, hF125, hl125, hi125, hb125, hv125⟩
      · skip
        refine V_ld (pc := 71) dX11_factor_71 (v := vr 30) rfl rfl ?_
        refine V_bipush (pc := 72) dX11_factor_72 (by unfold I32; omega) (by decide) ?_
        refine V_callV (pc := 74) dX11_factor_74 (F' := 0) (As := [vi 40]) (st := []) cw_RX11_132 rfl rfl hL.t30 (by decide) (Nat.le_of_ble_eq_true rfl) (by omega) (q_isAt tx n S m 40   (by first | assumption | omega) hP (by decide)) ?_
        rintro _ _ ⟨x74, rfl, hx74, rfl⟩ ok74 le74
        refine V_if_eq (pc := 77) dX11_factor_77 (tgt := 124) rfl (fun h77 => ?_) (fun h77 => ?_)
        · skip
          refine V_ld (pc := 124) dX11_factor_124 (v := vr 30) rfl rfl ?_
          refine V_callV (pc := 125) dX11_factor_125 (F' := 4) (As := []) (st := []) cw_RX11_255 rfl rfl hL.t30 (by decide) (Nat.le_of_ble_eq_true rfl) (by omega) (q_test tx n S m    (by first | assumption | omega) hP hE) ?_
          rintro _ _ ⟨x125, rfl, Ix125, rfl, hx125, ⟨hP125, hF125, hl125, hi125, hb125, hv125⟩⟩ ok125 le125
          have hB125 := hP125.2.2.2.1
          refine V_st (pc := 128) dX11_factor_128 (ls' := [(1, vi x125), (0, vr 30)]) rfl (Nat.le_of_ble_eq_true rfl) rfl ?_
          refine V_ld (pc := 129) dX11_factor_129 (v := vi x125) rfl rfl ?_
          refine V_reti (pc := 130) dX11_factor_130 (show _ = (0 : Int) ∨ _ = (1 : Int) from by first | exact Or.inl rfl | exact Or.inr rfl | omega) ?_
          have e_ : facC tx n k S = tstS tx n S := facC_tst (fun hk_ => by omega)
          refine ⟨mI (wI m Ix125), rfl, trivial, ?_⟩
          rw [e_]
          exact ⟨hP125, hF125, hl125, hi125, hb125, hv125⟩
        · skip
          refine V_ld (pc := 80) dX11_factor_80 (v := vr 30) rfl rfl ?_
          refine V_dup (pc := 81) dX11_factor_81 rfl ?_
          refine V_getIv (pc := 82) dX11_factor_82 (v := (S.2 : Int)) fw_RX11_125 rfl hL.t30 hP.2.1 (fun g82 => ?_)
          refine V_iconst (pc := 85) dX11_factor_85 (by unfold I32; omega) ?_
          refine V_iadd (pc := 86) dX11_factor_86 (by unfold I32 at *; omega) ?_
          refine V_putI (pc := 87) dX11_factor_87 fw_RX11_125 rfl hL.t30 (Or.inl rfl) (Or.inl rfl) ?_
          have hA90 : RQ (mI (setI m 30 7 ((S.2 : Int) + 1))) tx n (cAdv S) := RQ.adv hP (congrArg (fun z => z + 1) hP.2.1.symm) (RQ.lt hP (by omega))
          have ehA90 : (cAdv S).2 = S.2 + 1 := rfl
          have bhA90 := hA90.2.2.2.1
          refine V_ld (pc := 90) dX11_factor_90 (v := vr 30) rfl rfl ?_
          refine V_dup (pc := 91) dX11_factor_91 rfl ?_
          refine V_getIv (pc := 92) dX11_factor_92 (v := mI m 30 26) fw_RX11_246 rfl hL.t30 rfl (fun g92 => ?_)
          refine V_iconst (pc := 95) dX11_factor_95 (by unfold I32; omega) ?_
          refine V_iadd (pc := 96) dX11_factor_96 (by unfold I32 at *; omega) ?_
          refine V_putI (pc := 97) dX11_factor_97 fw_RX11_246 rfl hL.t30 (Or.inl rfl) (Or.inl rfl) ?_
          have hPb : RQ (mI (setI (setI m 30 7 ((S.2 : Int) + 1)) 30 26 ((mI m 30 26) + 1))) tx n (cAdv S) := RQ.fr hA90 (fun o k h_ => up2_nx (by omega))
          have hFb : QFr (mI m) (mI (setI (setI m 30 7 ((S.2 : Int) + 1)) 30 26 ((mI m 30 26) + 1))) := (QFr.set (QFr.set (QFr.rf : QFr (mI m) (mI m)) (by omega)) (by omega))
          have hEb : EOK (mI (setI (setI m 30 7 ((S.2 : Int) + 1)) 30 26 ((mI m 30 26) + 1))) := EOK.fr hE hFb hE.2.2.2.1
          have hIb : mI (setI (setI m 30 7 ((S.2 : Int) + 1)) 30 26 ((mI m 30 26) + 1)) 30 26 = mI m 30 26 + 1 := mI_sets
          refine V_ld (pc := 100) dX11_factor_100 (v := vr 30) rfl rfl ?_
          refine V_callV (pc := 101) dX11_factor_101 (F' := (7 + 3 * (k - 1))) (As := []) (st := []) cw_RX11_252 rfl rfl hL.t30 (by decide) (Nat.le_of_ble_eq_true rfl) (by omega) ((hsub (k - 1) (by omega)).2 (cAdv S) (setI (setI m 30 7 ((S.2 : Int) + 1)) 30 26 ((mI m 30 26) + 1))    (by first | assumption | omega) hPb hEb (by omega)) ?_
          rintro _ _ ⟨x101, rfl, Ix101, rfl, hx101, ⟨hP101, hF101, hl101, hi101, hb101, hv101⟩⟩ ok101 le101
          have hB101 := hP101.2.2.2.1
          refine V_st (pc := 104) dX11_factor_104 (ls' := [(1, vi x101), (0, vr 30)]) rfl (Nat.le_of_ble_eq_true rfl) rfl ?_
          refine V_ld (pc := 105) dX11_factor_105 (v := vr 30) rfl rfl ?_
          refine V_dup (pc := 106) dX11_factor_106 rfl ?_
          refine V_getIv (pc := 107) dX11_factor_107 (v := (mI m 30 26 + 1)) fw_RX11_246 rfl hL.t30 (hi101.trans hIb) (fun g107 => ?_)
          refine V_iconst (pc := 110) dX11_factor_110 (by unfold I32; omega) ?_
          refine V_isub (pc := 111) dX11_factor_111 (by unfold I32 at *; omega) ?_
          refine V_putI (pc := 112) dX11_factor_112 fw_RX11_246 rfl hL.t30 (Or.inl rfl) (Or.inl rfl) ?_
          have hP115 : RQ (mI (setI (wI (setI (setI m 30 7 ((S.2 : Int) + 1)) 30 26 ((mI m 30 26) + 1)) Ix101) 30 26 ((mI m 30 26 + 1) - 1))) tx n (eitL tx n (k - 1) (cAdv S)).2.2 := RQ.fr hP101 (fun o k h_ => up2_nx (by omega))
          refine V_ld (pc := 115) dX11_factor_115 (v := vr 30) rfl rfl ?_
          refine V_bipush (pc := 116) dX11_factor_116 (by unfold I32; omega) (by decide) ?_
          refine V_callV (pc := 118) dX11_factor_118 (F' := 1) (As := [vi 41]) (st := []) cw_RX11_146 rfl rfl hL.t30 (by decide) (Nat.le_of_ble_eq_true rfl) (by omega) (q_takes tx n ((eitL tx n (k - 1) (cAdv S)).2.2) (setI (wI (setI (setI m 30 7 ((S.2 : Int) + 1)) 30 26 ((mI m 30 26) + 1)) Ix101) 30 26 ((mI m 30 26 + 1) - 1)) 41   (by first | assumption | omega) hP115 (by decide)) ?_
          rintro _ _ ⟨rfl, Ix118, rfl, hP118, hF118⟩ ok118 le118
          have hB118 := hP118.2.2.2.1
          refine V_goto (pc := 121) dX11_factor_121 (tgt := 129) rfl ?_
          refine V_ld (pc := 129) dX11_factor_129 (v := vi x101) rfl rfl ?_
          refine V_reti (pc := 130) dX11_factor_130 (show _ = (0 : Int) ∨ _ = (1 : Int) from by first | exact Or.inl rfl | exact Or.inr rfl | omega) ?_
          have e_ : facC tx n k S = ((eitL tx n (k - 1) (cAdv S)).1, (eitL tx n (k - 1) (cAdv S)).2.1, cTake tx n (eitL tx n (k - 1) (cAdv S)).2.2 41) := by rw [facC_pos (by omega), if_neg (by omega), if_pos (by omega)]
          have hF_ : QFr (mI m) (mI (wI (setI (wI (setI (setI m 30 7 ((S.2 : Int) + 1)) 30 26 ((mI m 30 26) + 1)) Ix101) 30 26 ((mI m 30 26 + 1) - 1)) Ix118)) := QFr.tr (QFr.set (QFr.tr hFb hF101) (by omega)) (QFs.r hF118)
          have h27_ : mI (wI (setI (wI (setI (setI m 30 7 ((S.2 : Int) + 1)) 30 26 ((mI m 30 26) + 1)) Ix101) 30 26 ((mI m 30 26 + 1) - 1)) Ix118) 30 27 = Ix101 30 27 := hF118 30 27 (by omega)
          have h26_ : mI (wI (setI (wI (setI (setI m 30 7 ((S.2 : Int) + 1)) 30 26 ((mI m 30 26) + 1)) Ix101) 30 26 ((mI m 30 26 + 1) - 1)) Ix118) 30 26 = mI m 30 26 + 1 - 1 := (hF118 30 26 (by omega)).trans mI_sets
          refine ⟨mI (wI (setI (wI (setI (setI m 30 7 ((S.2 : Int) + 1)) 30 26 ((mI m 30 26) + 1)) Ix101) 30 26 ((mI m 30 26 + 1) - 1)) Ix118), rfl, trivial, ?_⟩
          rw [e_]
          refine ⟨hP118, hF_, by rw [h27_]; exact hl101, by omega, hb101, fun h0_ hw_ => ?_⟩
          have hw1_ := ((CNi.take (tx := tx) (n := n) (S := (eitL tx n (k - 1) (cAdv S)).2.2) (c := 41) (by decide)).2.1 hw_).1
          have hv_ := hv101 (by rw [hFb 30 25 (by omega)]; exact h0_) hw1_
          rw [envR_fr hFb] at hv_
          exact hv_
    · skip
      refine V_ld (pc := 17) dX11_factor_17 (v := vr 30) rfl rfl ?_
      refine V_dup (pc := 18) dX11_factor_18 rfl ?_
      refine V_getIv (pc := 19) dX11_factor_19 (v := (S.2 : Int)) fw_RX11_125 rfl hL.t30 hP.2.1 (fun g19 => ?_)
      refine V_iconst (pc := 22) dX11_factor_22 (by unfold I32; omega) ?_
      refine V_iadd (pc := 23) dX11_factor_23 (by unfold I32 at *; omega) ?_
      refine V_putI (pc := 24) dX11_factor_24 fw_RX11_125 rfl hL.t30 (Or.inl rfl) (Or.inl rfl) ?_
      have hA27 : RQ (mI (setI m 30 7 ((S.2 : Int) + 1))) tx n (cAdv S) := RQ.adv hP (congrArg (fun z => z + 1) hP.2.1.symm) (RQ.lt hP (by omega))
      have ehA27 : (cAdv S).2 = S.2 + 1 := rfl
      have bhA27 := hA27.2.2.2.1
      refine V_ld (pc := 27) dX11_factor_27 (v := vr 30) rfl rfl ?_
      refine V_dup (pc := 28) dX11_factor_28 rfl ?_
      refine V_getIv (pc := 29) dX11_factor_29 (v := mI m 30 26) fw_RX11_246 rfl hL.t30 rfl (fun g29 => ?_)
      refine V_iconst (pc := 32) dX11_factor_32 (by unfold I32; omega) ?_
      refine V_iadd (pc := 33) dX11_factor_33 (by unfold I32 at *; omega) ?_
      refine V_putI (pc := 34) dX11_factor_34 fw_RX11_246 rfl hL.t30 (Or.inl rfl) (Or.inl rfl) ?_
      have hPa : RQ (mI (setI (setI m 30 7 ((S.2 : Int) + 1)) 30 26 ((mI m 30 26) + 1))) tx n (cAdv S) := RQ.fr hA27 (fun o k h_ => up2_nx (by omega))
      have hFa : QFr (mI m) (mI (setI (setI m 30 7 ((S.2 : Int) + 1)) 30 26 ((mI m 30 26) + 1))) := (QFr.set (QFr.set (QFr.rf : QFr (mI m) (mI m)) (by omega)) (by omega))
      have hEa : EOK (mI (setI (setI m 30 7 ((S.2 : Int) + 1)) 30 26 ((mI m 30 26) + 1))) := EOK.fr hE hFa hE.2.2.2.1
      have hIa : mI (setI (setI m 30 7 ((S.2 : Int) + 1)) 30 26 ((mI m 30 26) + 1)) 30 26 = mI m 30 26 + 1 := mI_sets
      refine V_ld (pc := 37) dX11_factor_37 (v := vr 30) rfl rfl ?_
      refine V_callV (pc := 38) dX11_factor_38 (F' := (5 + 3 * (k - 1))) (As := []) (st := []) cw_RX11_249 rfl rfl hL.t30 (by decide) (Nat.le_of_ble_eq_true rfl) (by omega) ((hsub (k - 1) (by omega)).1 (cAdv S) (setI (setI m 30 7 ((S.2 : Int) + 1)) 30 26 ((mI m 30 26) + 1))    (by first | assumption | omega) hPa hEa (by omega)) ?_
      rintro _ _ ⟨x38, rfl, Ix38, rfl, hx38, ⟨hP38, hF38, hl38, hi38, hb38, hv38⟩⟩ ok38 le38
      have hB38 := hP38.2.2.2.1
      refine V_if_ne (pc := 41) dX11_factor_41 (tgt := 48) rfl (fun h41 => ?_) (fun h41 => ?_)
      · skip
        refine V_iconst (pc := 48) dX11_factor_48 (by unfold I32; omega) ?_
        skip
        refine V_st (pc := 49) dX11_factor_49 (ls' := [(1, vi 0), (0, vr 30)]) rfl (Nat.le_of_ble_eq_true rfl) rfl ?_
        refine V_ld (pc := 50) dX11_factor_50 (v := vr 30) rfl rfl ?_
        refine V_dup (pc := 51) dX11_factor_51 rfl ?_
        refine V_getIv (pc := 52) dX11_factor_52 (v := (mI m 30 26 + 1)) fw_RX11_246 rfl hL.t30 (hi38.trans hIa) (fun g52 => ?_)
        refine V_iconst (pc := 55) dX11_factor_55 (by unfold I32; omega) ?_
        refine V_isub (pc := 56) dX11_factor_56 (by unfold I32 at *; omega) ?_
        refine V_putI (pc := 57) dX11_factor_57 fw_RX11_246 rfl hL.t30 (Or.inl rfl) (Or.inl rfl) ?_
        refine V_goto (pc := 60) dX11_factor_60 (tgt := 129) rfl ?_
        refine V_ld (pc := 129) dX11_factor_129 (v := vi 0) rfl rfl ?_
        refine V_reti (pc := 130) dX11_factor_130 (show _ = (0 : Int) ∨ _ = (1 : Int) from by first | exact Or.inl rfl | exact Or.inr rfl | omega) ?_
        have e_ : facC tx n k S = ((facC tx n (k - 1) (cAdv S)).1 ++ [33], (fun e => !((facC tx n (k - 1) (cAdv S)).2.1 e)), (facC tx n (k - 1) (cAdv S)).2.2) := by rw [facC_pos (by omega), if_pos (by omega)]
        refine ⟨mI (setI (wI (setI (setI m 30 7 ((S.2 : Int) + 1)) 30 26 ((mI m 30 26) + 1)) Ix38) 30 26 ((mI m 30 26 + 1) - 1)), rfl, trivial, ?_⟩
        rw [e_]
        refine ⟨RQ.fr hP38 (fun o k h_ => up2_nx (by omega)), QFr.set (QFr.tr hFa hF38) (by omega), hl38, (mI_sets).trans (by omega), by omega, fun h0_ hw_ => ?_⟩
        have hv_ := hv38 (by rw [hFa 30 25 (by omega)]; exact h0_) hw_
        rw [envR_fr hFa] at hv_
        show (0 : Int) = bI (!((facC tx n (k - 1) (cAdv S)).2.1 (envR (mI m))))
        rw [bI_not, ← hv_]
        omega
      · skip
        refine V_iconst (pc := 44) dX11_factor_44 (by unfold I32; omega) ?_
        refine V_goto (pc := 45) dX11_factor_45 (tgt := 49) rfl ?_
        skip
        refine V_st (pc := 49) dX11_factor_49 (ls' := [(1, vi 1), (0, vr 30)]) rfl (Nat.le_of_ble_eq_true rfl) rfl ?_
        refine V_ld (pc := 50) dX11_factor_50 (v := vr 30) rfl rfl ?_
        refine V_dup (pc := 51) dX11_factor_51 rfl ?_
        refine V_getIv (pc := 52) dX11_factor_52 (v := (mI m 30 26 + 1)) fw_RX11_246 rfl hL.t30 (hi38.trans hIa) (fun g52 => ?_)
        refine V_iconst (pc := 55) dX11_factor_55 (by unfold I32; omega) ?_
        refine V_isub (pc := 56) dX11_factor_56 (by unfold I32 at *; omega) ?_
        refine V_putI (pc := 57) dX11_factor_57 fw_RX11_246 rfl hL.t30 (Or.inl rfl) (Or.inl rfl) ?_
        refine V_goto (pc := 60) dX11_factor_60 (tgt := 129) rfl ?_
        refine V_ld (pc := 129) dX11_factor_129 (v := vi 1) rfl rfl ?_
        refine V_reti (pc := 130) dX11_factor_130 (show _ = (0 : Int) ∨ _ = (1 : Int) from by first | exact Or.inl rfl | exact Or.inr rfl | omega) ?_
        have e_ : facC tx n k S = ((facC tx n (k - 1) (cAdv S)).1 ++ [33], (fun e => !((facC tx n (k - 1) (cAdv S)).2.1 e)), (facC tx n (k - 1) (cAdv S)).2.2) := by rw [facC_pos (by omega), if_pos (by omega)]
        refine ⟨mI (setI (wI (setI (setI m 30 7 ((S.2 : Int) + 1)) 30 26 ((mI m 30 26) + 1)) Ix38) 30 26 ((mI m 30 26 + 1) - 1)), rfl, trivial, ?_⟩
        rw [e_]
        refine ⟨RQ.fr hP38 (fun o k h_ => up2_nx (by omega)), QFr.set (QFr.tr hFa hF38) (by omega), hl38, (mI_sets).trans (by omega), by omega, fun h0_ hw_ => ?_⟩
        have hv_ := hv38 (by rw [hFa 30 25 (by omega)]; exact h0_) hw_
        rw [envR_fr hFa] at hv_
        show (1 : Int) = bI (!((facC tx n (k - 1) (cAdv S)).2.1 (envR (mI m))))
        rw [bI_not, ← hv_]
        omega
