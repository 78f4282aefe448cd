/-! the class reads conditions: operands, tests, the levels -/
theorem opS_xy {tx : Nat → Int} {n : Nat} {S : CS} (h : ccS tx n S = 120 ∨ ccS tx n S = 121) : (opS tx n S).1 = opc 120 (cCol tx n S).1 ∧ (opS tx n S).2.2 = (cCol tx n S).2 := by
  have e : opK tx n S = (120, cCol tx n S) := if_pos h
  unfold opS
  rw [e]
  exact ⟨rfl, rfl⟩
theorem opS_pn {tx : Nat → Int} {n : Nat} {S : CS} (h : ccS tx n S = 112 ∨ ccS tx n S = 110) : (opS tx n S).1 = opc (ccS tx n S) (cCol tx n (cAdv S)).1 ∧ (opS tx n S).2.2 = (cCol tx n (cAdv S)).2 := by
  have e : opK tx n S = (ccS tx n S, cCol tx n (cAdv S)) := (if_neg (by omega)).trans (if_pos h)
  unfold opS
  rw [e]
  exact ⟨rfl, rfl⟩
theorem opS_c {tx : Nat → Int} {n : Nat} {S : CS} (h : ccS tx n S = 99) (h2 : 65 ≤ ccS tx n (cAdv S) ∧ ccS tx n (cAdv S) ≤ 90) : (opS tx n S).1 = opc 99 (2 * (ccS tx n (cAdv S) - 65)) ∧ (opS tx n S).2.2 = cAdv (cAdv S) := by
  have e : opK tx n S = (99, 2 * (ccS tx n (cAdv S) - 65), cAdv (cAdv S)) := (if_neg (by omega)).trans ((if_neg (by omega)).trans ((if_pos (by omega)).trans ((if_pos h2).trans (if_pos h))))
  unfold opS
  rw [e]
  exact ⟨rfl, rfl⟩
theorem opS_l {tx : Nat → Int} {n : Nat} {S : CS} (h : ccS tx n S = 102 ∨ ccS tx n S = 108 ∨ ccS tx n S = 115) (h2 : 65 ≤ ccS tx n (cAdv S) ∧ ccS tx n (cAdv S) ≤ 90) : (opS tx n S).1 = opc (ccS tx n S) (2 * (ccS tx n (cAdv S) - 65) + (cCol tx n (cAdv (cAdv S))).1) ∧ (opS tx n S).2.2 = (cCol tx n (cAdv (cAdv S))).2 := by
  have e : opK tx n S = (ccS tx n S, 2 * (ccS tx n (cAdv S) - 65) + (cCol tx n (cAdv (cAdv S))).1, (cCol tx n (cAdv (cAdv S))).2) := (if_neg (by omega)).trans ((if_neg (by omega)).trans ((if_pos (by omega)).trans ((if_pos h2).trans (if_neg (by omega)))))
  unfold opS
  rw [e]
  exact ⟨rfl, rfl⟩
theorem opS_b {tx : Nat → Int} {n : Nat} {S : CS} (h : ccS tx n S = 102 ∨ ccS tx n S = 108 ∨ ccS tx n S = 115 ∨ ccS tx n S = 99) (h2 : ¬ (65 ≤ ccS tx n (cAdv S) ∧ ccS tx n (cAdv S) ≤ 90)) : (opS tx n S).2.2 = cBad (cAdv S) := by
  have e : opK tx n S = (0, 0, cBad (cAdv S)) := (if_neg (by omega)).trans ((if_neg (by omega)).trans ((if_pos h).trans (if_neg h2)))
  unfold opS
  rw [e]
theorem opS_dead {tx : Nat → Int} {n : Nat} {S : CS} (h : S.1 = false) : (opS tx n S).2.2 = S := (opS_ni tx n S).2.2 h
theorem tst_b1 {tx : Nat → Int} {n : Nat} {S : CS} (h : (opS tx n S).2.2.1 = false) : (tstS tx n S).2.2 = (opS tx n S).2.2 := by
  have hs := sgn_v tx n (opS tx n S).2.2
  have e : cTake tx n (opS tx n S).2.2 (sgn tx n (opS tx n S).2.2) = (opS tx n S).2.2 := ctake_dead (by rcases hs with h | h | h <;> rw [h] <;> decide) h
  show (opS tx n (cTake tx n (opS tx n S).2.2 (sgn tx n (opS tx n S).2.2))).2.2 = _
  rw [e, opS_dead h]
theorem tst_b2 {tx : Nat → Int} {n : Nat} {S : CS} (h : ccS tx n (opS tx n S).2.2 ≠ 60 ∧ ccS tx n (opS tx n S).2.2 ≠ 61 ∧ ccS tx n (opS tx n S).2.2 ≠ 62) : (tstS tx n S).2.2 = cBad (opS tx n S).2.2 := by
  have e1 : sgn tx n (opS tx n S).2.2 = 61 := (if_neg h.1).trans (if_neg h.2.2)
  have e : cTake tx n (opS tx n S).2.2 (sgn tx n (opS tx n S).2.2) = cBad (opS tx n S).2.2 := by
    rw [e1]; exact if_neg h.2.1
  show (opS tx n (cTake tx n (opS tx n S).2.2 (sgn tx n (opS tx n S).2.2))).2.2 = _
  rw [e, opS_dead rfl]
theorem tst_b0 {tx : Nat → Int} {n : Nat} {S : CS} (h : ccS tx n S = 33 ∨ ccS tx n S = 40) : (tstS tx n S).2.2 = cBad S := by
  have e := opS_num (tx := tx) (n := n) (S := S) (by omega) (by omega)
  have e2 : num3 tx n S = (0, cBad S) := n30 (by unfold cDg; omega)
  rw [e2] at e
  rw [tst_b1 (by rw [e.2]; rfl), e.2]
theorem tst_ok {tx : Nat → Int} {n : Nat} {S : CS} {c : Int} (h : ccS tx n (opS tx n S).2.2 = c) (hc : c = 60 ∨ c = 61 ∨ c = 62) : tstS tx n S = ([c, (opS tx n S).1, (opS tx n (cAdv (opS tx n S).2.2)).1], (tstS tx n S).2.1, (opS tx n (cAdv (opS tx n S).2.2)).2.2) := by
  have e1 : sgn tx n (opS tx n S).2.2 = c := by
    unfold sgn
    rw [h]
    rcases hc with rfl | rfl | rfl
    · rw [if_pos rfl]
    · rw [if_neg (by decide), if_neg (by decide)]
    · rw [if_neg (by decide), if_pos rfl]
  have e : cTake tx n (opS tx n S).2.2 (sgn tx n (opS tx n S).2.2) = cAdv (opS tx n S).2.2 := by
    rw [e1]; exact if_pos h
  have e2 : (tstS tx n S).1 = [c, (opS tx n S).1, (opS tx n (cAdv (opS tx n S).2.2)).1] := by
    show [sgn tx n (opS tx n S).2.2, (opS tx n S).1, (opS tx n (cTake tx n (opS tx n S).2.2 (sgn tx n (opS tx n S).2.2))).1] = _
    rw [e, e1]
  have e3 : (tstS tx n S).2.2 = (opS tx n (cAdv (opS tx n S).2.2)).2.2 := by
    show (opS tx n (cTake tx n (opS tx n S).2.2 (sgn tx n (opS tx n S).2.2))).2.2 = _
    rw [e]
  rw [← e2, ← e3]

theorem DOut.b {I : Nat → Nat → Int} {r : Nat} {tx : Nat → Int} {n : Nat} {S : CS} {C : List Int} {x : Int} (h : DOut I r tx n S C x) : x = 0 ∨ x = 1 := by
  rcases h with h_ | h_
  · exact Or.inr h_.2.1
  · exact Or.inl h_.2.1

set_option maxHeartbeats 8000000 in
theorem d_operand (tx : Nat → Int) (n : Nat) (S : CS) (C : List Int) (m : Mem) (r : Nat)   (hL : Lay (mT m) (mR m)) (hQ : QLay m r n) (hP : DQ (mI m) r tx n S C) (hlt : C.length < n) : Ct μX1_operand 3 [vr r] m (ri fun x_ m' => ∃ I_ : Nat → Nat → Int, wI m I_ = m' ∧ (DFr r (mI m) I_) ∧ DOut I_ r tx n ((opS tx n S).2.2) (C ++ [(opS tx n S).1]) x_) := by
  refine Ct_of_V rfl (by decide) rfl (Nat.le_of_ble_eq_true rfl) ?_
  show V μX1_operand 3 m _ 0 [(0, vr r)] [] m
  have hn120 := hP.2.2.2.2.2.1
  have hb0 := hP.2.2.2.2.1
  obtain ⟨hr59, hq120⟩ := hQ.1
  refine V_ld (pc := 0) dX1_operand_0 (v := vr r) rfl rfl ?_
  refine V_getRv (pc := 1) dX1_operand_1 (o' := 13) fw_RX1_21 rfl hQ.2.1 hQ.2.2.1 ?_
  refine V_ld (pc := 4) dX1_operand_4 (v := vr r) rfl rfl ?_
  refine V_getIv (pc := 5) dX1_operand_5 (v := (S.2 : Int)) fw_RX1_34 rfl hQ.2.1 hP.2.1 (fun g5 => ?_)
  refine V_callV (pc := 8) dX1_operand_8 (F' := 0) (As := [vi (S.2 : Int)]) (st := []) cw_RX1_37 rfl rfl hL.t13 (by decide) (Nat.le_of_ble_eq_true rfl) (by omega) (c_Text_at  m 13 (S.2 : Int) 14  hL.t13 hL.r13_0 hL.t14) ?_
  rintro _ _ ⟨x8, rfl, hx8, rfl⟩ ok8 le8
  obtain ⟨cr8, cr80, cr81, cr82⟩ := DQ.at hP rfl hx8
  refine V_st (pc := 11) dX1_operand_11 (ls' := [(1, vi x8), (0, vr r)]) rfl (Nat.le_of_ble_eq_true rfl) rfl ?_
  refine V_ld (pc := 12) dX1_operand_12 (v := vi x8) rfl rfl ?_
  refine V_bipush (pc := 13) dX1_operand_13 (by unfold I32; omega) (by decide) ?_
  refine V_icmp_eq (pc := 15) dX1_operand_15 (tgt := 24) rfl (fun h15 => ?_) (fun h15 => ?_)
  · skip
    refine V_iconst (pc := 24) dX1_operand_24 (by unfold I32; omega) ?_
    refine V_goto (pc := 25) dX1_operand_25 (tgt := 29) rfl ?_
    refine V_st (pc := 29) dX1_operand_29 (ls' := [(2, vi 1), (1, vi x8), (0, vr r)]) rfl (Nat.le_of_ble_eq_true rfl) rfl ?_
    refine V_ld (pc := 30) dX1_operand_30 (v := vi x8) rfl rfl ?_
    refine V_bipush (pc := 31) dX1_operand_31 (by unfold I32; omega) (by decide) ?_
    refine V_icmp_eq (pc := 33) dX1_operand_33 (tgt := 42) rfl (fun h33 => ?_) (fun h33 => ?_)
    · skip
      refine V_iconst (pc := 42) dX1_operand_42 (by unfold I32; omega) ?_
      refine V_goto (pc := 43) dX1_operand_43 (tgt := 47) rfl ?_
      refine V_st (pc := 47) dX1_operand_47 (ls' := [(3, vi 1), (2, vi 1), (1, vi x8), (0, vr r)]) rfl (Nat.le_of_ble_eq_true rfl) rfl ?_
      refine V_ld (pc := 48) dX1_operand_48 (v := vi x8) rfl rfl ?_
      refine V_bipush (pc := 49) dX1_operand_49 (by unfold I32; omega) (by decide) ?_
      refine V_icmp_eq (pc := 51) dX1_operand_51 (tgt := 72) rfl (fun h51 => ?_) (fun h51 => ?_)
      · skip
        refine V_iconst (pc := 72) dX1_operand_72 (by unfold I32; omega) ?_
        refine V_goto (pc := 73) dX1_operand_73 (tgt := 77) rfl ?_
        refine V_st (pc := 77) dX1_operand_77 (ls' := [(4, vi 1), (3, vi 1), (2, vi 1), (1, vi x8), (0, vr r)]) rfl (Nat.le_of_ble_eq_true rfl) rfl ?_
        refine V_ld (pc := 79) dX1_operand_79 (v := vi 1) rfl rfl ?_
        refine V_if_eq (pc := 80) dX1_operand_80 (tgt := 91) rfl (fun h_ => absurd h_ (by decide)) (fun _ => ?_)
        refine V_ld (pc := 83) dX1_operand_83 (v := vr r) rfl rfl ?_
        refine V_bipush (pc := 84) dX1_operand_84 (by unfold I32; omega) (by decide) ?_
        refine V_iconst (pc := 86) dX1_operand_86 (by unfold I32; omega) ?_
        refine V_callV (pc := 87) dX1_operand_87 (F' := 2) (As := [vi 120, vi 0]) (st := []) cw_RX1_90 rfl rfl hQ.2.1 (by decide) (Nat.le_of_ble_eq_true rfl) (by omega) (d_column tx n S C m r 120 0   (by first | assumption | omega) hQ hP (by omega)) ?_
        rintro _ _ ⟨x87, rfl, Ix87, rfl, hx87, hO87⟩ ok87 le87
        have hz87 := DOut.b hO87
        refine V_reti (pc := 90) dX1_operand_90 (show _ = (0 : Int) ∨ _ = (1 : Int) from by first | exact Or.inl rfl | exact Or.inr rfl | omega) ?_
        first
          | (exfalso; omega)
          | (have oo_ := opS_xy (tx := tx) (n := n) (S := S) (by omega)
             have h0_ : 2 * 0 + (cCol tx n S).1 = (cCol tx n S).1 := by omega
             rw [h0_] at hO87
             refine ⟨mI (wI m Ix87), rfl, (DFr.tr DFr.rf hx87), ?_⟩
             rw [oo_.1, oo_.2]
             exact hO87)
      · skip
        refine V_ld (pc := 54) dX1_operand_54 (v := vi x8) rfl rfl ?_
        refine V_bipush (pc := 55) dX1_operand_55 (by unfold I32; omega) (by decide) ?_
        refine V_icmp_eq (pc := 57) dX1_operand_57 (tgt := 72) rfl (fun h57 => ?_) (fun h57 => ?_)
        · skip
          refine V_iconst (pc := 72) dX1_operand_72 (by unfold I32; omega) ?_
          refine V_goto (pc := 73) dX1_operand_73 (tgt := 77) rfl ?_
          refine V_st (pc := 77) dX1_operand_77 (ls' := [(4, vi 1), (3, vi 1), (2, vi 1), (1, vi x8), (0, vr r)]) rfl (Nat.le_of_ble_eq_true rfl) rfl ?_
          refine V_ld (pc := 79) dX1_operand_79 (v := vi 1) rfl rfl ?_
          refine V_if_eq (pc := 80) dX1_operand_80 (tgt := 91) rfl (fun h_ => absurd h_ (by decide)) (fun _ => ?_)
          refine V_ld (pc := 83) dX1_operand_83 (v := vr r) rfl rfl ?_
          refine V_bipush (pc := 84) dX1_operand_84 (by unfold I32; omega) (by decide) ?_
          refine V_iconst (pc := 86) dX1_operand_86 (by unfold I32; omega) ?_
          refine V_callV (pc := 87) dX1_operand_87 (F' := 2) (As := [vi 120, vi 0]) (st := []) cw_RX1_90 rfl rfl hQ.2.1 (by decide) (Nat.le_of_ble_eq_true rfl) (by omega) (d_column tx n S C m r 120 0   (by first | assumption | omega) hQ hP (by omega)) ?_
          rintro _ _ ⟨x87, rfl, Ix87, rfl, hx87, hO87⟩ ok87 le87
          have hz87 := DOut.b hO87
          refine V_reti (pc := 90) dX1_operand_90 (show _ = (0 : Int) ∨ _ = (1 : Int) from by first | exact Or.inl rfl | exact Or.inr rfl | omega) ?_
          first
            | (exfalso; omega)
            | (have oo_ := opS_xy (tx := tx) (n := n) (S := S) (by omega)
               have h0_ : 2 * 0 + (cCol tx n S).1 = (cCol tx n S).1 := by omega
               rw [h0_] at hO87
               refine ⟨mI (wI m Ix87), rfl, (DFr.tr DFr.rf hx87), ?_⟩
               rw [oo_.1, oo_.2]
               exact hO87)
        · skip
          refine V_ld (pc := 60) dX1_operand_60 (v := vi x8) rfl rfl ?_
          refine V_bipush (pc := 61) dX1_operand_61 (by unfold I32; omega) (by decide) ?_
          refine V_icmp_eq (pc := 63) dX1_operand_63 (tgt := 72) rfl (fun h63 => ?_) (fun h63 => ?_)
          · skip
            refine V_iconst (pc := 72) dX1_operand_72 (by unfold I32; omega) ?_
            refine V_goto (pc := 73) dX1_operand_73 (tgt := 77) rfl ?_
            refine V_st (pc := 77) dX1_operand_77 (ls' := [(4, vi 1), (3, vi 1), (2, vi 1), (1, vi x8), (0, vr r)]) rfl (Nat.le_of_ble_eq_true rfl) rfl ?_
            refine V_ld (pc := 79) dX1_operand_79 (v := vi 1) rfl rfl ?_
            refine V_if_eq (pc := 80) dX1_operand_80 (tgt := 91) rfl (fun h_ => absurd h_ (by decide)) (fun _ => ?_)
            refine V_ld (pc := 83) dX1_operand_83 (v := vr r) rfl rfl ?_
            refine V_bipush (pc := 84) dX1_operand_84 (by unfold I32; omega) (by decide) ?_
            refine V_iconst (pc := 86) dX1_operand_86 (by unfold I32; omega) ?_
            refine V_callV (pc := 87) dX1_operand_87 (F' := 2) (As := [vi 120, vi 0]) (st := []) cw_RX1_90 rfl rfl hQ.2.1 (by decide) (Nat.le_of_ble_eq_true rfl) (by omega) (d_column tx n S C m r 120 0   (by first | assumption | omega) hQ hP (by omega)) ?_
            rintro _ _ ⟨x87, rfl, Ix87, rfl, hx87, hO87⟩ ok87 le87
            have hz87 := DOut.b hO87
            refine V_reti (pc := 90) dX1_operand_90 (show _ = (0 : Int) ∨ _ = (1 : Int) from by first | exact Or.inl rfl | exact Or.inr rfl | omega) ?_
            first
              | (exfalso; omega)
              | (have oo_ := opS_xy (tx := tx) (n := n) (S := S) (by omega)
                 have h0_ : 2 * 0 + (cCol tx n S).1 = (cCol tx n S).1 := by omega
                 rw [h0_] at hO87
                 refine ⟨mI (wI m Ix87), rfl, (DFr.tr DFr.rf hx87), ?_⟩
                 rw [oo_.1, oo_.2]
                 exact hO87)
          · skip
            refine V_ld (pc := 66) dX1_operand_66 (v := vi x8) rfl rfl ?_
            refine V_bipush (pc := 67) dX1_operand_67 (by unfold I32; omega) (by decide) ?_
            refine V_icmp_ne (pc := 69) dX1_operand_69 (tgt := 76) rfl (fun h69 => ?_) (fun h69 => ?_)
            · skip
              refine V_iconst (pc := 76) dX1_operand_76 (by unfold I32; omega) ?_
              refine V_st (pc := 77) dX1_operand_77 (ls' := [(4, vi 0), (3, vi 1), (2, vi 1), (1, vi x8), (0, vr r)]) rfl (Nat.le_of_ble_eq_true rfl) rfl ?_
              refine V_ld (pc := 79) dX1_operand_79 (v := vi 1) rfl rfl ?_
              refine V_if_eq (pc := 80) dX1_operand_80 (tgt := 91) rfl (fun h_ => absurd h_ (by decide)) (fun _ => ?_)
              refine V_ld (pc := 83) dX1_operand_83 (v := vr r) rfl rfl ?_
              refine V_bipush (pc := 84) dX1_operand_84 (by unfold I32; omega) (by decide) ?_
              refine V_iconst (pc := 86) dX1_operand_86 (by unfold I32; omega) ?_
              refine V_callV (pc := 87) dX1_operand_87 (F' := 2) (As := [vi 120, vi 0]) (st := []) cw_RX1_90 rfl rfl hQ.2.1 (by decide) (Nat.le_of_ble_eq_true rfl) (by omega) (d_column tx n S C m r 120 0   (by first | assumption | omega) hQ hP (by omega)) ?_
              rintro _ _ ⟨x87, rfl, Ix87, rfl, hx87, hO87⟩ ok87 le87
              have hz87 := DOut.b hO87
              refine V_reti (pc := 90) dX1_operand_90 (show _ = (0 : Int) ∨ _ = (1 : Int) from by first | exact Or.inl rfl | exact Or.inr rfl | omega) ?_
              first
                | (exfalso; omega)
                | (have oo_ := opS_xy (tx := tx) (n := n) (S := S) (by omega)
                   have h0_ : 2 * 0 + (cCol tx n S).1 = (cCol tx n S).1 := by omega
                   rw [h0_] at hO87
                   refine ⟨mI (wI m Ix87), rfl, (DFr.tr DFr.rf hx87), ?_⟩
                   rw [oo_.1, oo_.2]
                   exact hO87)
            · skip
              refine V_iconst (pc := 72) dX1_operand_72 (by unfold I32; omega) ?_
              refine V_goto (pc := 73) dX1_operand_73 (tgt := 77) rfl ?_
              refine V_st (pc := 77) dX1_operand_77 (ls' := [(4, vi 1), (3, vi 1), (2, vi 1), (1, vi x8), (0, vr r)]) rfl (Nat.le_of_ble_eq_true rfl) rfl ?_
              refine V_ld (pc := 79) dX1_operand_79 (v := vi 1) rfl rfl ?_
              refine V_if_eq (pc := 80) dX1_operand_80 (tgt := 91) rfl (fun h_ => absurd h_ (by decide)) (fun _ => ?_)
              refine V_ld (pc := 83) dX1_operand_83 (v := vr r) rfl rfl ?_
              refine V_bipush (pc := 84) dX1_operand_84 (by unfold I32; omega) (by decide) ?_
              refine V_iconst (pc := 86) dX1_operand_86 (by unfold I32; omega) ?_
              refine V_callV (pc := 87) dX1_operand_87 (F' := 2) (As := [vi 120, vi 0]) (st := []) cw_RX1_90 rfl rfl hQ.2.1 (by decide) (Nat.le_of_ble_eq_true rfl) (by omega) (d_column tx n S C m r 120 0   (by first | assumption | omega) hQ hP (by omega)) ?_
              rintro _ _ ⟨x87, rfl, Ix87, rfl, hx87, hO87⟩ ok87 le87
              have hz87 := DOut.b hO87
              refine V_reti (pc := 90) dX1_operand_90 (show _ = (0 : Int) ∨ _ = (1 : Int) from by first | exact Or.inl rfl | exact Or.inr rfl | omega) ?_
              first
                | (exfalso; omega)
                | (have oo_ := opS_xy (tx := tx) (n := n) (S := S) (by omega)
                   have h0_ : 2 * 0 + (cCol tx n S).1 = (cCol tx n S).1 := by omega
                   rw [h0_] at hO87
                   refine ⟨mI (wI m Ix87), rfl, (DFr.tr DFr.rf hx87), ?_⟩
                   rw [oo_.1, oo_.2]
                   exact hO87)
    · skip
      refine V_ld (pc := 36) dX1_operand_36 (v := vi x8) rfl rfl ?_
      refine V_bipush (pc := 37) dX1_operand_37 (by unfold I32; omega) (by decide) ?_
      refine V_icmp_ne (pc := 39) dX1_operand_39 (tgt := 46) rfl (fun h39 => ?_) (fun h39 => ?_)
      · skip
        refine V_iconst (pc := 46) dX1_operand_46 (by unfold I32; omega) ?_
        refine V_st (pc := 47) dX1_operand_47 (ls' := [(3, vi 0), (2, vi 1), (1, vi x8), (0, vr r)]) rfl (Nat.le_of_ble_eq_true rfl) rfl ?_
        refine V_ld (pc := 48) dX1_operand_48 (v := vi x8) rfl rfl ?_
        refine V_bipush (pc := 49) dX1_operand_49 (by unfold I32; omega) (by decide) ?_
        refine V_icmp_eq (pc := 51) dX1_operand_51 (tgt := 72) rfl (fun h51 => ?_) (fun h51 => ?_)
        · skip
          refine V_iconst (pc := 72) dX1_operand_72 (by unfold I32; omega) ?_
          refine V_goto (pc := 73) dX1_operand_73 (tgt := 77) rfl ?_
          refine V_st (pc := 77) dX1_operand_77 (ls' := [(4, vi 1), (3, vi 0), (2, vi 1), (1, vi x8), (0, vr r)]) rfl (Nat.le_of_ble_eq_true rfl) rfl ?_
          refine V_ld (pc := 79) dX1_operand_79 (v := vi 1) rfl rfl ?_
          refine V_if_eq (pc := 80) dX1_operand_80 (tgt := 91) rfl (fun h_ => absurd h_ (by decide)) (fun _ => ?_)
          refine V_ld (pc := 83) dX1_operand_83 (v := vr r) rfl rfl ?_
          refine V_bipush (pc := 84) dX1_operand_84 (by unfold I32; omega) (by decide) ?_
          refine V_iconst (pc := 86) dX1_operand_86 (by unfold I32; omega) ?_
          refine V_callV (pc := 87) dX1_operand_87 (F' := 2) (As := [vi 120, vi 0]) (st := []) cw_RX1_90 rfl rfl hQ.2.1 (by decide) (Nat.le_of_ble_eq_true rfl) (by omega) (d_column tx n S C m r 120 0   (by first | assumption | omega) hQ hP (by omega)) ?_
          rintro _ _ ⟨x87, rfl, Ix87, rfl, hx87, hO87⟩ ok87 le87
          have hz87 := DOut.b hO87
          refine V_reti (pc := 90) dX1_operand_90 (show _ = (0 : Int) ∨ _ = (1 : Int) from by first | exact Or.inl rfl | exact Or.inr rfl | omega) ?_
          first
            | (exfalso; omega)
            | (have oo_ := opS_xy (tx := tx) (n := n) (S := S) (by omega)
               have h0_ : 2 * 0 + (cCol tx n S).1 = (cCol tx n S).1 := by omega
               rw [h0_] at hO87
               refine ⟨mI (wI m Ix87), rfl, (DFr.tr DFr.rf hx87), ?_⟩
               rw [oo_.1, oo_.2]
               exact hO87)
        · skip
          refine V_ld (pc := 54) dX1_operand_54 (v := vi x8) rfl rfl ?_
          refine V_bipush (pc := 55) dX1_operand_55 (by unfold I32; omega) (by decide) ?_
          refine V_icmp_eq (pc := 57) dX1_operand_57 (tgt := 72) rfl (fun h57 => ?_) (fun h57 => ?_)
          · skip
            refine V_iconst (pc := 72) dX1_operand_72 (by unfold I32; omega) ?_
            refine V_goto (pc := 73) dX1_operand_73 (tgt := 77) rfl ?_
            refine V_st (pc := 77) dX1_operand_77 (ls' := [(4, vi 1), (3, vi 0), (2, vi 1), (1, vi x8), (0, vr r)]) rfl (Nat.le_of_ble_eq_true rfl) rfl ?_
            refine V_ld (pc := 79) dX1_operand_79 (v := vi 1) rfl rfl ?_
            refine V_if_eq (pc := 80) dX1_operand_80 (tgt := 91) rfl (fun h_ => absurd h_ (by decide)) (fun _ => ?_)
            refine V_ld (pc := 83) dX1_operand_83 (v := vr r) rfl rfl ?_
            refine V_bipush (pc := 84) dX1_operand_84 (by unfold I32; omega) (by decide) ?_
            refine V_iconst (pc := 86) dX1_operand_86 (by unfold I32; omega) ?_
            refine V_callV (pc := 87) dX1_operand_87 (F' := 2) (As := [vi 120, vi 0]) (st := []) cw_RX1_90 rfl rfl hQ.2.1 (by decide) (Nat.le_of_ble_eq_true rfl) (by omega) (d_column tx n S C m r 120 0   (by first | assumption | omega) hQ hP (by omega)) ?_
            rintro _ _ ⟨x87, rfl, Ix87, rfl, hx87, hO87⟩ ok87 le87
            have hz87 := DOut.b hO87
            refine V_reti (pc := 90) dX1_operand_90 (show _ = (0 : Int) ∨ _ = (1 : Int) from by first | exact Or.inl rfl | exact Or.inr rfl | omega) ?_
            first
              | (exfalso; omega)
              | (have oo_ := opS_xy (tx := tx) (n := n) (S := S) (by omega)
                 have h0_ : 2 * 0 + (cCol tx n S).1 = (cCol tx n S).1 := by omega
                 rw [h0_] at hO87
                 refine ⟨mI (wI m Ix87), rfl, (DFr.tr DFr.rf hx87), ?_⟩
                 rw [oo_.1, oo_.2]
                 exact hO87)
          · skip
            refine V_ld (pc := 60) dX1_operand_60 (v := vi x8) rfl rfl ?_
            refine V_bipush (pc := 61) dX1_operand_61 (by unfold I32; omega) (by decide) ?_
            refine V_icmp_eq (pc := 63) dX1_operand_63 (tgt := 72) rfl (fun h63 => ?_) (fun h63 => ?_)
            · skip
              refine V_iconst (pc := 72) dX1_operand_72 (by unfold I32; omega) ?_
              refine V_goto (pc := 73) dX1_operand_73 (tgt := 77) rfl ?_
              refine V_st (pc := 77) dX1_operand_77 (ls' := [(4, vi 1), (3, vi 0), (2, vi 1), (1, vi x8), (0, vr r)]) rfl (Nat.le_of_ble_eq_true rfl) rfl ?_
              refine V_ld (pc := 79) dX1_operand_79 (v := vi 1) rfl rfl ?_
              refine V_if_eq (pc := 80) dX1_operand_80 (tgt := 91) rfl (fun h_ => absurd h_ (by decide)) (fun _ => ?_)
              refine V_ld (pc := 83) dX1_operand_83 (v := vr r) rfl rfl ?_
              refine V_bipush (pc := 84) dX1_operand_84 (by unfold I32; omega) (by decide) ?_
              refine V_iconst (pc := 86) dX1_operand_86 (by unfold I32; omega) ?_
              refine V_callV (pc := 87) dX1_operand_87 (F' := 2) (As := [vi 120, vi 0]) (st := []) cw_RX1_90 rfl rfl hQ.2.1 (by decide) (Nat.le_of_ble_eq_true rfl) (by omega) (d_column tx n S C m r 120 0   (by first | assumption | omega) hQ hP (by omega)) ?_
              rintro _ _ ⟨x87, rfl, Ix87, rfl, hx87, hO87⟩ ok87 le87
              have hz87 := DOut.b hO87
              refine V_reti (pc := 90) dX1_operand_90 (show _ = (0 : Int) ∨ _ = (1 : Int) from by first | exact Or.inl rfl | exact Or.inr rfl | omega) ?_
              first
                | (exfalso; omega)
                | (have oo_ := opS_xy (tx := tx) (n := n) (S := S) (by omega)
                   have h0_ : 2 * 0 + (cCol tx n S).1 = (cCol tx n S).1 := by omega
                   rw [h0_] at hO87
                   refine ⟨mI (wI m Ix87), rfl, (DFr.tr DFr.rf hx87), ?_⟩
                   rw [oo_.1, oo_.2]
                   exact hO87)
            · skip
              refine V_ld (pc := 66) dX1_operand_66 (v := vi x8) rfl rfl ?_
              refine V_bipush (pc := 67) dX1_operand_67 (by unfold I32; omega) (by decide) ?_
              refine V_icmp_ne (pc := 69) dX1_operand_69 (tgt := 76) rfl (fun h69 => ?_) (fun h69 => ?_)
              · skip
                refine V_iconst (pc := 76) dX1_operand_76 (by unfold I32; omega) ?_
                refine V_st (pc := 77) dX1_operand_77 (ls' := [(4, vi 0), (3, vi 0), (2, vi 1), (1, vi x8), (0, vr r)]) rfl (Nat.le_of_ble_eq_true rfl) rfl ?_
                refine V_ld (pc := 79) dX1_operand_79 (v := vi 1) rfl rfl ?_
                refine V_if_eq (pc := 80) dX1_operand_80 (tgt := 91) rfl (fun h_ => absurd h_ (by decide)) (fun _ => ?_)
                refine V_ld (pc := 83) dX1_operand_83 (v := vr r) rfl rfl ?_
                refine V_bipush (pc := 84) dX1_operand_84 (by unfold I32; omega) (by decide) ?_
                refine V_iconst (pc := 86) dX1_operand_86 (by unfold I32; omega) ?_
                refine V_callV (pc := 87) dX1_operand_87 (F' := 2) (As := [vi 120, vi 0]) (st := []) cw_RX1_90 rfl rfl hQ.2.1 (by decide) (Nat.le_of_ble_eq_true rfl) (by omega) (d_column tx n S C m r 120 0   (by first | assumption | omega) hQ hP (by omega)) ?_
                rintro _ _ ⟨x87, rfl, Ix87, rfl, hx87, hO87⟩ ok87 le87
                have hz87 := DOut.b hO87
                refine V_reti (pc := 90) dX1_operand_90 (show _ = (0 : Int) ∨ _ = (1 : Int) from by first | exact Or.inl rfl | exact Or.inr rfl | omega) ?_
                first
                  | (exfalso; omega)
                  | (have oo_ := opS_xy (tx := tx) (n := n) (S := S) (by omega)
                     have h0_ : 2 * 0 + (cCol tx n S).1 = (cCol tx n S).1 := by omega
                     rw [h0_] at hO87
                     refine ⟨mI (wI m Ix87), rfl, (DFr.tr DFr.rf hx87), ?_⟩
                     rw [oo_.1, oo_.2]
                     exact hO87)
              · skip
                refine V_iconst (pc := 72) dX1_operand_72 (by unfold I32; omega) ?_
                refine V_goto (pc := 73) dX1_operand_73 (tgt := 77) rfl ?_
                refine V_st (pc := 77) dX1_operand_77 (ls' := [(4, vi 1), (3, vi 0), (2, vi 1), (1, vi x8), (0, vr r)]) rfl (Nat.le_of_ble_eq_true rfl) rfl ?_
                refine V_ld (pc := 79) dX1_operand_79 (v := vi 1) rfl rfl ?_
                refine V_if_eq (pc := 80) dX1_operand_80 (tgt := 91) rfl (fun h_ => absurd h_ (by decide)) (fun _ => ?_)
                refine V_ld (pc := 83) dX1_operand_83 (v := vr r) rfl rfl ?_
                refine V_bipush (pc := 84) dX1_operand_84 (by unfold I32; omega) (by decide) ?_
                refine V_iconst (pc := 86) dX1_operand_86 (by unfold I32; omega) ?_
                refine V_callV (pc := 87) dX1_operand_87 (F' := 2) (As := [vi 120, vi 0]) (st := []) cw_RX1_90 rfl rfl hQ.2.1 (by decide) (Nat.le_of_ble_eq_true rfl) (by omega) (d_column tx n S C m r 120 0   (by first | assumption | omega) hQ hP (by omega)) ?_
                rintro _ _ ⟨x87, rfl, Ix87, rfl, hx87, hO87⟩ ok87 le87
                have hz87 := DOut.b hO87
                refine V_reti (pc := 90) dX1_operand_90 (show _ = (0 : Int) ∨ _ = (1 : Int) from by first | exact Or.inl rfl | exact Or.inr rfl | omega) ?_
                first
                  | (exfalso; omega)
                  | (have oo_ := opS_xy (tx := tx) (n := n) (S := S) (by omega)
                     have h0_ : 2 * 0 + (cCol tx n S).1 = (cCol tx n S).1 := by omega
                     rw [h0_] at hO87
                     refine ⟨mI (wI m Ix87), rfl, (DFr.tr DFr.rf hx87), ?_⟩
                     rw [oo_.1, oo_.2]
                     exact hO87)
      · skip
        refine V_iconst (pc := 42) dX1_operand_42 (by unfold I32; omega) ?_
        refine V_goto (pc := 43) dX1_operand_43 (tgt := 47) rfl ?_
        refine V_st (pc := 47) dX1_operand_47 (ls' := [(3, vi 1), (2, vi 1), (1, vi x8), (0, vr r)]) rfl (Nat.le_of_ble_eq_true rfl) rfl ?_
        refine V_ld (pc := 48) dX1_operand_48 (v := vi x8) rfl rfl ?_
        refine V_bipush (pc := 49) dX1_operand_49 (by unfold I32; omega) (by decide) ?_
        refine V_icmp_eq (pc := 51) dX1_operand_51 (tgt := 72) rfl (fun h51 => ?_) (fun h51 => ?_)
        · skip
          refine V_iconst (pc := 72) dX1_operand_72 (by unfold I32; omega) ?_
          refine V_goto (pc := 73) dX1_operand_73 (tgt := 77) rfl ?_
          refine V_st (pc := 77) dX1_operand_77 (ls' := [(4, vi 1), (3, vi 1), (2, vi 1), (1, vi x8), (0, vr r)]) rfl (Nat.le_of_ble_eq_true rfl) rfl ?_
          refine V_ld (pc := 79) dX1_operand_79 (v := vi 1) rfl rfl ?_
          refine V_if_eq (pc := 80) dX1_operand_80 (tgt := 91) rfl (fun h_ => absurd h_ (by decide)) (fun _ => ?_)
          refine V_ld (pc := 83) dX1_operand_83 (v := vr r) rfl rfl ?_
          refine V_bipush (pc := 84) dX1_operand_84 (by unfold I32; omega) (by decide) ?_
          refine V_iconst (pc := 86) dX1_operand_86 (by unfold I32; omega) ?_
          refine V_callV (pc := 87) dX1_operand_87 (F' := 2) (As := [vi 120, vi 0]) (st := []) cw_RX1_90 rfl rfl hQ.2.1 (by decide) (Nat.le_of_ble_eq_true rfl) (by omega) (d_column tx n S C m r 120 0   (by first | assumption | omega) hQ hP (by omega)) ?_
          rintro _ _ ⟨x87, rfl, Ix87, rfl, hx87, hO87⟩ ok87 le87
          have hz87 := DOut.b hO87
          refine V_reti (pc := 90) dX1_operand_90 (show _ = (0 : Int) ∨ _ = (1 : Int) from by first | exact Or.inl rfl | exact Or.inr rfl | omega) ?_
          first
            | (exfalso; omega)
            | (have oo_ := opS_xy (tx := tx) (n := n) (S := S) (by omega)
               have h0_ : 2 * 0 + (cCol tx n S).1 = (cCol tx n S).1 := by omega
               rw [h0_] at hO87
               refine ⟨mI (wI m Ix87), rfl, (DFr.tr DFr.rf hx87), ?_⟩
               rw [oo_.1, oo_.2]
               exact hO87)
        · skip
          refine V_ld (pc := 54) dX1_operand_54 (v := vi x8) rfl rfl ?_
          refine V_bipush (pc := 55) dX1_operand_55 (by unfold I32; omega) (by decide) ?_
          refine V_icmp_eq (pc := 57) dX1_operand_57 (tgt := 72) rfl (fun h57 => ?_) (fun h57 => ?_)
          · skip
            refine V_iconst (pc := 72) dX1_operand_72 (by unfold I32; omega) ?_
            refine V_goto (pc := 73) dX1_operand_73 (tgt := 77) rfl ?_
            refine V_st (pc := 77) dX1_operand_77 (ls' := [(4, vi 1), (3, vi 1), (2, vi 1), (1, vi x8), (0, vr r)]) rfl (Nat.le_of_ble_eq_true rfl) rfl ?_
            refine V_ld (pc := 79) dX1_operand_79 (v := vi 1) rfl rfl ?_
            refine V_if_eq (pc := 80) dX1_operand_80 (tgt := 91) rfl (fun h_ => absurd h_ (by decide)) (fun _ => ?_)
            refine V_ld (pc := 83) dX1_operand_83 (v := vr r) rfl rfl ?_
            refine V_bipush (pc := 84) dX1_operand_84 (by unfold I32; omega) (by decide) ?_
            refine V_iconst (pc := 86) dX1_operand_86 (by unfold I32; omega) ?_
            refine V_callV (pc := 87) dX1_operand_87 (F' := 2) (As := [vi 120, vi 0]) (st := []) cw_RX1_90 rfl rfl hQ.2.1 (by decide) (Nat.le_of_ble_eq_true rfl) (by omega) (d_column tx n S C m r 120 0   (by first | assumption | omega) hQ hP (by omega)) ?_
            rintro _ _ ⟨x87, rfl, Ix87, rfl, hx87, hO87⟩ ok87 le87
            have hz87 := DOut.b hO87
            refine V_reti (pc := 90) dX1_operand_90 (show _ = (0 : Int) ∨ _ = (1 : Int) from by first | exact Or.inl rfl | exact Or.inr rfl | omega) ?_
            first
              | (exfalso; omega)
              | (have oo_ := opS_xy (tx := tx) (n := n) (S := S) (by omega)
                 have h0_ : 2 * 0 + (cCol tx n S).1 = (cCol tx n S).1 := by omega
                 rw [h0_] at hO87
                 refine ⟨mI (wI m Ix87), rfl, (DFr.tr DFr.rf hx87), ?_⟩
                 rw [oo_.1, oo_.2]
                 exact hO87)
          · skip
            refine V_ld (pc := 60) dX1_operand_60 (v := vi x8) rfl rfl ?_
            refine V_bipush (pc := 61) dX1_operand_61 (by unfold I32; omega) (by decide) ?_
            refine V_icmp_eq (pc := 63) dX1_operand_63 (tgt := 72) rfl (fun h63 => ?_) (fun h63 => ?_)
            · skip
              refine V_iconst (pc := 72) dX1_operand_72 (by unfold I32; omega) ?_
              refine V_goto (pc := 73) dX1_operand_73 (tgt := 77) rfl ?_
              refine V_st (pc := 77) dX1_operand_77 (ls' := [(4, vi 1), (3, vi 1), (2, vi 1), (1, vi x8), (0, vr r)]) rfl (Nat.le_of_ble_eq_true rfl) rfl ?_
              refine V_ld (pc := 79) dX1_operand_79 (v := vi 1) rfl rfl ?_
              refine V_if_eq (pc := 80) dX1_operand_80 (tgt := 91) rfl (fun h_ => absurd h_ (by decide)) (fun _ => ?_)
              refine V_ld (pc := 83) dX1_operand_83 (v := vr r) rfl rfl ?_
              refine V_bipush (pc := 84) dX1_operand_84 (by unfold I32; omega) (by decide) ?_
              refine V_iconst (pc := 86) dX1_operand_86 (by unfold I32; omega) ?_
              refine V_callV (pc := 87) dX1_operand_87 (F' := 2) (As := [vi 120, vi 0]) (st := []) cw_RX1_90 rfl rfl hQ.2.1 (by decide) (Nat.le_of_ble_eq_true rfl) (by omega) (d_column tx n S C m r 120 0   (by first | assumption | omega) hQ hP (by omega)) ?_
              rintro _ _ ⟨x87, rfl, Ix87, rfl, hx87, hO87⟩ ok87 le87
              have hz87 := DOut.b hO87
              refine V_reti (pc := 90) dX1_operand_90 (show _ = (0 : Int) ∨ _ = (1 : Int) from by first | exact Or.inl rfl | exact Or.inr rfl | omega) ?_
              first
                | (exfalso; omega)
                | (have oo_ := opS_xy (tx := tx) (n := n) (S := S) (by omega)
                   have h0_ : 2 * 0 + (cCol tx n S).1 = (cCol tx n S).1 := by omega
                   rw [h0_] at hO87
                   refine ⟨mI (wI m Ix87), rfl, (DFr.tr DFr.rf hx87), ?_⟩
                   rw [oo_.1, oo_.2]
                   exact hO87)
            · skip
              refine V_ld (pc := 66) dX1_operand_66 (v := vi x8) rfl rfl ?_
              refine V_bipush (pc := 67) dX1_operand_67 (by unfold I32; omega) (by decide) ?_
              refine V_icmp_ne (pc := 69) dX1_operand_69 (tgt := 76) rfl (fun h69 => ?_) (fun h69 => ?_)
              · skip
                refine V_iconst (pc := 76) dX1_operand_76 (by unfold I32; omega) ?_
                refine V_st (pc := 77) dX1_operand_77 (ls' := [(4, vi 0), (3, vi 1), (2, vi 1), (1, vi x8), (0, vr r)]) rfl (Nat.le_of_ble_eq_true rfl) rfl ?_
                refine V_ld (pc := 79) dX1_operand_79 (v := vi 1) rfl rfl ?_
                refine V_if_eq (pc := 80) dX1_operand_80 (tgt := 91) rfl (fun h_ => absurd h_ (by decide)) (fun _ => ?_)
                refine V_ld (pc := 83) dX1_operand_83 (v := vr r) rfl rfl ?_
                refine V_bipush (pc := 84) dX1_operand_84 (by unfold I32; omega) (by decide) ?_
                refine V_iconst (pc := 86) dX1_operand_86 (by unfold I32; omega) ?_
                refine V_callV (pc := 87) dX1_operand_87 (F' := 2) (As := [vi 120, vi 0]) (st := []) cw_RX1_90 rfl rfl hQ.2.1 (by decide) (Nat.le_of_ble_eq_true rfl) (by omega) (d_column tx n S C m r 120 0   (by first | assumption | omega) hQ hP (by omega)) ?_
                rintro _ _ ⟨x87, rfl, Ix87, rfl, hx87, hO87⟩ ok87 le87
                have hz87 := DOut.b hO87
                refine V_reti (pc := 90) dX1_operand_90 (show _ = (0 : Int) ∨ _ = (1 : Int) from by first | exact Or.inl rfl | exact Or.inr rfl | omega) ?_
                first
                  | (exfalso; omega)
                  | (have oo_ := opS_xy (tx := tx) (n := n) (S := S) (by omega)
                     have h0_ : 2 * 0 + (cCol tx n S).1 = (cCol tx n S).1 := by omega
                     rw [h0_] at hO87
                     refine ⟨mI (wI m Ix87), rfl, (DFr.tr DFr.rf hx87), ?_⟩
                     rw [oo_.1, oo_.2]
                     exact hO87)
              · skip
                refine V_iconst (pc := 72) dX1_operand_72 (by unfold I32; omega) ?_
                refine V_goto (pc := 73) dX1_operand_73 (tgt := 77) rfl ?_
                refine V_st (pc := 77) dX1_operand_77 (ls' := [(4, vi 1), (3, vi 1), (2, vi 1), (1, vi x8), (0, vr r)]) rfl (Nat.le_of_ble_eq_true rfl) rfl ?_
                refine V_ld (pc := 79) dX1_operand_79 (v := vi 1) rfl rfl ?_
                refine V_if_eq (pc := 80) dX1_operand_80 (tgt := 91) rfl (fun h_ => absurd h_ (by decide)) (fun _ => ?_)
                refine V_ld (pc := 83) dX1_operand_83 (v := vr r) rfl rfl ?_
                refine V_bipush (pc := 84) dX1_operand_84 (by unfold I32; omega) (by decide) ?_
                refine V_iconst (pc := 86) dX1_operand_86 (by unfold I32; omega) ?_
                refine V_callV (pc := 87) dX1_operand_87 (F' := 2) (As := [vi 120, vi 0]) (st := []) cw_RX1_90 rfl rfl hQ.2.1 (by decide) (Nat.le_of_ble_eq_true rfl) (by omega) (d_column tx n S C m r 120 0   (by first | assumption | omega) hQ hP (by omega)) ?_
                rintro _ _ ⟨x87, rfl, Ix87, rfl, hx87, hO87⟩ ok87 le87
                have hz87 := DOut.b hO87
                refine V_reti (pc := 90) dX1_operand_90 (show _ = (0 : Int) ∨ _ = (1 : Int) from by first | exact Or.inl rfl | exact Or.inr rfl | omega) ?_
                first
                  | (exfalso; omega)
                  | (have oo_ := opS_xy (tx := tx) (n := n) (S := S) (by omega)
                     have h0_ : 2 * 0 + (cCol tx n S).1 = (cCol tx n S).1 := by omega
                     rw [h0_] at hO87
                     refine ⟨mI (wI m Ix87), rfl, (DFr.tr DFr.rf hx87), ?_⟩
                     rw [oo_.1, oo_.2]
                     exact hO87)
  · skip
    refine V_ld (pc := 18) dX1_operand_18 (v := vi x8) rfl rfl ?_
    refine V_bipush (pc := 19) dX1_operand_19 (by unfold I32; omega) (by decide) ?_
    refine V_icmp_ne (pc := 21) dX1_operand_21 (tgt := 28) rfl (fun h21 => ?_) (fun h21 => ?_)
    · skip
      refine V_iconst (pc := 28) dX1_operand_28 (by unfold I32; omega) ?_
      refine V_st (pc := 29) dX1_operand_29 (ls' := [(2, vi 0), (1, vi x8), (0, vr r)]) rfl (Nat.le_of_ble_eq_true rfl) rfl ?_
      refine V_ld (pc := 30) dX1_operand_30 (v := vi x8) rfl rfl ?_
      refine V_bipush (pc := 31) dX1_operand_31 (by unfold I32; omega) (by decide) ?_
      refine V_icmp_eq (pc := 33) dX1_operand_33 (tgt := 42) rfl (fun h33 => ?_) (fun h33 => ?_)
      · skip
        refine V_iconst (pc := 42) dX1_operand_42 (by unfold I32; omega) ?_
        refine V_goto (pc := 43) dX1_operand_43 (tgt := 47) rfl ?_
        refine V_st (pc := 47) dX1_operand_47 (ls' := [(3, vi 1), (2, vi 0), (1, vi x8), (0, vr r)]) rfl (Nat.le_of_ble_eq_true rfl) rfl ?_
        refine V_ld (pc := 48) dX1_operand_48 (v := vi x8) rfl rfl ?_
        refine V_bipush (pc := 49) dX1_operand_49 (by unfold I32; omega) (by decide) ?_
        refine V_icmp_eq (pc := 51) dX1_operand_51 (tgt := 72) rfl (fun h51 => ?_) (fun h51 => ?_)
        · skip
          refine V_iconst (pc := 72) dX1_operand_72 (by unfold I32; omega) ?_
          refine V_goto (pc := 73) dX1_operand_73 (tgt := 77) rfl ?_
          refine V_st (pc := 77) dX1_operand_77 (ls' := [(4, vi 1), (3, vi 1), (2, vi 0), (1, vi x8), (0, vr r)]) rfl (Nat.le_of_ble_eq_true rfl) rfl ?_
          refine V_ld (pc := 79) dX1_operand_79 (v := vi 0) rfl rfl ?_
          refine V_if_eq (pc := 80) dX1_operand_80 (tgt := 91) rfl (fun _ => ?_) (fun h_ => absurd h_ (by decide))
          refine V_ld (pc := 91) dX1_operand_91 (v := vi 1) rfl rfl ?_
          refine V_if_ne (pc := 92) dX1_operand_92 (tgt := 105) rfl (fun _ => ?_) (fun h_ => absurd h_ (by decide))
          refine V_ld (pc := 105) dX1_operand_105 (v := vr r) rfl rfl ?_
          refine V_dup (pc := 106) dX1_operand_106 rfl ?_
          refine V_getIv (pc := 107) dX1_operand_107 (v := (S.2 : Int)) fw_RX1_34 rfl hQ.2.1 hP.2.1 (fun g107 => ?_)
          refine V_iconst (pc := 110) dX1_operand_110 (by unfold I32; omega) ?_
          refine V_iadd (pc := 111) dX1_operand_111 (by unfold I32 at *; omega) ?_
          refine V_putI (pc := 112) dX1_operand_112 fw_RX1_34 rfl hQ.2.1 (Or.inl rfl) (Or.inl rfl) ?_
          have lthA115 : S.2 < n := by first | omega | exact (cc_lt (tx := tx) (n := n) (S := S) (by omega)).2
          have hA115 : DQ (mI (setI m r 3 ((S.2 : Int) + 1))) r tx n (cAdv S) C := DQ.adv hP rfl lthA115
          have ehA115 : (cAdv S).2 = S.2 + 1 := rfl
          refine V_ld (pc := 115) dX1_operand_115 (v := vi 1) rfl rfl ?_
          refine V_if_eq (pc := 116) dX1_operand_116 (tgt := 126) rfl (fun h_ => absurd h_ (by decide)) (fun _ => ?_)
          refine V_ld (pc := 119) dX1_operand_119 (v := vr r) rfl rfl ?_
          refine V_ld (pc := 120) dX1_operand_120 (v := vi x8) rfl rfl ?_
          refine V_iconst (pc := 121) dX1_operand_121 (by unfold I32; omega) ?_
          refine V_callV (pc := 122) dX1_operand_122 (F' := 2) (As := [vi x8, vi 0]) (st := []) cw_RX1_90 rfl rfl hQ.2.1 (by decide) (Nat.le_of_ble_eq_true rfl) (by omega) (d_column tx n (cAdv S) C (setI m r 3 ((S.2 : Int) + 1)) r x8 0   (by first | assumption | omega) hQ hA115 (by omega)) ?_
          rintro _ _ ⟨x122, rfl, Ix122, rfl, hx122, hO122⟩ ok122 le122
          have hz122 := DOut.b hO122
          refine V_reti (pc := 125) dX1_operand_125 (show _ = (0 : Int) ∨ _ = (1 : Int) from by first | exact Or.inl rfl | exact Or.inr rfl | omega) ?_
          first
            | (exfalso; omega)
            | (have oo_ := opS_pn (tx := tx) (n := n) (S := S) (by omega)
               have hk_ : x8 = ccS tx n S := by omega
               have h0_ : 2 * 0 + (cCol tx n (cAdv S)).1 = (cCol tx n (cAdv S)).1 := by omega
               rw [h0_, hk_] at hO122
               refine ⟨mI (wI (setI m r 3 ((S.2 : Int) + 1)) Ix122), rfl, (DFr.tr (DFr.set DFr.rf (by omega)) hx122), ?_⟩
               rw [oo_.1, oo_.2]
               exact hO122)
        · skip
          refine V_ld (pc := 54) dX1_operand_54 (v := vi x8) rfl rfl ?_
          refine V_bipush (pc := 55) dX1_operand_55 (by unfold I32; omega) (by decide) ?_
          refine V_icmp_eq (pc := 57) dX1_operand_57 (tgt := 72) rfl (fun h57 => ?_) (fun h57 => ?_)
          · skip
            refine V_iconst (pc := 72) dX1_operand_72 (by unfold I32; omega) ?_
            refine V_goto (pc := 73) dX1_operand_73 (tgt := 77) rfl ?_
            refine V_st (pc := 77) dX1_operand_77 (ls' := [(4, vi 1), (3, vi 1), (2, vi 0), (1, vi x8), (0, vr r)]) rfl (Nat.le_of_ble_eq_true rfl) rfl ?_
            refine V_ld (pc := 79) dX1_operand_79 (v := vi 0) rfl rfl ?_
            refine V_if_eq (pc := 80) dX1_operand_80 (tgt := 91) rfl (fun _ => ?_) (fun h_ => absurd h_ (by decide))
            refine V_ld (pc := 91) dX1_operand_91 (v := vi 1) rfl rfl ?_
            refine V_if_ne (pc := 92) dX1_operand_92 (tgt := 105) rfl (fun _ => ?_) (fun h_ => absurd h_ (by decide))
            refine V_ld (pc := 105) dX1_operand_105 (v := vr r) rfl rfl ?_
            refine V_dup (pc := 106) dX1_operand_106 rfl ?_
            refine V_getIv (pc := 107) dX1_operand_107 (v := (S.2 : Int)) fw_RX1_34 rfl hQ.2.1 hP.2.1 (fun g107 => ?_)
            refine V_iconst (pc := 110) dX1_operand_110 (by unfold I32; omega) ?_
            refine V_iadd (pc := 111) dX1_operand_111 (by unfold I32 at *; omega) ?_
            refine V_putI (pc := 112) dX1_operand_112 fw_RX1_34 rfl hQ.2.1 (Or.inl rfl) (Or.inl rfl) ?_
            have lthA115 : S.2 < n := by first | omega | exact (cc_lt (tx := tx) (n := n) (S := S) (by omega)).2
            have hA115 : DQ (mI (setI m r 3 ((S.2 : Int) + 1))) r tx n (cAdv S) C := DQ.adv hP rfl lthA115
            have ehA115 : (cAdv S).2 = S.2 + 1 := rfl
            refine V_ld (pc := 115) dX1_operand_115 (v := vi 1) rfl rfl ?_
            refine V_if_eq (pc := 116) dX1_operand_116 (tgt := 126) rfl (fun h_ => absurd h_ (by decide)) (fun _ => ?_)
            refine V_ld (pc := 119) dX1_operand_119 (v := vr r) rfl rfl ?_
            refine V_ld (pc := 120) dX1_operand_120 (v := vi x8) rfl rfl ?_
            refine V_iconst (pc := 121) dX1_operand_121 (by unfold I32; omega) ?_
            refine V_callV (pc := 122) dX1_operand_122 (F' := 2) (As := [vi x8, vi 0]) (st := []) cw_RX1_90 rfl rfl hQ.2.1 (by decide) (Nat.le_of_ble_eq_true rfl) (by omega) (d_column tx n (cAdv S) C (setI m r 3 ((S.2 : Int) + 1)) r x8 0   (by first | assumption | omega) hQ hA115 (by omega)) ?_
            rintro _ _ ⟨x122, rfl, Ix122, rfl, hx122, hO122⟩ ok122 le122
            have hz122 := DOut.b hO122
            refine V_reti (pc := 125) dX1_operand_125 (show _ = (0 : Int) ∨ _ = (1 : Int) from by first | exact Or.inl rfl | exact Or.inr rfl | omega) ?_
            first
              | (exfalso; omega)
              | (have oo_ := opS_pn (tx := tx) (n := n) (S := S) (by omega)
                 have hk_ : x8 = ccS tx n S := by omega
                 have h0_ : 2 * 0 + (cCol tx n (cAdv S)).1 = (cCol tx n (cAdv S)).1 := by omega
                 rw [h0_, hk_] at hO122
                 refine ⟨mI (wI (setI m r 3 ((S.2 : Int) + 1)) Ix122), rfl, (DFr.tr (DFr.set DFr.rf (by omega)) hx122), ?_⟩
                 rw [oo_.1, oo_.2]
                 exact hO122)
          · skip
            refine V_ld (pc := 60) dX1_operand_60 (v := vi x8) rfl rfl ?_
            refine V_bipush (pc := 61) dX1_operand_61 (by unfold I32; omega) (by decide) ?_
            refine V_icmp_eq (pc := 63) dX1_operand_63 (tgt := 72) rfl (fun h63 => ?_) (fun h63 => ?_)
            · skip
              refine V_iconst (pc := 72) dX1_operand_72 (by unfold I32; omega) ?_
              refine V_goto (pc := 73) dX1_operand_73 (tgt := 77) rfl ?_
              refine V_st (pc := 77) dX1_operand_77 (ls' := [(4, vi 1), (3, vi 1), (2, vi 0), (1, vi x8), (0, vr r)]) rfl (Nat.le_of_ble_eq_true rfl) rfl ?_
              refine V_ld (pc := 79) dX1_operand_79 (v := vi 0) rfl rfl ?_
              refine V_if_eq (pc := 80) dX1_operand_80 (tgt := 91) rfl (fun _ => ?_) (fun h_ => absurd h_ (by decide))
              refine V_ld (pc := 91) dX1_operand_91 (v := vi 1) rfl rfl ?_
              refine V_if_ne (pc := 92) dX1_operand_92 (tgt := 105) rfl (fun _ => ?_) (fun h_ => absurd h_ (by decide))
              refine V_ld (pc := 105) dX1_operand_105 (v := vr r) rfl rfl ?_
              refine V_dup (pc := 106) dX1_operand_106 rfl ?_
              refine V_getIv (pc := 107) dX1_operand_107 (v := (S.2 : Int)) fw_RX1_34 rfl hQ.2.1 hP.2.1 (fun g107 => ?_)
              refine V_iconst (pc := 110) dX1_operand_110 (by unfold I32; omega) ?_
              refine V_iadd (pc := 111) dX1_operand_111 (by unfold I32 at *; omega) ?_
              refine V_putI (pc := 112) dX1_operand_112 fw_RX1_34 rfl hQ.2.1 (Or.inl rfl) (Or.inl rfl) ?_
              have lthA115 : S.2 < n := by first | omega | exact (cc_lt (tx := tx) (n := n) (S := S) (by omega)).2
              have hA115 : DQ (mI (setI m r 3 ((S.2 : Int) + 1))) r tx n (cAdv S) C := DQ.adv hP rfl lthA115
              have ehA115 : (cAdv S).2 = S.2 + 1 := rfl
              refine V_ld (pc := 115) dX1_operand_115 (v := vi 1) rfl rfl ?_
              refine V_if_eq (pc := 116) dX1_operand_116 (tgt := 126) rfl (fun h_ => absurd h_ (by decide)) (fun _ => ?_)
              refine V_ld (pc := 119) dX1_operand_119 (v := vr r) rfl rfl ?_
              refine V_ld (pc := 120) dX1_operand_120 (v := vi x8) rfl rfl ?_
              refine V_iconst (pc := 121) dX1_operand_121 (by unfold I32; omega) ?_
              refine V_callV (pc := 122) dX1_operand_122 (F' := 2) (As := [vi x8, vi 0]) (st := []) cw_RX1_90 rfl rfl hQ.2.1 (by decide) (Nat.le_of_ble_eq_true rfl) (by omega) (d_column tx n (cAdv S) C (setI m r 3 ((S.2 : Int) + 1)) r x8 0   (by first | assumption | omega) hQ hA115 (by omega)) ?_
              rintro _ _ ⟨x122, rfl, Ix122, rfl, hx122, hO122⟩ ok122 le122
              have hz122 := DOut.b hO122
              refine V_reti (pc := 125) dX1_operand_125 (show _ = (0 : Int) ∨ _ = (1 : Int) from by first | exact Or.inl rfl | exact Or.inr rfl | omega) ?_
              first
                | (exfalso; omega)
                | (have oo_ := opS_pn (tx := tx) (n := n) (S := S) (by omega)
                   have hk_ : x8 = ccS tx n S := by omega
                   have h0_ : 2 * 0 + (cCol tx n (cAdv S)).1 = (cCol tx n (cAdv S)).1 := by omega
                   rw [h0_, hk_] at hO122
                   refine ⟨mI (wI (setI m r 3 ((S.2 : Int) + 1)) Ix122), rfl, (DFr.tr (DFr.set DFr.rf (by omega)) hx122), ?_⟩
                   rw [oo_.1, oo_.2]
                   exact hO122)
            · skip
              refine V_ld (pc := 66) dX1_operand_66 (v := vi x8) rfl rfl ?_
              refine V_bipush (pc := 67) dX1_operand_67 (by unfold I32; omega) (by decide) ?_
              refine V_icmp_ne (pc := 69) dX1_operand_69 (tgt := 76) rfl (fun h69 => ?_) (fun h69 => ?_)
              · skip
                refine V_iconst (pc := 76) dX1_operand_76 (by unfold I32; omega) ?_
                refine V_st (pc := 77) dX1_operand_77 (ls' := [(4, vi 0), (3, vi 1), (2, vi 0), (1, vi x8), (0, vr r)]) rfl (Nat.le_of_ble_eq_true rfl) rfl ?_
                refine V_ld (pc := 79) dX1_operand_79 (v := vi 0) rfl rfl ?_
                refine V_if_eq (pc := 80) dX1_operand_80 (tgt := 91) rfl (fun _ => ?_) (fun h_ => absurd h_ (by decide))
                refine V_ld (pc := 91) dX1_operand_91 (v := vi 1) rfl rfl ?_
                refine V_if_ne (pc := 92) dX1_operand_92 (tgt := 105) rfl (fun _ => ?_) (fun h_ => absurd h_ (by decide))
                refine V_ld (pc := 105) dX1_operand_105 (v := vr r) rfl rfl ?_
                refine V_dup (pc := 106) dX1_operand_106 rfl ?_
                refine V_getIv (pc := 107) dX1_operand_107 (v := (S.2 : Int)) fw_RX1_34 rfl hQ.2.1 hP.2.1 (fun g107 => ?_)
                refine V_iconst (pc := 110) dX1_operand_110 (by unfold I32; omega) ?_
                refine V_iadd (pc := 111) dX1_operand_111 (by unfold I32 at *; omega) ?_
                refine V_putI (pc := 112) dX1_operand_112 fw_RX1_34 rfl hQ.2.1 (Or.inl rfl) (Or.inl rfl) ?_
                have lthA115 : S.2 < n := by first | omega | exact (cc_lt (tx := tx) (n := n) (S := S) (by omega)).2
                have hA115 : DQ (mI (setI m r 3 ((S.2 : Int) + 1))) r tx n (cAdv S) C := DQ.adv hP rfl lthA115
                have ehA115 : (cAdv S).2 = S.2 + 1 := rfl
                refine V_ld (pc := 115) dX1_operand_115 (v := vi 1) rfl rfl ?_
                refine V_if_eq (pc := 116) dX1_operand_116 (tgt := 126) rfl (fun h_ => absurd h_ (by decide)) (fun _ => ?_)
                refine V_ld (pc := 119) dX1_operand_119 (v := vr r) rfl rfl ?_
                refine V_ld (pc := 120) dX1_operand_120 (v := vi x8) rfl rfl ?_
                refine V_iconst (pc := 121) dX1_operand_121 (by unfold I32; omega) ?_
                refine V_callV (pc := 122) dX1_operand_122 (F' := 2) (As := [vi x8, vi 0]) (st := []) cw_RX1_90 rfl rfl hQ.2.1 (by decide) (Nat.le_of_ble_eq_true rfl) (by omega) (d_column tx n (cAdv S) C (setI m r 3 ((S.2 : Int) + 1)) r x8 0   (by first | assumption | omega) hQ hA115 (by omega)) ?_
                rintro _ _ ⟨x122, rfl, Ix122, rfl, hx122, hO122⟩ ok122 le122
                have hz122 := DOut.b hO122
                refine V_reti (pc := 125) dX1_operand_125 (show _ = (0 : Int) ∨ _ = (1 : Int) from by first | exact Or.inl rfl | exact Or.inr rfl | omega) ?_
                first
                  | (exfalso; omega)
                  | (have oo_ := opS_pn (tx := tx) (n := n) (S := S) (by omega)
                     have hk_ : x8 = ccS tx n S := by omega
                     have h0_ : 2 * 0 + (cCol tx n (cAdv S)).1 = (cCol tx n (cAdv S)).1 := by omega
                     rw [h0_, hk_] at hO122
                     refine ⟨mI (wI (setI m r 3 ((S.2 : Int) + 1)) Ix122), rfl, (DFr.tr (DFr.set DFr.rf (by omega)) hx122), ?_⟩
                     rw [oo_.1, oo_.2]
                     exact hO122)
              · skip
                refine V_iconst (pc := 72) dX1_operand_72 (by unfold I32; omega) ?_
                refine V_goto (pc := 73) dX1_operand_73 (tgt := 77) rfl ?_
                refine V_st (pc := 77) dX1_operand_77 (ls' := [(4, vi 1), (3, vi 1), (2, vi 0), (1, vi x8), (0, vr r)]) rfl (Nat.le_of_ble_eq_true rfl) rfl ?_
                refine V_ld (pc := 79) dX1_operand_79 (v := vi 0) rfl rfl ?_
                refine V_if_eq (pc := 80) dX1_operand_80 (tgt := 91) rfl (fun _ => ?_) (fun h_ => absurd h_ (by decide))
                refine V_ld (pc := 91) dX1_operand_91 (v := vi 1) rfl rfl ?_
                refine V_if_ne (pc := 92) dX1_operand_92 (tgt := 105) rfl (fun _ => ?_) (fun h_ => absurd h_ (by decide))
                refine V_ld (pc := 105) dX1_operand_105 (v := vr r) rfl rfl ?_
                refine V_dup (pc := 106) dX1_operand_106 rfl ?_
                refine V_getIv (pc := 107) dX1_operand_107 (v := (S.2 : Int)) fw_RX1_34 rfl hQ.2.1 hP.2.1 (fun g107 => ?_)
                refine V_iconst (pc := 110) dX1_operand_110 (by unfold I32; omega) ?_
                refine V_iadd (pc := 111) dX1_operand_111 (by unfold I32 at *; omega) ?_
                refine V_putI (pc := 112) dX1_operand_112 fw_RX1_34 rfl hQ.2.1 (Or.inl rfl) (Or.inl rfl) ?_
                have lthA115 : S.2 < n := by first | omega | exact (cc_lt (tx := tx) (n := n) (S := S) (by omega)).2
                have hA115 : DQ (mI (setI m r 3 ((S.2 : Int) + 1))) r tx n (cAdv S) C := DQ.adv hP rfl lthA115
                have ehA115 : (cAdv S).2 = S.2 + 1 := rfl
                refine V_ld (pc := 115) dX1_operand_115 (v := vi 1) rfl rfl ?_
                refine V_if_eq (pc := 116) dX1_operand_116 (tgt := 126) rfl (fun h_ => absurd h_ (by decide)) (fun _ => ?_)
                refine V_ld (pc := 119) dX1_operand_119 (v := vr r) rfl rfl ?_
                refine V_ld (pc := 120) dX1_operand_120 (v := vi x8) rfl rfl ?_
                refine V_iconst (pc := 121) dX1_operand_121 (by unfold I32; omega) ?_
                refine V_callV (pc := 122) dX1_operand_122 (F' := 2) (As := [vi x8, vi 0]) (st := []) cw_RX1_90 rfl rfl hQ.2.1 (by decide) (Nat.le_of_ble_eq_true rfl) (by omega) (d_column tx n (cAdv S) C (setI m r 3 ((S.2 : Int) + 1)) r x8 0   (by first | assumption | omega) hQ hA115 (by omega)) ?_
                rintro _ _ ⟨x122, rfl, Ix122, rfl, hx122, hO122⟩ ok122 le122
                have hz122 := DOut.b hO122
                refine V_reti (pc := 125) dX1_operand_125 (show _ = (0 : Int) ∨ _ = (1 : Int) from by first | exact Or.inl rfl | exact Or.inr rfl | omega) ?_
                first
                  | (exfalso; omega)
                  | (have oo_ := opS_pn (tx := tx) (n := n) (S := S) (by omega)
                     have hk_ : x8 = ccS tx n S := by omega
                     have h0_ : 2 * 0 + (cCol tx n (cAdv S)).1 = (cCol tx n (cAdv S)).1 := by omega
                     rw [h0_, hk_] at hO122
                     refine ⟨mI (wI (setI m r 3 ((S.2 : Int) + 1)) Ix122), rfl, (DFr.tr (DFr.set DFr.rf (by omega)) hx122), ?_⟩
                     rw [oo_.1, oo_.2]
                     exact hO122)
      · skip
        refine V_ld (pc := 36) dX1_operand_36 (v := vi x8) rfl rfl ?_
        refine V_bipush (pc := 37) dX1_operand_37 (by unfold I32; omega) (by decide) ?_
        refine V_icmp_ne (pc := 39) dX1_operand_39 (tgt := 46) rfl (fun h39 => ?_) (fun h39 => ?_)
        · skip
          refine V_iconst (pc := 46) dX1_operand_46 (by unfold I32; omega) ?_
          refine V_st (pc := 47) dX1_operand_47 (ls' := [(3, vi 0), (2, vi 0), (1, vi x8), (0, vr r)]) rfl (Nat.le_of_ble_eq_true rfl) rfl ?_
          refine V_ld (pc := 48) dX1_operand_48 (v := vi x8) rfl rfl ?_
          refine V_bipush (pc := 49) dX1_operand_49 (by unfold I32; omega) (by decide) ?_
          refine V_icmp_eq (pc := 51) dX1_operand_51 (tgt := 72) rfl (fun h51 => ?_) (fun h51 => ?_)
          · skip
            refine V_iconst (pc := 72) dX1_operand_72 (by unfold I32; omega) ?_
            refine V_goto (pc := 73) dX1_operand_73 (tgt := 77) rfl ?_
            refine V_st (pc := 77) dX1_operand_77 (ls' := [(4, vi 1), (3, vi 0), (2, vi 0), (1, vi x8), (0, vr r)]) rfl (Nat.le_of_ble_eq_true rfl) rfl ?_
            refine V_ld (pc := 79) dX1_operand_79 (v := vi 0) rfl rfl ?_
            refine V_if_eq (pc := 80) dX1_operand_80 (tgt := 91) rfl (fun _ => ?_) (fun h_ => absurd h_ (by decide))
            refine V_ld (pc := 91) dX1_operand_91 (v := vi 0) rfl rfl ?_
            refine V_if_ne (pc := 92) dX1_operand_92 (tgt := 105) rfl (fun h_ => absurd h_ (by decide)) (fun _ => ?_)
            refine V_ld (pc := 95) dX1_operand_95 (v := vi 1) rfl rfl ?_
            refine V_if_ne (pc := 97) dX1_operand_97 (tgt := 105) rfl (fun _ => ?_) (fun h_ => absurd h_ (by decide))
            refine V_ld (pc := 105) dX1_operand_105 (v := vr r) rfl rfl ?_
            refine V_dup (pc := 106) dX1_operand_106 rfl ?_
            refine V_getIv (pc := 107) dX1_operand_107 (v := (S.2 : Int)) fw_RX1_34 rfl hQ.2.1 hP.2.1 (fun g107 => ?_)
            refine V_iconst (pc := 110) dX1_operand_110 (by unfold I32; omega) ?_
            refine V_iadd (pc := 111) dX1_operand_111 (by unfold I32 at *; omega) ?_
            refine V_putI (pc := 112) dX1_operand_112 fw_RX1_34 rfl hQ.2.1 (Or.inl rfl) (Or.inl rfl) ?_
            have lthA115 : S.2 < n := by first | omega | exact (cc_lt (tx := tx) (n := n) (S := S) (by omega)).2
            have hA115 : DQ (mI (setI m r 3 ((S.2 : Int) + 1))) r tx n (cAdv S) C := DQ.adv hP rfl lthA115
            have ehA115 : (cAdv S).2 = S.2 + 1 := rfl
            refine V_ld (pc := 115) dX1_operand_115 (v := vi 0) rfl rfl ?_
            refine V_if_eq (pc := 116) dX1_operand_116 (tgt := 126) rfl (fun _ => ?_) (fun h_ => absurd h_ (by decide))
            refine V_ld (pc := 126) dX1_operand_126 (v := vr r) rfl rfl ?_
            refine V_getRv (pc := 127) dX1_operand_127 (o' := 13) fw_RX1_21 rfl hQ.2.1 hQ.2.2.1 ?_
            refine V_ld (pc := 130) dX1_operand_130 (v := vr r) rfl rfl ?_
            refine V_getIv (pc := 131) dX1_operand_131 (v := ((cAdv S).2 : Int)) fw_RX1_34 rfl hQ.2.1 hA115.2.1 (fun g131 => ?_)
            refine V_callV (pc := 134) dX1_operand_134 (F' := 0) (As := [vi ((cAdv S).2 : Int)]) (st := []) cw_RX1_37 rfl rfl hL.t13 (by decide) (Nat.le_of_ble_eq_true rfl) (by omega) (c_Text_at  (setI m r 3 ((S.2 : Int) + 1)) 13 ((cAdv S).2 : Int) 14  hL.t13 hL.r13_0 hL.t14) ?_
            rintro _ _ ⟨x134, rfl, hx134, rfl⟩ ok134 le134
            obtain ⟨cr134, cr1340, cr1341, cr1342⟩ := DQ.at hA115 rfl hx134
            refine V_bipush (pc := 137) dX1_operand_137 (by unfold I32; omega) (by decide) ?_
            refine V_isub (pc := 139) dX1_operand_139 (by unfold I32 at *; omega) ?_
            refine V_st (pc := 140) dX1_operand_140 (ls' := [(5, vi (x134 - 65)), (4, vi 1), (3, vi 0), (2, vi 0), (1, vi x8), (0, vr r)]) rfl (Nat.le_of_ble_eq_true rfl) rfl ?_
            refine V_ld (pc := 142) dX1_operand_142 (v := vi (x134 - 65)) rfl rfl ?_
            refine V_callSN (pc := 144) dX1_operand_144 (F' := 0) (As := [vi (x134 - 65)]) (st := []) cn_RX1_41 rfl rfl (Nat.le_of_ble_eq_true rfl) (by omega) (c_isLetter  (setI m r 3 ((S.2 : Int) + 1)) (x134 - 65)   ) ?_
            rintro _ _ ⟨x144, rfl, hx144, rfl⟩ ok144 le144
            refine V_if_ne (pc := 147) dX1_operand_147 (tgt := 155) rfl (fun h147 => ?_) (fun h147 => ?_)
            · skip
              refine V_ld (pc := 155) dX1_operand_155 (v := vr r) rfl rfl ?_
              refine V_dup (pc := 156) dX1_operand_156 rfl ?_
              refine V_getIv (pc := 157) dX1_operand_157 (v := ((cAdv S).2 : Int)) fw_RX1_34 rfl hQ.2.1 hA115.2.1 (fun g157 => ?_)
              refine V_iconst (pc := 160) dX1_operand_160 (by unfold I32; omega) ?_
              refine V_iadd (pc := 161) dX1_operand_161 (by unfold I32 at *; omega) ?_
              refine V_putI (pc := 162) dX1_operand_162 fw_RX1_34 rfl hQ.2.1 (Or.inl rfl) (Or.inl rfl) ?_
              have lthA165 : (cAdv S).2 < n := by first | omega | exact (cc_lt (tx := tx) (n := n) (S := (cAdv S)) (by omega)).2
              have hA165 : DQ (mI (setI (setI m r 3 ((S.2 : Int) + 1)) r 3 (((cAdv S).2 : Int) + 1))) r tx n (cAdv (cAdv S)) C := DQ.adv hA115 rfl lthA165
              have ehA165 : (cAdv (cAdv S)).2 = (cAdv S).2 + 1 := rfl
              refine V_ld (pc := 165) dX1_operand_165 (v := vi x8) rfl rfl ?_
              refine V_bipush (pc := 166) dX1_operand_166 (by unfold I32; omega) (by decide) ?_
              refine V_icmp_ne (pc := 168) dX1_operand_168 (tgt := 185) rfl (fun h168 => ?_) (fun h168 => ?_)
              · skip
                refine V_ld (pc := 185) dX1_operand_185 (v := vr r) rfl rfl ?_
                refine V_ld (pc := 186) dX1_operand_186 (v := vi x8) rfl rfl ?_
                refine V_ld (pc := 187) dX1_operand_187 (v := vi (x134 - 65)) rfl rfl ?_
                refine V_callV (pc := 189) dX1_operand_189 (F' := 2) (As := [vi x8, vi (x134 - 65)]) (st := []) cw_RX1_90 rfl rfl hQ.2.1 (by decide) (Nat.le_of_ble_eq_true rfl) (by omega) (d_column tx n (cAdv (cAdv S)) C (setI (setI m r 3 ((S.2 : Int) + 1)) r 3 (((cAdv S).2 : Int) + 1)) r x8 (x134 - 65)   (by first | assumption | omega) hQ hA165 (by omega)) ?_
                rintro _ _ ⟨x189, rfl, Ix189, rfl, hx189, hO189⟩ ok189 le189
                have hz189 := DOut.b hO189
                refine V_reti (pc := 192) dX1_operand_192 (show _ = (0 : Int) ∨ _ = (1 : Int) from by first | exact Or.inl rfl | exact Or.inr rfl | omega) ?_
                first
                  | (exfalso; omega)
                  | (have oo_ := opS_l (tx := tx) (n := n) (S := S) (by omega) (by omega)
                     have hk_ : x8 = ccS tx n S := by omega
                     have hl_ : x134 = ccS tx n (cAdv S) := by omega
                     rw [hk_, hl_] at hO189
                     refine ⟨mI (wI (setI (setI m r 3 ((S.2 : Int) + 1)) r 3 (((cAdv S).2 : Int) + 1)) Ix189), rfl, (DFr.tr (DFr.set (DFr.set DFr.rf (by omega)) (by omega)) hx189), ?_⟩
                     rw [oo_.1, oo_.2]
                     exact hO189)
              · skip
                refine V_ld (pc := 171) dX1_operand_171 (v := vr r) rfl rfl ?_
                refine V_ld (pc := 172) dX1_operand_172 (v := vi x8) rfl rfl ?_
                refine V_iconst (pc := 173) dX1_operand_173 (by unfold I32; omega) ?_
                refine V_ld (pc := 174) dX1_operand_174 (v := vi (x134 - 65)) rfl rfl ?_
                refine V_imul (pc := 176) dX1_operand_176 (by unfold I32 at *; omega) ?_
                refine V_callS (pc := 177) dX1_operand_177 (F' := 0) (As := [vi x8, vi (2 * (x134 - 65))]) (st := [vr r]) cw_RX1_97 rfl rfl (Nat.le_of_ble_eq_true rfl) (by omega) (d_opc  (setI (setI m r 3 ((S.2 : Int) + 1)) r 3 (((cAdv S).2 : Int) + 1)) x8 (2 * (x134 - 65))   ) ?_
                rintro _ _ ⟨x177, rfl, rfl, rfl⟩ ok177 le177
                refine V_callV (pc := 180) dX1_operand_180 (F' := 0) (As := [vi (opc x8 (2 * (x134 - 65)))]) (st := []) cw_RX1_77 rfl rfl hQ.2.1 (by decide) (Nat.le_of_ble_eq_true rfl) (by omega) (d_emit tx n (cAdv (cAdv S)) C (setI (setI m r 3 ((S.2 : Int) + 1)) r 3 (((cAdv S).2 : Int) + 1)) r (opc x8 (2 * (x134 - 65)))   hQ hA165 (by omega)) ?_
                rintro _ _ ⟨rfl, Ix180, rfl, hP180, hF180⟩ ok180 le180
                have lc180 : (C ++ [opc x8 (2 * (x134 - 65))]).length = C.length + 1 := by rw [List.length_append]; rfl
                refine V_iconst (pc := 183) dX1_operand_183 (by unfold I32; omega) ?_
                refine V_reti (pc := 184) dX1_operand_184 (show _ = (0 : Int) ∨ _ = (1 : Int) from by first | exact Or.inl rfl | exact Or.inr rfl | omega) ?_
                first
                  | (exfalso; omega)
                  | (have oo_ := opS_c (tx := tx) (n := n) (S := S) (by omega) (by omega)
                     have hk_ : x8 = 99 := by omega
                     have hl_ : x134 = ccS tx n (cAdv S) := by omega
                     rw [hk_, hl_] at hP180
                     refine ⟨mI (wI (setI (setI m r 3 ((S.2 : Int) + 1)) r 3 (((cAdv S).2 : Int) + 1)) Ix180), rfl, (DFr.tr (DFr.set (DFr.set DFr.rf (by omega)) (by omega)) hF180), Or.inl ?_⟩
                     rw [oo_.1, oo_.2]
                     exact ⟨hP.2.2.2.2.2.2.2.2.1, rfl, hP180⟩)
            · skip
              refine V_ld (pc := 150) dX1_operand_150 (v := vr r) rfl rfl ?_
              refine V_callV (pc := 151) dX1_operand_151 (F' := 0) (As := []) (st := []) cw_RX1_45 rfl rfl hQ.2.1 (by decide) (Nat.le_of_ble_eq_true rfl) (by omega) (d_failed n (setI m r 3 ((S.2 : Int) + 1)) r   hQ) ?_
              rintro _ _ ⟨x151, rfl, Ix151, rfl, rfl, hI151, hF151⟩ ok151 le151
              refine V_reti (pc := 154) dX1_operand_154 (show _ = (0 : Int) ∨ _ = (1 : Int) from by first | exact Or.inl rfl | exact Or.inr rfl | omega) ?_
              first
                | (exfalso; omega)
                | (have oo_ := opS_b (tx := tx) (n := n) (S := S) (by omega) (by omega)
                   refine ⟨mI (wI (setI m r 3 ((S.2 : Int) + 1)) Ix151), rfl, (DFr.tr (DFr.set DFr.rf (by omega)) hF151), Or.inr ?_⟩
                   rw [oo_]
                   exact ⟨rfl, rfl, hI151.trans ((if_pos hA115.2.2.1).trans hA115.2.1)⟩)
          · skip
            refine V_ld (pc := 54) dX1_operand_54 (v := vi x8) rfl rfl ?_
            refine V_bipush (pc := 55) dX1_operand_55 (by unfold I32; omega) (by decide) ?_
            refine V_icmp_eq (pc := 57) dX1_operand_57 (tgt := 72) rfl (fun h57 => ?_) (fun h57 => ?_)
            · skip
              refine V_iconst (pc := 72) dX1_operand_72 (by unfold I32; omega) ?_
              refine V_goto (pc := 73) dX1_operand_73 (tgt := 77) rfl ?_
              refine V_st (pc := 77) dX1_operand_77 (ls' := [(4, vi 1), (3, vi 0), (2, vi 0), (1, vi x8), (0, vr r)]) rfl (Nat.le_of_ble_eq_true rfl) rfl ?_
              refine V_ld (pc := 79) dX1_operand_79 (v := vi 0) rfl rfl ?_
              refine V_if_eq (pc := 80) dX1_operand_80 (tgt := 91) rfl (fun _ => ?_) (fun h_ => absurd h_ (by decide))
              refine V_ld (pc := 91) dX1_operand_91 (v := vi 0) rfl rfl ?_
              refine V_if_ne (pc := 92) dX1_operand_92 (tgt := 105) rfl (fun h_ => absurd h_ (by decide)) (fun _ => ?_)
              refine V_ld (pc := 95) dX1_operand_95 (v := vi 1) rfl rfl ?_
              refine V_if_ne (pc := 97) dX1_operand_97 (tgt := 105) rfl (fun _ => ?_) (fun h_ => absurd h_ (by decide))
              refine V_ld (pc := 105) dX1_operand_105 (v := vr r) rfl rfl ?_
              refine V_dup (pc := 106) dX1_operand_106 rfl ?_
              refine V_getIv (pc := 107) dX1_operand_107 (v := (S.2 : Int)) fw_RX1_34 rfl hQ.2.1 hP.2.1 (fun g107 => ?_)
              refine V_iconst (pc := 110) dX1_operand_110 (by unfold I32; omega) ?_
              refine V_iadd (pc := 111) dX1_operand_111 (by unfold I32 at *; omega) ?_
              refine V_putI (pc := 112) dX1_operand_112 fw_RX1_34 rfl hQ.2.1 (Or.inl rfl) (Or.inl rfl) ?_
              have lthA115 : S.2 < n := by first | omega | exact (cc_lt (tx := tx) (n := n) (S := S) (by omega)).2
              have hA115 : DQ (mI (setI m r 3 ((S.2 : Int) + 1))) r tx n (cAdv S) C := DQ.adv hP rfl lthA115
              have ehA115 : (cAdv S).2 = S.2 + 1 := rfl
              refine V_ld (pc := 115) dX1_operand_115 (v := vi 0) rfl rfl ?_
              refine V_if_eq (pc := 116) dX1_operand_116 (tgt := 126) rfl (fun _ => ?_) (fun h_ => absurd h_ (by decide))
              refine V_ld (pc := 126) dX1_operand_126 (v := vr r) rfl rfl ?_
              refine V_getRv (pc := 127) dX1_operand_127 (o' := 13) fw_RX1_21 rfl hQ.2.1 hQ.2.2.1 ?_
              refine V_ld (pc := 130) dX1_operand_130 (v := vr r) rfl rfl ?_
              refine V_getIv (pc := 131) dX1_operand_131 (v := ((cAdv S).2 : Int)) fw_RX1_34 rfl hQ.2.1 hA115.2.1 (fun g131 => ?_)
              refine V_callV (pc := 134) dX1_operand_134 (F' := 0) (As := [vi ((cAdv S).2 : Int)]) (st := []) cw_RX1_37 rfl rfl hL.t13 (by decide) (Nat.le_of_ble_eq_true rfl) (by omega) (c_Text_at  (setI m r 3 ((S.2 : Int) + 1)) 13 ((cAdv S).2 : Int) 14  hL.t13 hL.r13_0 hL.t14) ?_
              rintro _ _ ⟨x134, rfl, hx134, rfl⟩ ok134 le134
              obtain ⟨cr134, cr1340, cr1341, cr1342⟩ := DQ.at hA115 rfl hx134
              refine V_bipush (pc := 137) dX1_operand_137 (by unfold I32; omega) (by decide) ?_
              refine V_isub (pc := 139) dX1_operand_139 (by unfold I32 at *; omega) ?_
              refine V_st (pc := 140) dX1_operand_140 (ls' := [(5, vi (x134 - 65)), (4, vi 1), (3, vi 0), (2, vi 0), (1, vi x8), (0, vr r)]) rfl (Nat.le_of_ble_eq_true rfl) rfl ?_
              refine V_ld (pc := 142) dX1_operand_142 (v := vi (x134 - 65)) rfl rfl ?_
              refine V_callSN (pc := 144) dX1_operand_144 (F' := 0) (As := [vi (x134 - 65)]) (st := []) cn_RX1_41 rfl rfl (Nat.le_of_ble_eq_true rfl) (by omega) (c_isLetter  (setI m r 3 ((S.2 : Int) + 1)) (x134 - 65)   ) ?_
              rintro _ _ ⟨x144, rfl, hx144, rfl⟩ ok144 le144
              refine V_if_ne (pc := 147) dX1_operand_147 (tgt := 155) rfl (fun h147 => ?_) (fun h147 => ?_)
              · skip
                refine V_ld (pc := 155) dX1_operand_155 (v := vr r) rfl rfl ?_
                refine V_dup (pc := 156) dX1_operand_156 rfl ?_
                refine V_getIv (pc := 157) dX1_operand_157 (v := ((cAdv S).2 : Int)) fw_RX1_34 rfl hQ.2.1 hA115.2.1 (fun g157 => ?_)
                refine V_iconst (pc := 160) dX1_operand_160 (by unfold I32; omega) ?_
                refine V_iadd (pc := 161) dX1_operand_161 (by unfold I32 at *; omega) ?_
                refine V_putI (pc := 162) dX1_operand_162 fw_RX1_34 rfl hQ.2.1 (Or.inl rfl) (Or.inl rfl) ?_
                have lthA165 : (cAdv S).2 < n := by first | omega | exact (cc_lt (tx := tx) (n := n) (S := (cAdv S)) (by omega)).2
                have hA165 : DQ (mI (setI (setI m r 3 ((S.2 : Int) + 1)) r 3 (((cAdv S).2 : Int) + 1))) r tx n (cAdv (cAdv S)) C := DQ.adv hA115 rfl lthA165
                have ehA165 : (cAdv (cAdv S)).2 = (cAdv S).2 + 1 := rfl
                refine V_ld (pc := 165) dX1_operand_165 (v := vi x8) rfl rfl ?_
                refine V_bipush (pc := 166) dX1_operand_166 (by unfold I32; omega) (by decide) ?_
                refine V_icmp_ne (pc := 168) dX1_operand_168 (tgt := 185) rfl (fun h168 => ?_) (fun h168 => ?_)
                · skip
                  refine V_ld (pc := 185) dX1_operand_185 (v := vr r) rfl rfl ?_
                  refine V_ld (pc := 186) dX1_operand_186 (v := vi x8) rfl rfl ?_
                  refine V_ld (pc := 187) dX1_operand_187 (v := vi (x134 - 65)) rfl rfl ?_
                  refine V_callV (pc := 189) dX1_operand_189 (F' := 2) (As := [vi x8, vi (x134 - 65)]) (st := []) cw_RX1_90 rfl rfl hQ.2.1 (by decide) (Nat.le_of_ble_eq_true rfl) (by omega) (d_column tx n (cAdv (cAdv S)) C (setI (setI m r 3 ((S.2 : Int) + 1)) r 3 (((cAdv S).2 : Int) + 1)) r x8 (x134 - 65)   (by first | assumption | omega) hQ hA165 (by omega)) ?_
                  rintro _ _ ⟨x189, rfl, Ix189, rfl, hx189, hO189⟩ ok189 le189
                  have hz189 := DOut.b hO189
                  refine V_reti (pc := 192) dX1_operand_192 (show _ = (0 : Int) ∨ _ = (1 : Int) from by first | exact Or.inl rfl | exact Or.inr rfl | omega) ?_
                  first
                    | (exfalso; omega)
                    | (have oo_ := opS_l (tx := tx) (n := n) (S := S) (by omega) (by omega)
                       have hk_ : x8 = ccS tx n S := by omega
                       have hl_ : x134 = ccS tx n (cAdv S) := by omega
                       rw [hk_, hl_] at hO189
                       refine ⟨mI (wI (setI (setI m r 3 ((S.2 : Int) + 1)) r 3 (((cAdv S).2 : Int) + 1)) Ix189), rfl, (DFr.tr (DFr.set (DFr.set DFr.rf (by omega)) (by omega)) hx189), ?_⟩
                       rw [oo_.1, oo_.2]
                       exact hO189)
                · skip
                  refine V_ld (pc := 171) dX1_operand_171 (v := vr r) rfl rfl ?_
                  refine V_ld (pc := 172) dX1_operand_172 (v := vi x8) rfl rfl ?_
                  refine V_iconst (pc := 173) dX1_operand_173 (by unfold I32; omega) ?_
                  refine V_ld (pc := 174) dX1_operand_174 (v := vi (x134 - 65)) rfl rfl ?_
                  refine V_imul (pc := 176) dX1_operand_176 (by unfold I32 at *; omega) ?_
                  refine V_callS (pc := 177) dX1_operand_177 (F' := 0) (As := [vi x8, vi (2 * (x134 - 65))]) (st := [vr r]) cw_RX1_97 rfl rfl (Nat.le_of_ble_eq_true rfl) (by omega) (d_opc  (setI (setI m r 3 ((S.2 : Int) + 1)) r 3 (((cAdv S).2 : Int) + 1)) x8 (2 * (x134 - 65))   ) ?_
                  rintro _ _ ⟨x177, rfl, rfl, rfl⟩ ok177 le177
                  refine V_callV (pc := 180) dX1_operand_180 (F' := 0) (As := [vi (opc x8 (2 * (x134 - 65)))]) (st := []) cw_RX1_77 rfl rfl hQ.2.1 (by decide) (Nat.le_of_ble_eq_true rfl) (by omega) (d_emit tx n (cAdv (cAdv S)) C (setI (setI m r 3 ((S.2 : Int) + 1)) r 3 (((cAdv S).2 : Int) + 1)) r (opc x8 (2 * (x134 - 65)))   hQ hA165 (by omega)) ?_
                  rintro _ _ ⟨rfl, Ix180, rfl, hP180, hF180⟩ ok180 le180
                  have lc180 : (C ++ [opc x8 (2 * (x134 - 65))]).length = C.length + 1 := by rw [List.length_append]; rfl
                  refine V_iconst (pc := 183) dX1_operand_183 (by unfold I32; omega) ?_
                  refine V_reti (pc := 184) dX1_operand_184 (show _ = (0 : Int) ∨ _ = (1 : Int) from by first | exact Or.inl rfl | exact Or.inr rfl | omega) ?_
                  first
                    | (exfalso; omega)
                    | (have oo_ := opS_c (tx := tx) (n := n) (S := S) (by omega) (by omega)
                       have hk_ : x8 = 99 := by omega
                       have hl_ : x134 = ccS tx n (cAdv S) := by omega
                       rw [hk_, hl_] at hP180
                       refine ⟨mI (wI (setI (setI m r 3 ((S.2 : Int) + 1)) r 3 (((cAdv S).2 : Int) + 1)) Ix180), rfl, (DFr.tr (DFr.set (DFr.set DFr.rf (by omega)) (by omega)) hF180), Or.inl ?_⟩
                       rw [oo_.1, oo_.2]
                       exact ⟨hP.2.2.2.2.2.2.2.2.1, rfl, hP180⟩)
              · skip
                refine V_ld (pc := 150) dX1_operand_150 (v := vr r) rfl rfl ?_
                refine V_callV (pc := 151) dX1_operand_151 (F' := 0) (As := []) (st := []) cw_RX1_45 rfl rfl hQ.2.1 (by decide) (Nat.le_of_ble_eq_true rfl) (by omega) (d_failed n (setI m r 3 ((S.2 : Int) + 1)) r   hQ) ?_
                rintro _ _ ⟨x151, rfl, Ix151, rfl, rfl, hI151, hF151⟩ ok151 le151
                refine V_reti (pc := 154) dX1_operand_154 (show _ = (0 : Int) ∨ _ = (1 : Int) from by first | exact Or.inl rfl | exact Or.inr rfl | omega) ?_
                first
                  | (exfalso; omega)
                  | (have oo_ := opS_b (tx := tx) (n := n) (S := S) (by omega) (by omega)
                     refine ⟨mI (wI (setI m r 3 ((S.2 : Int) + 1)) Ix151), rfl, (DFr.tr (DFr.set DFr.rf (by omega)) hF151), Or.inr ?_⟩
                     rw [oo_]
                     exact ⟨rfl, rfl, hI151.trans ((if_pos hA115.2.2.1).trans hA115.2.1)⟩)
            · skip
              refine V_ld (pc := 60) dX1_operand_60 (v := vi x8) rfl rfl ?_
              refine V_bipush (pc := 61) dX1_operand_61 (by unfold I32; omega) (by decide) ?_
              refine V_icmp_eq (pc := 63) dX1_operand_63 (tgt := 72) rfl (fun h63 => ?_) (fun h63 => ?_)
              · skip
                refine V_iconst (pc := 72) dX1_operand_72 (by unfold I32; omega) ?_
                refine V_goto (pc := 73) dX1_operand_73 (tgt := 77) rfl ?_
                refine V_st (pc := 77) dX1_operand_77 (ls' := [(4, vi 1), (3, vi 0), (2, vi 0), (1, vi x8), (0, vr r)]) rfl (Nat.le_of_ble_eq_true rfl) rfl ?_
                refine V_ld (pc := 79) dX1_operand_79 (v := vi 0) rfl rfl ?_
                refine V_if_eq (pc := 80) dX1_operand_80 (tgt := 91) rfl (fun _ => ?_) (fun h_ => absurd h_ (by decide))
                refine V_ld (pc := 91) dX1_operand_91 (v := vi 0) rfl rfl ?_
                refine V_if_ne (pc := 92) dX1_operand_92 (tgt := 105) rfl (fun h_ => absurd h_ (by decide)) (fun _ => ?_)
                refine V_ld (pc := 95) dX1_operand_95 (v := vi 1) rfl rfl ?_
                refine V_if_ne (pc := 97) dX1_operand_97 (tgt := 105) rfl (fun _ => ?_) (fun h_ => absurd h_ (by decide))
                refine V_ld (pc := 105) dX1_operand_105 (v := vr r) rfl rfl ?_
                refine V_dup (pc := 106) dX1_operand_106 rfl ?_
                refine V_getIv (pc := 107) dX1_operand_107 (v := (S.2 : Int)) fw_RX1_34 rfl hQ.2.1 hP.2.1 (fun g107 => ?_)
                refine V_iconst (pc := 110) dX1_operand_110 (by unfold I32; omega) ?_
                refine V_iadd (pc := 111) dX1_operand_111 (by unfold I32 at *; omega) ?_
                refine V_putI (pc := 112) dX1_operand_112 fw_RX1_34 rfl hQ.2.1 (Or.inl rfl) (Or.inl rfl) ?_
                have lthA115 : S.2 < n := by first | omega | exact (cc_lt (tx := tx) (n := n) (S := S) (by omega)).2
                have hA115 : DQ (mI (setI m r 3 ((S.2 : Int) + 1))) r tx n (cAdv S) C := DQ.adv hP rfl lthA115
                have ehA115 : (cAdv S).2 = S.2 + 1 := rfl
                refine V_ld (pc := 115) dX1_operand_115 (v := vi 0) rfl rfl ?_
                refine V_if_eq (pc := 116) dX1_operand_116 (tgt := 126) rfl (fun _ => ?_) (fun h_ => absurd h_ (by decide))
                refine V_ld (pc := 126) dX1_operand_126 (v := vr r) rfl rfl ?_
                refine V_getRv (pc := 127) dX1_operand_127 (o' := 13) fw_RX1_21 rfl hQ.2.1 hQ.2.2.1 ?_
                refine V_ld (pc := 130) dX1_operand_130 (v := vr r) rfl rfl ?_
                refine V_getIv (pc := 131) dX1_operand_131 (v := ((cAdv S).2 : Int)) fw_RX1_34 rfl hQ.2.1 hA115.2.1 (fun g131 => ?_)
                refine V_callV (pc := 134) dX1_operand_134 (F' := 0) (As := [vi ((cAdv S).2 : Int)]) (st := []) cw_RX1_37 rfl rfl hL.t13 (by decide) (Nat.le_of_ble_eq_true rfl) (by omega) (c_Text_at  (setI m r 3 ((S.2 : Int) + 1)) 13 ((cAdv S).2 : Int) 14  hL.t13 hL.r13_0 hL.t14) ?_
                rintro _ _ ⟨x134, rfl, hx134, rfl⟩ ok134 le134
                obtain ⟨cr134, cr1340, cr1341, cr1342⟩ := DQ.at hA115 rfl hx134
                refine V_bipush (pc := 137) dX1_operand_137 (by unfold I32; omega) (by decide) ?_
                refine V_isub (pc := 139) dX1_operand_139 (by unfold I32 at *; omega) ?_
                refine V_st (pc := 140) dX1_operand_140 (ls' := [(5, vi (x134 - 65)), (4, vi 1), (3, vi 0), (2, vi 0), (1, vi x8), (0, vr r)]) rfl (Nat.le_of_ble_eq_true rfl) rfl ?_
                refine V_ld (pc := 142) dX1_operand_142 (v := vi (x134 - 65)) rfl rfl ?_
                refine V_callSN (pc := 144) dX1_operand_144 (F' := 0) (As := [vi (x134 - 65)]) (st := []) cn_RX1_41 rfl rfl (Nat.le_of_ble_eq_true rfl) (by omega) (c_isLetter  (setI m r 3 ((S.2 : Int) + 1)) (x134 - 65)   ) ?_
                rintro _ _ ⟨x144, rfl, hx144, rfl⟩ ok144 le144
                refine V_if_ne (pc := 147) dX1_operand_147 (tgt := 155) rfl (fun h147 => ?_) (fun h147 => ?_)
                · skip
                  refine V_ld (pc := 155) dX1_operand_155 (v := vr r) rfl rfl ?_
                  refine V_dup (pc := 156) dX1_operand_156 rfl ?_
                  refine V_getIv (pc := 157) dX1_operand_157 (v := ((cAdv S).2 : Int)) fw_RX1_34 rfl hQ.2.1 hA115.2.1 (fun g157 => ?_)
                  refine V_iconst (pc := 160) dX1_operand_160 (by unfold I32; omega) ?_
                  refine V_iadd (pc := 161) dX1_operand_161 (by unfold I32 at *; omega) ?_
                  refine V_putI (pc := 162) dX1_operand_162 fw_RX1_34 rfl hQ.2.1 (Or.inl rfl) (Or.inl rfl) ?_
                  have lthA165 : (cAdv S).2 < n := by first | omega | exact (cc_lt (tx := tx) (n := n) (S := (cAdv S)) (by omega)).2
                  have hA165 : DQ (mI (setI (setI m r 3 ((S.2 : Int) + 1)) r 3 (((cAdv S).2 : Int) + 1))) r tx n (cAdv (cAdv S)) C := DQ.adv hA115 rfl lthA165
                  have ehA165 : (cAdv (cAdv S)).2 = (cAdv S).2 + 1 := rfl
                  refine V_ld (pc := 165) dX1_operand_165 (v := vi x8) rfl rfl ?_
                  refine V_bipush (pc := 166) dX1_operand_166 (by unfold I32; omega) (by decide) ?_
                  refine V_icmp_ne (pc := 168) dX1_operand_168 (tgt := 185) rfl (fun h168 => ?_) (fun h168 => ?_)
                  · skip
                    refine V_ld (pc := 185) dX1_operand_185 (v := vr r) rfl rfl ?_
                    refine V_ld (pc := 186) dX1_operand_186 (v := vi x8) rfl rfl ?_
                    refine V_ld (pc := 187) dX1_operand_187 (v := vi (x134 - 65)) rfl rfl ?_
                    refine V_callV (pc := 189) dX1_operand_189 (F' := 2) (As := [vi x8, vi (x134 - 65)]) (st := []) cw_RX1_90 rfl rfl hQ.2.1 (by decide) (Nat.le_of_ble_eq_true rfl) (by omega) (d_column tx n (cAdv (cAdv S)) C (setI (setI m r 3 ((S.2 : Int) + 1)) r 3 (((cAdv S).2 : Int) + 1)) r x8 (x134 - 65)   (by first | assumption | omega) hQ hA165 (by omega)) ?_
                    rintro _ _ ⟨x189, rfl, Ix189, rfl, hx189, hO189⟩ ok189 le189
                    have hz189 := DOut.b hO189
                    refine V_reti (pc := 192) dX1_operand_192 (show _ = (0 : Int) ∨ _ = (1 : Int) from by first | exact Or.inl rfl | exact Or.inr rfl | omega) ?_
                    first
                      | (exfalso; omega)
                      | (have oo_ := opS_l (tx := tx) (n := n) (S := S) (by omega) (by omega)
                         have hk_ : x8 = ccS tx n S := by omega
                         have hl_ : x134 = ccS tx n (cAdv S) := by omega
                         rw [hk_, hl_] at hO189
                         refine ⟨mI (wI (setI (setI m r 3 ((S.2 : Int) + 1)) r 3 (((cAdv S).2 : Int) + 1)) Ix189), rfl, (DFr.tr (DFr.set (DFr.set DFr.rf (by omega)) (by omega)) hx189), ?_⟩
                         rw [oo_.1, oo_.2]
                         exact hO189)
                  · skip
                    refine V_ld (pc := 171) dX1_operand_171 (v := vr r) rfl rfl ?_
                    refine V_ld (pc := 172) dX1_operand_172 (v := vi x8) rfl rfl ?_
                    refine V_iconst (pc := 173) dX1_operand_173 (by unfold I32; omega) ?_
                    refine V_ld (pc := 174) dX1_operand_174 (v := vi (x134 - 65)) rfl rfl ?_
                    refine V_imul (pc := 176) dX1_operand_176 (by unfold I32 at *; omega) ?_
                    refine V_callS (pc := 177) dX1_operand_177 (F' := 0) (As := [vi x8, vi (2 * (x134 - 65))]) (st := [vr r]) cw_RX1_97 rfl rfl (Nat.le_of_ble_eq_true rfl) (by omega) (d_opc  (setI (setI m r 3 ((S.2 : Int) + 1)) r 3 (((cAdv S).2 : Int) + 1)) x8 (2 * (x134 - 65))   ) ?_
                    rintro _ _ ⟨x177, rfl, rfl, rfl⟩ ok177 le177
                    refine V_callV (pc := 180) dX1_operand_180 (F' := 0) (As := [vi (opc x8 (2 * (x134 - 65)))]) (st := []) cw_RX1_77 rfl rfl hQ.2.1 (by decide) (Nat.le_of_ble_eq_true rfl) (by omega) (d_emit tx n (cAdv (cAdv S)) C (setI (setI m r 3 ((S.2 : Int) + 1)) r 3 (((cAdv S).2 : Int) + 1)) r (opc x8 (2 * (x134 - 65)))   hQ hA165 (by omega)) ?_
                    rintro _ _ ⟨rfl, Ix180, rfl, hP180, hF180⟩ ok180 le180
                    have lc180 : (C ++ [opc x8 (2 * (x134 - 65))]).length = C.length + 1 := by rw [List.length_append]; rfl
                    refine V_iconst (pc := 183) dX1_operand_183 (by unfold I32; omega) ?_
                    refine V_reti (pc := 184) dX1_operand_184 (show _ = (0 : Int) ∨ _ = (1 : Int) from by first | exact Or.inl rfl | exact Or.inr rfl | omega) ?_
                    first
                      | (exfalso; omega)
                      | (have oo_ := opS_c (tx := tx) (n := n) (S := S) (by omega) (by omega)
                         have hk_ : x8 = 99 := by omega
                         have hl_ : x134 = ccS tx n (cAdv S) := by omega
                         rw [hk_, hl_] at hP180
                         refine ⟨mI (wI (setI (setI m r 3 ((S.2 : Int) + 1)) r 3 (((cAdv S).2 : Int) + 1)) Ix180), rfl, (DFr.tr (DFr.set (DFr.set DFr.rf (by omega)) (by omega)) hF180), Or.inl ?_⟩
                         rw [oo_.1, oo_.2]
                         exact ⟨hP.2.2.2.2.2.2.2.2.1, rfl, hP180⟩)
                · skip
                  refine V_ld (pc := 150) dX1_operand_150 (v := vr r) rfl rfl ?_
                  refine V_callV (pc := 151) dX1_operand_151 (F' := 0) (As := []) (st := []) cw_RX1_45 rfl rfl hQ.2.1 (by decide) (Nat.le_of_ble_eq_true rfl) (by omega) (d_failed n (setI m r 3 ((S.2 : Int) + 1)) r   hQ) ?_
                  rintro _ _ ⟨x151, rfl, Ix151, rfl, rfl, hI151, hF151⟩ ok151 le151
                  refine V_reti (pc := 154) dX1_operand_154 (show _ = (0 : Int) ∨ _ = (1 : Int) from by first | exact Or.inl rfl | exact Or.inr rfl | omega) ?_
                  first
                    | (exfalso; omega)
                    | (have oo_ := opS_b (tx := tx) (n := n) (S := S) (by omega) (by omega)
                       refine ⟨mI (wI (setI m r 3 ((S.2 : Int) + 1)) Ix151), rfl, (DFr.tr (DFr.set DFr.rf (by omega)) hF151), Or.inr ?_⟩
                       rw [oo_]
                       exact ⟨rfl, rfl, hI151.trans ((if_pos hA115.2.2.1).trans hA115.2.1)⟩)
              · skip
                refine V_ld (pc := 66) dX1_operand_66 (v := vi x8) rfl rfl ?_
                refine V_bipush (pc := 67) dX1_operand_67 (by unfold I32; omega) (by decide) ?_
                refine V_icmp_ne (pc := 69) dX1_operand_69 (tgt := 76) rfl (fun h69 => ?_) (fun h69 => ?_)
                · skip
                  refine V_iconst (pc := 76) dX1_operand_76 (by unfold I32; omega) ?_
                  refine V_st (pc := 77) dX1_operand_77 (ls' := [(4, vi 0), (3, vi 0), (2, vi 0), (1, vi x8), (0, vr r)]) rfl (Nat.le_of_ble_eq_true rfl) rfl ?_
                  refine V_ld (pc := 79) dX1_operand_79 (v := vi 0) rfl rfl ?_
                  refine V_if_eq (pc := 80) dX1_operand_80 (tgt := 91) rfl (fun _ => ?_) (fun h_ => absurd h_ (by decide))
                  refine V_ld (pc := 91) dX1_operand_91 (v := vi 0) rfl rfl ?_
                  refine V_if_ne (pc := 92) dX1_operand_92 (tgt := 105) rfl (fun h_ => absurd h_ (by decide)) (fun _ => ?_)
                  refine V_ld (pc := 95) dX1_operand_95 (v := vi 0) rfl rfl ?_
                  refine V_if_ne (pc := 97) dX1_operand_97 (tgt := 105) rfl (fun h_ => absurd h_ (by decide)) (fun _ => ?_)
                  refine V_ld (pc := 100) dX1_operand_100 (v := vr r) rfl rfl ?_
                  refine V_callV (pc := 101) dX1_operand_101 (F' := 2) (As := []) (st := []) cw_RX1_94 rfl rfl hQ.2.1 (by decide) (Nat.le_of_ble_eq_true rfl) (by omega) (d_number tx n S C m r   (by first | assumption | omega) hQ hP hlt (by omega)) ?_
                  rintro _ _ ⟨x101, rfl, Ix101, rfl, hx101, hO101⟩ ok101 le101
                  have hz101 := DOut.b hO101
                  refine V_reti (pc := 104) dX1_operand_104 (show _ = (0 : Int) ∨ _ = (1 : Int) from by first | exact Or.inl rfl | exact Or.inr rfl | omega) ?_
                  refine ⟨mI (wI m Ix101), rfl, (DFr.tr DFr.rf hx101), ?_⟩
                  exact hO101
                · skip
                  refine V_iconst (pc := 72) dX1_operand_72 (by unfold I32; omega) ?_
                  refine V_goto (pc := 73) dX1_operand_73 (tgt := 77) rfl ?_
                  refine V_st (pc := 77) dX1_operand_77 (ls' := [(4, vi 1), (3, vi 0), (2, vi 0), (1, vi x8), (0, vr r)]) rfl (Nat.le_of_ble_eq_true rfl) rfl ?_
                  refine V_ld (pc := 79) dX1_operand_79 (v := vi 0) rfl rfl ?_
                  refine V_if_eq (pc := 80) dX1_operand_80 (tgt := 91) rfl (fun _ => ?_) (fun h_ => absurd h_ (by decide))
                  refine V_ld (pc := 91) dX1_operand_91 (v := vi 0) rfl rfl ?_
                  refine V_if_ne (pc := 92) dX1_operand_92 (tgt := 105) rfl (fun h_ => absurd h_ (by decide)) (fun _ => ?_)
                  refine V_ld (pc := 95) dX1_operand_95 (v := vi 1) rfl rfl ?_
                  refine V_if_ne (pc := 97) dX1_operand_97 (tgt := 105) rfl (fun _ => ?_) (fun h_ => absurd h_ (by decide))
                  refine V_ld (pc := 105) dX1_operand_105 (v := vr r) rfl rfl ?_
                  refine V_dup (pc := 106) dX1_operand_106 rfl ?_
                  refine V_getIv (pc := 107) dX1_operand_107 (v := (S.2 : Int)) fw_RX1_34 rfl hQ.2.1 hP.2.1 (fun g107 => ?_)
                  refine V_iconst (pc := 110) dX1_operand_110 (by unfold I32; omega) ?_
                  refine V_iadd (pc := 111) dX1_operand_111 (by unfold I32 at *; omega) ?_
                  refine V_putI (pc := 112) dX1_operand_112 fw_RX1_34 rfl hQ.2.1 (Or.inl rfl) (Or.inl rfl) ?_
                  have lthA115 : S.2 < n := by first | omega | exact (cc_lt (tx := tx) (n := n) (S := S) (by omega)).2
                  have hA115 : DQ (mI (setI m r 3 ((S.2 : Int) + 1))) r tx n (cAdv S) C := DQ.adv hP rfl lthA115
                  have ehA115 : (cAdv S).2 = S.2 + 1 := rfl
                  refine V_ld (pc := 115) dX1_operand_115 (v := vi 0) rfl rfl ?_
                  refine V_if_eq (pc := 116) dX1_operand_116 (tgt := 126) rfl (fun _ => ?_) (fun h_ => absurd h_ (by decide))
                  refine V_ld (pc := 126) dX1_operand_126 (v := vr r) rfl rfl ?_
                  refine V_getRv (pc := 127) dX1_operand_127 (o' := 13) fw_RX1_21 rfl hQ.2.1 hQ.2.2.1 ?_
                  refine V_ld (pc := 130) dX1_operand_130 (v := vr r) rfl rfl ?_
                  refine V_getIv (pc := 131) dX1_operand_131 (v := ((cAdv S).2 : Int)) fw_RX1_34 rfl hQ.2.1 hA115.2.1 (fun g131 => ?_)
                  refine V_callV (pc := 134) dX1_operand_134 (F' := 0) (As := [vi ((cAdv S).2 : Int)]) (st := []) cw_RX1_37 rfl rfl hL.t13 (by decide) (Nat.le_of_ble_eq_true rfl) (by omega) (c_Text_at  (setI m r 3 ((S.2 : Int) + 1)) 13 ((cAdv S).2 : Int) 14  hL.t13 hL.r13_0 hL.t14) ?_
                  rintro _ _ ⟨x134, rfl, hx134, rfl⟩ ok134 le134
                  obtain ⟨cr134, cr1340, cr1341, cr1342⟩ := DQ.at hA115 rfl hx134
                  refine V_bipush (pc := 137) dX1_operand_137 (by unfold I32; omega) (by decide) ?_
                  refine V_isub (pc := 139) dX1_operand_139 (by unfold I32 at *; omega) ?_
                  refine V_st (pc := 140) dX1_operand_140 (ls' := [(5, vi (x134 - 65)), (4, vi 1), (3, vi 0), (2, vi 0), (1, vi x8), (0, vr r)]) rfl (Nat.le_of_ble_eq_true rfl) rfl ?_
                  refine V_ld (pc := 142) dX1_operand_142 (v := vi (x134 - 65)) rfl rfl ?_
                  refine V_callSN (pc := 144) dX1_operand_144 (F' := 0) (As := [vi (x134 - 65)]) (st := []) cn_RX1_41 rfl rfl (Nat.le_of_ble_eq_true rfl) (by omega) (c_isLetter  (setI m r 3 ((S.2 : Int) + 1)) (x134 - 65)   ) ?_
                  rintro _ _ ⟨x144, rfl, hx144, rfl⟩ ok144 le144
                  refine V_if_ne (pc := 147) dX1_operand_147 (tgt := 155) rfl (fun h147 => ?_) (fun h147 => ?_)
                  · skip
                    refine V_ld (pc := 155) dX1_operand_155 (v := vr r) rfl rfl ?_
                    refine V_dup (pc := 156) dX1_operand_156 rfl ?_
                    refine V_getIv (pc := 157) dX1_operand_157 (v := ((cAdv S).2 : Int)) fw_RX1_34 rfl hQ.2.1 hA115.2.1 (fun g157 => ?_)
                    refine V_iconst (pc := 160) dX1_operand_160 (by unfold I32; omega) ?_
                    refine V_iadd (pc := 161) dX1_operand_161 (by unfold I32 at *; omega) ?_
                    refine V_putI (pc := 162) dX1_operand_162 fw_RX1_34 rfl hQ.2.1 (Or.inl rfl) (Or.inl rfl) ?_
                    have lthA165 : (cAdv S).2 < n := by first | omega | exact (cc_lt (tx := tx) (n := n) (S := (cAdv S)) (by omega)).2
                    have hA165 : DQ (mI (setI (setI m r 3 ((S.2 : Int) + 1)) r 3 (((cAdv S).2 : Int) + 1))) r tx n (cAdv (cAdv S)) C := DQ.adv hA115 rfl lthA165
                    have ehA165 : (cAdv (cAdv S)).2 = (cAdv S).2 + 1 := rfl
                    refine V_ld (pc := 165) dX1_operand_165 (v := vi x8) rfl rfl ?_
                    refine V_bipush (pc := 166) dX1_operand_166 (by unfold I32; omega) (by decide) ?_
                    refine V_icmp_ne (pc := 168) dX1_operand_168 (tgt := 185) rfl (fun h168 => ?_) (fun h168 => ?_)
                    · skip
                      refine V_ld (pc := 185) dX1_operand_185 (v := vr r) rfl rfl ?_
                      refine V_ld (pc := 186) dX1_operand_186 (v := vi x8) rfl rfl ?_
                      refine V_ld (pc := 187) dX1_operand_187 (v := vi (x134 - 65)) rfl rfl ?_
                      refine V_callV (pc := 189) dX1_operand_189 (F' := 2) (As := [vi x8, vi (x134 - 65)]) (st := []) cw_RX1_90 rfl rfl hQ.2.1 (by decide) (Nat.le_of_ble_eq_true rfl) (by omega) (d_column tx n (cAdv (cAdv S)) C (setI (setI m r 3 ((S.2 : Int) + 1)) r 3 (((cAdv S).2 : Int) + 1)) r x8 (x134 - 65)   (by first | assumption | omega) hQ hA165 (by omega)) ?_
                      rintro _ _ ⟨x189, rfl, Ix189, rfl, hx189, hO189⟩ ok189 le189
                      have hz189 := DOut.b hO189
                      refine V_reti (pc := 192) dX1_operand_192 (show _ = (0 : Int) ∨ _ = (1 : Int) from by first | exact Or.inl rfl | exact Or.inr rfl | omega) ?_
                      first
                        | (exfalso; omega)
                        | (have oo_ := opS_l (tx := tx) (n := n) (S := S) (by omega) (by omega)
                           have hk_ : x8 = ccS tx n S := by omega
                           have hl_ : x134 = ccS tx n (cAdv S) := by omega
                           rw [hk_, hl_] at hO189
                           refine ⟨mI (wI (setI (setI m r 3 ((S.2 : Int) + 1)) r 3 (((cAdv S).2 : Int) + 1)) Ix189), rfl, (DFr.tr (DFr.set (DFr.set DFr.rf (by omega)) (by omega)) hx189), ?_⟩
                           rw [oo_.1, oo_.2]
                           exact hO189)
                    · skip
                      refine V_ld (pc := 171) dX1_operand_171 (v := vr r) rfl rfl ?_
                      refine V_ld (pc := 172) dX1_operand_172 (v := vi x8) rfl rfl ?_
                      refine V_iconst (pc := 173) dX1_operand_173 (by unfold I32; omega) ?_
                      refine V_ld (pc := 174) dX1_operand_174 (v := vi (x134 - 65)) rfl rfl ?_
                      refine V_imul (pc := 176) dX1_operand_176 (by unfold I32 at *; omega) ?_
                      refine V_callS (pc := 177) dX1_operand_177 (F' := 0) (As := [vi x8, vi (2 * (x134 - 65))]) (st := [vr r]) cw_RX1_97 rfl rfl (Nat.le_of_ble_eq_true rfl) (by omega) (d_opc  (setI (setI m r 3 ((S.2 : Int) + 1)) r 3 (((cAdv S).2 : Int) + 1)) x8 (2 * (x134 - 65))   ) ?_
                      rintro _ _ ⟨x177, rfl, rfl, rfl⟩ ok177 le177
                      refine V_callV (pc := 180) dX1_operand_180 (F' := 0) (As := [vi (opc x8 (2 * (x134 - 65)))]) (st := []) cw_RX1_77 rfl rfl hQ.2.1 (by decide) (Nat.le_of_ble_eq_true rfl) (by omega) (d_emit tx n (cAdv (cAdv S)) C (setI (setI m r 3 ((S.2 : Int) + 1)) r 3 (((cAdv S).2 : Int) + 1)) r (opc x8 (2 * (x134 - 65)))   hQ hA165 (by omega)) ?_
                      rintro _ _ ⟨rfl, Ix180, rfl, hP180, hF180⟩ ok180 le180
                      have lc180 : (C ++ [opc x8 (2 * (x134 - 65))]).length = C.length + 1 := by rw [List.length_append]; rfl
                      refine V_iconst (pc := 183) dX1_operand_183 (by unfold I32; omega) ?_
                      refine V_reti (pc := 184) dX1_operand_184 (show _ = (0 : Int) ∨ _ = (1 : Int) from by first | exact Or.inl rfl | exact Or.inr rfl | omega) ?_
                      first
                        | (exfalso; omega)
                        | (have oo_ := opS_c (tx := tx) (n := n) (S := S) (by omega) (by omega)
                           have hk_ : x8 = 99 := by omega
                           have hl_ : x134 = ccS tx n (cAdv S) := by omega
                           rw [hk_, hl_] at hP180
                           refine ⟨mI (wI (setI (setI m r 3 ((S.2 : Int) + 1)) r 3 (((cAdv S).2 : Int) + 1)) Ix180), rfl, (DFr.tr (DFr.set (DFr.set DFr.rf (by omega)) (by omega)) hF180), Or.inl ?_⟩
                           rw [oo_.1, oo_.2]
                           exact ⟨hP.2.2.2.2.2.2.2.2.1, rfl, hP180⟩)
                  · skip
                    refine V_ld (pc := 150) dX1_operand_150 (v := vr r) rfl rfl ?_
                    refine V_callV (pc := 151) dX1_operand_151 (F' := 0) (As := []) (st := []) cw_RX1_45 rfl rfl hQ.2.1 (by decide) (Nat.le_of_ble_eq_true rfl) (by omega) (d_failed n (setI m r 3 ((S.2 : Int) + 1)) r   hQ) ?_
                    rintro _ _ ⟨x151, rfl, Ix151, rfl, rfl, hI151, hF151⟩ ok151 le151
                    refine V_reti (pc := 154) dX1_operand_154 (show _ = (0 : Int) ∨ _ = (1 : Int) from by first | exact Or.inl rfl | exact Or.inr rfl | omega) ?_
                    first
                      | (exfalso; omega)
                      | (have oo_ := opS_b (tx := tx) (n := n) (S := S) (by omega) (by omega)
                         refine ⟨mI (wI (setI m r 3 ((S.2 : Int) + 1)) Ix151), rfl, (DFr.tr (DFr.set DFr.rf (by omega)) hF151), Or.inr ?_⟩
                         rw [oo_]
                         exact ⟨rfl, rfl, hI151.trans ((if_pos hA115.2.2.1).trans hA115.2.1)⟩)
        · skip
          refine V_iconst (pc := 42) dX1_operand_42 (by unfold I32; omega) ?_
          refine V_goto (pc := 43) dX1_operand_43 (tgt := 47) rfl ?_
          refine V_st (pc := 47) dX1_operand_47 (ls' := [(3, vi 1), (2, vi 0), (1, vi x8), (0, vr r)]) rfl (Nat.le_of_ble_eq_true rfl) rfl ?_
          refine V_ld (pc := 48) dX1_operand_48 (v := vi x8) rfl rfl ?_
          refine V_bipush (pc := 49) dX1_operand_49 (by unfold I32; omega) (by decide) ?_
          refine V_icmp_eq (pc := 51) dX1_operand_51 (tgt := 72) rfl (fun h51 => ?_) (fun h51 => ?_)
          · skip
            refine V_iconst (pc := 72) dX1_operand_72 (by unfold I32; omega) ?_
            refine V_goto (pc := 73) dX1_operand_73 (tgt := 77) rfl ?_
            refine V_st (pc := 77) dX1_operand_77 (ls' := [(4, vi 1), (3, vi 1), (2, vi 0), (1, vi x8), (0, vr r)]) rfl (Nat.le_of_ble_eq_true rfl) rfl ?_
            refine V_ld (pc := 79) dX1_operand_79 (v := vi 0) rfl rfl ?_
            refine V_if_eq (pc := 80) dX1_operand_80 (tgt := 91) rfl (fun _ => ?_) (fun h_ => absurd h_ (by decide))
            refine V_ld (pc := 91) dX1_operand_91 (v := vi 1) rfl rfl ?_
            refine V_if_ne (pc := 92) dX1_operand_92 (tgt := 105) rfl (fun _ => ?_) (fun h_ => absurd h_ (by decide))
            refine V_ld (pc := 105) dX1_operand_105 (v := vr r) rfl rfl ?_
            refine V_dup (pc := 106) dX1_operand_106 rfl ?_
            refine V_getIv (pc := 107) dX1_operand_107 (v := (S.2 : Int)) fw_RX1_34 rfl hQ.2.1 hP.2.1 (fun g107 => ?_)
            refine V_iconst (pc := 110) dX1_operand_110 (by unfold I32; omega) ?_
            refine V_iadd (pc := 111) dX1_operand_111 (by unfold I32 at *; omega) ?_
            refine V_putI (pc := 112) dX1_operand_112 fw_RX1_34 rfl hQ.2.1 (Or.inl rfl) (Or.inl rfl) ?_
            have lthA115 : S.2 < n := by first | omega | exact (cc_lt (tx := tx) (n := n) (S := S) (by omega)).2
            have hA115 : DQ (mI (setI m r 3 ((S.2 : Int) + 1))) r tx n (cAdv S) C := DQ.adv hP rfl lthA115
            have ehA115 : (cAdv S).2 = S.2 + 1 := rfl
            refine V_ld (pc := 115) dX1_operand_115 (v := vi 1) rfl rfl ?_
            refine V_if_eq (pc := 116) dX1_operand_116 (tgt := 126) rfl (fun h_ => absurd h_ (by decide)) (fun _ => ?_)
            refine V_ld (pc := 119) dX1_operand_119 (v := vr r) rfl rfl ?_
            refine V_ld (pc := 120) dX1_operand_120 (v := vi x8) rfl rfl ?_
            refine V_iconst (pc := 121) dX1_operand_121 (by unfold I32; omega) ?_
            refine V_callV (pc := 122) dX1_operand_122 (F' := 2) (As := [vi x8, vi 0]) (st := []) cw_RX1_90 rfl rfl hQ.2.1 (by decide) (Nat.le_of_ble_eq_true rfl) (by omega) (d_column tx n (cAdv S) C (setI m r 3 ((S.2 : Int) + 1)) r x8 0   (by first | assumption | omega) hQ hA115 (by omega)) ?_
            rintro _ _ ⟨x122, rfl, Ix122, rfl, hx122, hO122⟩ ok122 le122
            have hz122 := DOut.b hO122
            refine V_reti (pc := 125) dX1_operand_125 (show _ = (0 : Int) ∨ _ = (1 : Int) from by first | exact Or.inl rfl | exact Or.inr rfl | omega) ?_
            first
              | (exfalso; omega)
              | (have oo_ := opS_pn (tx := tx) (n := n) (S := S) (by omega)
                 have hk_ : x8 = ccS tx n S := by omega
                 have h0_ : 2 * 0 + (cCol tx n (cAdv S)).1 = (cCol tx n (cAdv S)).1 := by omega
                 rw [h0_, hk_] at hO122
                 refine ⟨mI (wI (setI m r 3 ((S.2 : Int) + 1)) Ix122), rfl, (DFr.tr (DFr.set DFr.rf (by omega)) hx122), ?_⟩
                 rw [oo_.1, oo_.2]
                 exact hO122)
          · skip
            refine V_ld (pc := 54) dX1_operand_54 (v := vi x8) rfl rfl ?_
            refine V_bipush (pc := 55) dX1_operand_55 (by unfold I32; omega) (by decide) ?_
            refine V_icmp_eq (pc := 57) dX1_operand_57 (tgt := 72) rfl (fun h57 => ?_) (fun h57 => ?_)
            · skip
              refine V_iconst (pc := 72) dX1_operand_72 (by unfold I32; omega) ?_
              refine V_goto (pc := 73) dX1_operand_73 (tgt := 77) rfl ?_
              refine V_st (pc := 77) dX1_operand_77 (ls' := [(4, vi 1), (3, vi 1), (2, vi 0), (1, vi x8), (0, vr r)]) rfl (Nat.le_of_ble_eq_true rfl) rfl ?_
              refine V_ld (pc := 79) dX1_operand_79 (v := vi 0) rfl rfl ?_
              refine V_if_eq (pc := 80) dX1_operand_80 (tgt := 91) rfl (fun _ => ?_) (fun h_ => absurd h_ (by decide))
              refine V_ld (pc := 91) dX1_operand_91 (v := vi 1) rfl rfl ?_
              refine V_if_ne (pc := 92) dX1_operand_92 (tgt := 105) rfl (fun _ => ?_) (fun h_ => absurd h_ (by decide))
              refine V_ld (pc := 105) dX1_operand_105 (v := vr r) rfl rfl ?_
              refine V_dup (pc := 106) dX1_operand_106 rfl ?_
              refine V_getIv (pc := 107) dX1_operand_107 (v := (S.2 : Int)) fw_RX1_34 rfl hQ.2.1 hP.2.1 (fun g107 => ?_)
              refine V_iconst (pc := 110) dX1_operand_110 (by unfold I32; omega) ?_
              refine V_iadd (pc := 111) dX1_operand_111 (by unfold I32 at *; omega) ?_
              refine V_putI (pc := 112) dX1_operand_112 fw_RX1_34 rfl hQ.2.1 (Or.inl rfl) (Or.inl rfl) ?_
              have lthA115 : S.2 < n := by first | omega | exact (cc_lt (tx := tx) (n := n) (S := S) (by omega)).2
              have hA115 : DQ (mI (setI m r 3 ((S.2 : Int) + 1))) r tx n (cAdv S) C := DQ.adv hP rfl lthA115
              have ehA115 : (cAdv S).2 = S.2 + 1 := rfl
              refine V_ld (pc := 115) dX1_operand_115 (v := vi 1) rfl rfl ?_
              refine V_if_eq (pc := 116) dX1_operand_116 (tgt := 126) rfl (fun h_ => absurd h_ (by decide)) (fun _ => ?_)
              refine V_ld (pc := 119) dX1_operand_119 (v := vr r) rfl rfl ?_
              refine V_ld (pc := 120) dX1_operand_120 (v := vi x8) rfl rfl ?_
              refine V_iconst (pc := 121) dX1_operand_121 (by unfold I32; omega) ?_
              refine V_callV (pc := 122) dX1_operand_122 (F' := 2) (As := [vi x8, vi 0]) (st := []) cw_RX1_90 rfl rfl hQ.2.1 (by decide) (Nat.le_of_ble_eq_true rfl) (by omega) (d_column tx n (cAdv S) C (setI m r 3 ((S.2 : Int) + 1)) r x8 0   (by first | assumption | omega) hQ hA115 (by omega)) ?_
              rintro _ _ ⟨x122, rfl, Ix122, rfl, hx122, hO122⟩ ok122 le122
              have hz122 := DOut.b hO122
              refine V_reti (pc := 125) dX1_operand_125 (show _ = (0 : Int) ∨ _ = (1 : Int) from by first | exact Or.inl rfl | exact Or.inr rfl | omega) ?_
              first
                | (exfalso; omega)
                | (have oo_ := opS_pn (tx := tx) (n := n) (S := S) (by omega)
                   have hk_ : x8 = ccS tx n S := by omega
                   have h0_ : 2 * 0 + (cCol tx n (cAdv S)).1 = (cCol tx n (cAdv S)).1 := by omega
                   rw [h0_, hk_] at hO122
                   refine ⟨mI (wI (setI m r 3 ((S.2 : Int) + 1)) Ix122), rfl, (DFr.tr (DFr.set DFr.rf (by omega)) hx122), ?_⟩
                   rw [oo_.1, oo_.2]
                   exact hO122)
            · skip
              refine V_ld (pc := 60) dX1_operand_60 (v := vi x8) rfl rfl ?_
              refine V_bipush (pc := 61) dX1_operand_61 (by unfold I32; omega) (by decide) ?_
              refine V_icmp_eq (pc := 63) dX1_operand_63 (tgt := 72) rfl (fun h63 => ?_) (fun h63 => ?_)
              · skip
                refine V_iconst (pc := 72) dX1_operand_72 (by unfold I32; omega) ?_
                refine V_goto (pc := 73) dX1_operand_73 (tgt := 77) rfl ?_
                refine V_st (pc := 77) dX1_operand_77 (ls' := [(4, vi 1), (3, vi 1), (2, vi 0), (1, vi x8), (0, vr r)]) rfl (Nat.le_of_ble_eq_true rfl) rfl ?_
                refine V_ld (pc := 79) dX1_operand_79 (v := vi 0) rfl rfl ?_
                refine V_if_eq (pc := 80) dX1_operand_80 (tgt := 91) rfl (fun _ => ?_) (fun h_ => absurd h_ (by decide))
                refine V_ld (pc := 91) dX1_operand_91 (v := vi 1) rfl rfl ?_
                refine V_if_ne (pc := 92) dX1_operand_92 (tgt := 105) rfl (fun _ => ?_) (fun h_ => absurd h_ (by decide))
                refine V_ld (pc := 105) dX1_operand_105 (v := vr r) rfl rfl ?_
                refine V_dup (pc := 106) dX1_operand_106 rfl ?_
                refine V_getIv (pc := 107) dX1_operand_107 (v := (S.2 : Int)) fw_RX1_34 rfl hQ.2.1 hP.2.1 (fun g107 => ?_)
                refine V_iconst (pc := 110) dX1_operand_110 (by unfold I32; omega) ?_
                refine V_iadd (pc := 111) dX1_operand_111 (by unfold I32 at *; omega) ?_
                refine V_putI (pc := 112) dX1_operand_112 fw_RX1_34 rfl hQ.2.1 (Or.inl rfl) (Or.inl rfl) ?_
                have lthA115 : S.2 < n := by first | omega | exact (cc_lt (tx := tx) (n := n) (S := S) (by omega)).2
                have hA115 : DQ (mI (setI m r 3 ((S.2 : Int) + 1))) r tx n (cAdv S) C := DQ.adv hP rfl lthA115
                have ehA115 : (cAdv S).2 = S.2 + 1 := rfl
                refine V_ld (pc := 115) dX1_operand_115 (v := vi 1) rfl rfl ?_
                refine V_if_eq (pc := 116) dX1_operand_116 (tgt := 126) rfl (fun h_ => absurd h_ (by decide)) (fun _ => ?_)
                refine V_ld (pc := 119) dX1_operand_119 (v := vr r) rfl rfl ?_
                refine V_ld (pc := 120) dX1_operand_120 (v := vi x8) rfl rfl ?_
                refine V_iconst (pc := 121) dX1_operand_121 (by unfold I32; omega) ?_
                refine V_callV (pc := 122) dX1_operand_122 (F' := 2) (As := [vi x8, vi 0]) (st := []) cw_RX1_90 rfl rfl hQ.2.1 (by decide) (Nat.le_of_ble_eq_true rfl) (by omega) (d_column tx n (cAdv S) C (setI m r 3 ((S.2 : Int) + 1)) r x8 0   (by first | assumption | omega) hQ hA115 (by omega)) ?_
                rintro _ _ ⟨x122, rfl, Ix122, rfl, hx122, hO122⟩ ok122 le122
                have hz122 := DOut.b hO122
                refine V_reti (pc := 125) dX1_operand_125 (show _ = (0 : Int) ∨ _ = (1 : Int) from by first | exact Or.inl rfl | exact Or.inr rfl | omega) ?_
                first
                  | (exfalso; omega)
                  | (have oo_ := opS_pn (tx := tx) (n := n) (S := S) (by omega)
                     have hk_ : x8 = ccS tx n S := by omega
                     have h0_ : 2 * 0 + (cCol tx n (cAdv S)).1 = (cCol tx n (cAdv S)).1 := by omega
                     rw [h0_, hk_] at hO122
                     refine ⟨mI (wI (setI m r 3 ((S.2 : Int) + 1)) Ix122), rfl, (DFr.tr (DFr.set DFr.rf (by omega)) hx122), ?_⟩
                     rw [oo_.1, oo_.2]
                     exact hO122)
              · skip
                refine V_ld (pc := 66) dX1_operand_66 (v := vi x8) rfl rfl ?_
                refine V_bipush (pc := 67) dX1_operand_67 (by unfold I32; omega) (by decide) ?_
                refine V_icmp_ne (pc := 69) dX1_operand_69 (tgt := 76) rfl (fun h69 => ?_) (fun h69 => ?_)
                · skip
                  refine V_iconst (pc := 76) dX1_operand_76 (by unfold I32; omega) ?_
                  refine V_st (pc := 77) dX1_operand_77 (ls' := [(4, vi 0), (3, vi 1), (2, vi 0), (1, vi x8), (0, vr r)]) rfl (Nat.le_of_ble_eq_true rfl) rfl ?_
                  refine V_ld (pc := 79) dX1_operand_79 (v := vi 0) rfl rfl ?_
                  refine V_if_eq (pc := 80) dX1_operand_80 (tgt := 91) rfl (fun _ => ?_) (fun h_ => absurd h_ (by decide))
                  refine V_ld (pc := 91) dX1_operand_91 (v := vi 1) rfl rfl ?_
                  refine V_if_ne (pc := 92) dX1_operand_92 (tgt := 105) rfl (fun _ => ?_) (fun h_ => absurd h_ (by decide))
                  refine V_ld (pc := 105) dX1_operand_105 (v := vr r) rfl rfl ?_
                  refine V_dup (pc := 106) dX1_operand_106 rfl ?_
                  refine V_getIv (pc := 107) dX1_operand_107 (v := (S.2 : Int)) fw_RX1_34 rfl hQ.2.1 hP.2.1 (fun g107 => ?_)
                  refine V_iconst (pc := 110) dX1_operand_110 (by unfold I32; omega) ?_
                  refine V_iadd (pc := 111) dX1_operand_111 (by unfold I32 at *; omega) ?_
                  refine V_putI (pc := 112) dX1_operand_112 fw_RX1_34 rfl hQ.2.1 (Or.inl rfl) (Or.inl rfl) ?_
                  have lthA115 : S.2 < n := by first | omega | exact (cc_lt (tx := tx) (n := n) (S := S) (by omega)).2
                  have hA115 : DQ (mI (setI m r 3 ((S.2 : Int) + 1))) r tx n (cAdv S) C := DQ.adv hP rfl lthA115
                  have ehA115 : (cAdv S).2 = S.2 + 1 := rfl
                  refine V_ld (pc := 115) dX1_operand_115 (v := vi 1) rfl rfl ?_
                  refine V_if_eq (pc := 116) dX1_operand_116 (tgt := 126) rfl (fun h_ => absurd h_ (by decide)) (fun _ => ?_)
                  refine V_ld (pc := 119) dX1_operand_119 (v := vr r) rfl rfl ?_
                  refine V_ld (pc := 120) dX1_operand_120 (v := vi x8) rfl rfl ?_
                  refine V_iconst (pc := 121) dX1_operand_121 (by unfold I32; omega) ?_
                  refine V_callV (pc := 122) dX1_operand_122 (F' := 2) (As := [vi x8, vi 0]) (st := []) cw_RX1_90 rfl rfl hQ.2.1 (by decide) (Nat.le_of_ble_eq_true rfl) (by omega) (d_column tx n (cAdv S) C (setI m r 3 ((S.2 : Int) + 1)) r x8 0   (by first | assumption | omega) hQ hA115 (by omega)) ?_
                  rintro _ _ ⟨x122, rfl, Ix122, rfl, hx122, hO122⟩ ok122 le122
                  have hz122 := DOut.b hO122
                  refine V_reti (pc := 125) dX1_operand_125 (show _ = (0 : Int) ∨ _ = (1 : Int) from by first | exact Or.inl rfl | exact Or.inr rfl | omega) ?_
                  first
                    | (exfalso; omega)
                    | (have oo_ := opS_pn (tx := tx) (n := n) (S := S) (by omega)
                       have hk_ : x8 = ccS tx n S := by omega
                       have h0_ : 2 * 0 + (cCol tx n (cAdv S)).1 = (cCol tx n (cAdv S)).1 := by omega
                       rw [h0_, hk_] at hO122
                       refine ⟨mI (wI (setI m r 3 ((S.2 : Int) + 1)) Ix122), rfl, (DFr.tr (DFr.set DFr.rf (by omega)) hx122), ?_⟩
                       rw [oo_.1, oo_.2]
                       exact hO122)
                · skip
                  refine V_iconst (pc := 72) dX1_operand_72 (by unfold I32; omega) ?_
                  refine V_goto (pc := 73) dX1_operand_73 (tgt := 77) rfl ?_
                  refine V_st (pc := 77) dX1_operand_77 (ls' := [(4, vi 1), (3, vi 1), (2, vi 0), (1, vi x8), (0, vr r)]) rfl (Nat.le_of_ble_eq_true rfl) rfl ?_
                  refine V_ld (pc := 79) dX1_operand_79 (v := vi 0) rfl rfl ?_
                  refine V_if_eq (pc := 80) dX1_operand_80 (tgt := 91) rfl (fun _ => ?_) (fun h_ => absurd h_ (by decide))
                  refine V_ld (pc := 91) dX1_operand_91 (v := vi 1) rfl rfl ?_
                  refine V_if_ne (pc := 92) dX1_operand_92 (tgt := 105) rfl (fun _ => ?_) (fun h_ => absurd h_ (by decide))
                  refine V_ld (pc := 105) dX1_operand_105 (v := vr r) rfl rfl ?_
                  refine V_dup (pc := 106) dX1_operand_106 rfl ?_
                  refine V_getIv (pc := 107) dX1_operand_107 (v := (S.2 : Int)) fw_RX1_34 rfl hQ.2.1 hP.2.1 (fun g107 => ?_)
                  refine V_iconst (pc := 110) dX1_operand_110 (by unfold I32; omega) ?_
                  refine V_iadd (pc := 111) dX1_operand_111 (by unfold I32 at *; omega) ?_
                  refine V_putI (pc := 112) dX1_operand_112 fw_RX1_34 rfl hQ.2.1 (Or.inl rfl) (Or.inl rfl) ?_
                  have lthA115 : S.2 < n := by first | omega | exact (cc_lt (tx := tx) (n := n) (S := S) (by omega)).2
                  have hA115 : DQ (mI (setI m r 3 ((S.2 : Int) + 1))) r tx n (cAdv S) C := DQ.adv hP rfl lthA115
                  have ehA115 : (cAdv S).2 = S.2 + 1 := rfl
                  refine V_ld (pc := 115) dX1_operand_115 (v := vi 1) rfl rfl ?_
                  refine V_if_eq (pc := 116) dX1_operand_116 (tgt := 126) rfl (fun h_ => absurd h_ (by decide)) (fun _ => ?_)
                  refine V_ld (pc := 119) dX1_operand_119 (v := vr r) rfl rfl ?_
                  refine V_ld (pc := 120) dX1_operand_120 (v := vi x8) rfl rfl ?_
                  refine V_iconst (pc := 121) dX1_operand_121 (by unfold I32; omega) ?_
                  refine V_callV (pc := 122) dX1_operand_122 (F' := 2) (As := [vi x8, vi 0]) (st := []) cw_RX1_90 rfl rfl hQ.2.1 (by decide) (Nat.le_of_ble_eq_true rfl) (by omega) (d_column tx n (cAdv S) C (setI m r 3 ((S.2 : Int) + 1)) r x8 0   (by first | assumption | omega) hQ hA115 (by omega)) ?_
                  rintro _ _ ⟨x122, rfl, Ix122, rfl, hx122, hO122⟩ ok122 le122
                  have hz122 := DOut.b hO122
                  refine V_reti (pc := 125) dX1_operand_125 (show _ = (0 : Int) ∨ _ = (1 : Int) from by first | exact Or.inl rfl | exact Or.inr rfl | omega) ?_
                  first
                    | (exfalso; omega)
                    | (have oo_ := opS_pn (tx := tx) (n := n) (S := S) (by omega)
                       have hk_ : x8 = ccS tx n S := by omega
                       have h0_ : 2 * 0 + (cCol tx n (cAdv S)).1 = (cCol tx n (cAdv S)).1 := by omega
                       rw [h0_, hk_] at hO122
                       refine ⟨mI (wI (setI m r 3 ((S.2 : Int) + 1)) Ix122), rfl, (DFr.tr (DFr.set DFr.rf (by omega)) hx122), ?_⟩
                       rw [oo_.1, oo_.2]
                       exact hO122)
    · skip
      refine V_iconst (pc := 24) dX1_operand_24 (by unfold I32; omega) ?_
      refine V_goto (pc := 25) dX1_operand_25 (tgt := 29) rfl ?_
      refine V_st (pc := 29) dX1_operand_29 (ls' := [(2, vi 1), (1, vi x8), (0, vr r)]) rfl (Nat.le_of_ble_eq_true rfl) rfl ?_
      refine V_ld (pc := 30) dX1_operand_30 (v := vi x8) rfl rfl ?_
      refine V_bipush (pc := 31) dX1_operand_31 (by unfold I32; omega) (by decide) ?_
      refine V_icmp_eq (pc := 33) dX1_operand_33 (tgt := 42) rfl (fun h33 => ?_) (fun h33 => ?_)
      · skip
        refine V_iconst (pc := 42) dX1_operand_42 (by unfold I32; omega) ?_
        refine V_goto (pc := 43) dX1_operand_43 (tgt := 47) rfl ?_
        refine V_st (pc := 47) dX1_operand_47 (ls' := [(3, vi 1), (2, vi 1), (1, vi x8), (0, vr r)]) rfl (Nat.le_of_ble_eq_true rfl) rfl ?_
        refine V_ld (pc := 48) dX1_operand_48 (v := vi x8) rfl rfl ?_
        refine V_bipush (pc := 49) dX1_operand_49 (by unfold I32; omega) (by decide) ?_
        refine V_icmp_eq (pc := 51) dX1_operand_51 (tgt := 72) rfl (fun h51 => ?_) (fun h51 => ?_)
        · skip
          refine V_iconst (pc := 72) dX1_operand_72 (by unfold I32; omega) ?_
          refine V_goto (pc := 73) dX1_operand_73 (tgt := 77) rfl ?_
          refine V_st (pc := 77) dX1_operand_77 (ls' := [(4, vi 1), (3, vi 1), (2, vi 1), (1, vi x8), (0, vr r)]) rfl (Nat.le_of_ble_eq_true rfl) rfl ?_
          refine V_ld (pc := 79) dX1_operand_79 (v := vi 1) rfl rfl ?_
          refine V_if_eq (pc := 80) dX1_operand_80 (tgt := 91) rfl (fun h_ => absurd h_ (by decide)) (fun _ => ?_)
          refine V_ld (pc := 83) dX1_operand_83 (v := vr r) rfl rfl ?_
          refine V_bipush (pc := 84) dX1_operand_84 (by unfold I32; omega) (by decide) ?_
          refine V_iconst (pc := 86) dX1_operand_86 (by unfold I32; omega) ?_
          refine V_callV (pc := 87) dX1_operand_87 (F' := 2) (As := [vi 120, vi 0]) (st := []) cw_RX1_90 rfl rfl hQ.2.1 (by decide) (Nat.le_of_ble_eq_true rfl) (by omega) (d_column tx n S C m r 120 0   (by first | assumption | omega) hQ hP (by omega)) ?_
          rintro _ _ ⟨x87, rfl, Ix87, rfl, hx87, hO87⟩ ok87 le87
          have hz87 := DOut.b hO87
          refine V_reti (pc := 90) dX1_operand_90 (show _ = (0 : Int) ∨ _ = (1 : Int) from by first | exact Or.inl rfl | exact Or.inr rfl | omega) ?_
          first
            | (exfalso; omega)
            | (have oo_ := opS_xy (tx := tx) (n := n) (S := S) (by omega)
               have h0_ : 2 * 0 + (cCol tx n S).1 = (cCol tx n S).1 := by omega
               rw [h0_] at hO87
               refine ⟨mI (wI m Ix87), rfl, (DFr.tr DFr.rf hx87), ?_⟩
               rw [oo_.1, oo_.2]
               exact hO87)
        · skip
          refine V_ld (pc := 54) dX1_operand_54 (v := vi x8) rfl rfl ?_
          refine V_bipush (pc := 55) dX1_operand_55 (by unfold I32; omega) (by decide) ?_
          refine V_icmp_eq (pc := 57) dX1_operand_57 (tgt := 72) rfl (fun h57 => ?_) (fun h57 => ?_)
          · skip
            refine V_iconst (pc := 72) dX1_operand_72 (by unfold I32; omega) ?_
            refine V_goto (pc := 73) dX1_operand_73 (tgt := 77) rfl ?_
            refine V_st (pc := 77) dX1_operand_77 (ls' := [(4, vi 1), (3, vi 1), (2, vi 1), (1, vi x8), (0, vr r)]) rfl (Nat.le_of_ble_eq_true rfl) rfl ?_
            refine V_ld (pc := 79) dX1_operand_79 (v := vi 1) rfl rfl ?_
            refine V_if_eq (pc := 80) dX1_operand_80 (tgt := 91) rfl (fun h_ => absurd h_ (by decide)) (fun _ => ?_)
            refine V_ld (pc := 83) dX1_operand_83 (v := vr r) rfl rfl ?_
            refine V_bipush (pc := 84) dX1_operand_84 (by unfold I32; omega) (by decide) ?_
            refine V_iconst (pc := 86) dX1_operand_86 (by unfold I32; omega) ?_
            refine V_callV (pc := 87) dX1_operand_87 (F' := 2) (As := [vi 120, vi 0]) (st := []) cw_RX1_90 rfl rfl hQ.2.1 (by decide) (Nat.le_of_ble_eq_true rfl) (by omega) (d_column tx n S C m r 120 0   (by first | assumption | omega) hQ hP (by omega)) ?_
            rintro _ _ ⟨x87, rfl, Ix87, rfl, hx87, hO87⟩ ok87 le87
            have hz87 := DOut.b hO87
            refine V_reti (pc := 90) dX1_operand_90 (show _ = (0 : Int) ∨ _ = (1 : Int) from by first | exact Or.inl rfl | exact Or.inr rfl | omega) ?_
            first
              | (exfalso; omega)
              | (have oo_ := opS_xy (tx := tx) (n := n) (S := S) (by omega)
                 have h0_ : 2 * 0 + (cCol tx n S).1 = (cCol tx n S).1 := by omega
                 rw [h0_] at hO87
                 refine ⟨mI (wI m Ix87), rfl, (DFr.tr DFr.rf hx87), ?_⟩
                 rw [oo_.1, oo_.2]
                 exact hO87)
          · skip
            refine V_ld (pc := 60) dX1_operand_60 (v := vi x8) rfl rfl ?_
            refine V_bipush (pc := 61) dX1_operand_61 (by unfold I32; omega) (by decide) ?_
            refine V_icmp_eq (pc := 63) dX1_operand_63 (tgt := 72) rfl (fun h63 => ?_) (fun h63 => ?_)
            · skip
              refine V_iconst (pc := 72) dX1_operand_72 (by unfold I32; omega) ?_
              refine V_goto (pc := 73) dX1_operand_73 (tgt := 77) rfl ?_
              refine V_st (pc := 77) dX1_operand_77 (ls' := [(4, vi 1), (3, vi 1), (2, vi 1), (1, vi x8), (0, vr r)]) rfl (Nat.le_of_ble_eq_true rfl) rfl ?_
              refine V_ld (pc := 79) dX1_operand_79 (v := vi 1) rfl rfl ?_
              refine V_if_eq (pc := 80) dX1_operand_80 (tgt := 91) rfl (fun h_ => absurd h_ (by decide)) (fun _ => ?_)
              refine V_ld (pc := 83) dX1_operand_83 (v := vr r) rfl rfl ?_
              refine V_bipush (pc := 84) dX1_operand_84 (by unfold I32; omega) (by decide) ?_
              refine V_iconst (pc := 86) dX1_operand_86 (by unfold I32; omega) ?_
              refine V_callV (pc := 87) dX1_operand_87 (F' := 2) (As := [vi 120, vi 0]) (st := []) cw_RX1_90 rfl rfl hQ.2.1 (by decide) (Nat.le_of_ble_eq_true rfl) (by omega) (d_column tx n S C m r 120 0   (by first | assumption | omega) hQ hP (by omega)) ?_
              rintro _ _ ⟨x87, rfl, Ix87, rfl, hx87, hO87⟩ ok87 le87
              have hz87 := DOut.b hO87
              refine V_reti (pc := 90) dX1_operand_90 (show _ = (0 : Int) ∨ _ = (1 : Int) from by first | exact Or.inl rfl | exact Or.inr rfl | omega) ?_
              first
                | (exfalso; omega)
                | (have oo_ := opS_xy (tx := tx) (n := n) (S := S) (by omega)
                   have h0_ : 2 * 0 + (cCol tx n S).1 = (cCol tx n S).1 := by omega
                   rw [h0_] at hO87
                   refine ⟨mI (wI m Ix87), rfl, (DFr.tr DFr.rf hx87), ?_⟩
                   rw [oo_.1, oo_.2]
                   exact hO87)
            · skip
              refine V_ld (pc := 66) dX1_operand_66 (v := vi x8) rfl rfl ?_
              refine V_bipush (pc := 67) dX1_operand_67 (by unfold I32; omega) (by decide) ?_
              refine V_icmp_ne (pc := 69) dX1_operand_69 (tgt := 76) rfl (fun h69 => ?_) (fun h69 => ?_)
              · skip
                refine V_iconst (pc := 76) dX1_operand_76 (by unfold I32; omega) ?_
                refine V_st (pc := 77) dX1_operand_77 (ls' := [(4, vi 0), (3, vi 1), (2, vi 1), (1, vi x8), (0, vr r)]) rfl (Nat.le_of_ble_eq_true rfl) rfl ?_
                refine V_ld (pc := 79) dX1_operand_79 (v := vi 1) rfl rfl ?_
                refine V_if_eq (pc := 80) dX1_operand_80 (tgt := 91) rfl (fun h_ => absurd h_ (by decide)) (fun _ => ?_)
                refine V_ld (pc := 83) dX1_operand_83 (v := vr r) rfl rfl ?_
                refine V_bipush (pc := 84) dX1_operand_84 (by unfold I32; omega) (by decide) ?_
                refine V_iconst (pc := 86) dX1_operand_86 (by unfold I32; omega) ?_
                refine V_callV (pc := 87) dX1_operand_87 (F' := 2) (As := [vi 120, vi 0]) (st := []) cw_RX1_90 rfl rfl hQ.2.1 (by decide) (Nat.le_of_ble_eq_true rfl) (by omega) (d_column tx n S C m r 120 0   (by first | assumption | omega) hQ hP (by omega)) ?_
                rintro _ _ ⟨x87, rfl, Ix87, rfl, hx87, hO87⟩ ok87 le87
                have hz87 := DOut.b hO87
                refine V_reti (pc := 90) dX1_operand_90 (show _ = (0 : Int) ∨ _ = (1 : Int) from by first | exact Or.inl rfl | exact Or.inr rfl | omega) ?_
                first
                  | (exfalso; omega)
                  | (have oo_ := opS_xy (tx := tx) (n := n) (S := S) (by omega)
                     have h0_ : 2 * 0 + (cCol tx n S).1 = (cCol tx n S).1 := by omega
                     rw [h0_] at hO87
                     refine ⟨mI (wI m Ix87), rfl, (DFr.tr DFr.rf hx87), ?_⟩
                     rw [oo_.1, oo_.2]
                     exact hO87)
              · skip
                refine V_iconst (pc := 72) dX1_operand_72 (by unfold I32; omega) ?_
                refine V_goto (pc := 73) dX1_operand_73 (tgt := 77) rfl ?_
                refine V_st (pc := 77) dX1_operand_77 (ls' := [(4, vi 1), (3, vi 1), (2, vi 1), (1, vi x8), (0, vr r)]) rfl (Nat.le_of_ble_eq_true rfl) rfl ?_
                refine V_ld (pc := 79) dX1_operand_79 (v := vi 1) rfl rfl ?_
                refine V_if_eq (pc := 80) dX1_operand_80 (tgt := 91) rfl (fun h_ => absurd h_ (by decide)) (fun _ => ?_)
                refine V_ld (pc := 83) dX1_operand_83 (v := vr r) rfl rfl ?_
                refine V_bipush (pc := 84) dX1_operand_84 (by unfold I32; omega) (by decide) ?_
                refine V_iconst (pc := 86) dX1_operand_86 (by unfold I32; omega) ?_
                refine V_callV (pc := 87) dX1_operand_87 (F' := 2) (As := [vi 120, vi 0]) (st := []) cw_RX1_90 rfl rfl hQ.2.1 (by decide) (Nat.le_of_ble_eq_true rfl) (by omega) (d_column tx n S C m r 120 0   (by first | assumption | omega) hQ hP (by omega)) ?_
                rintro _ _ ⟨x87, rfl, Ix87, rfl, hx87, hO87⟩ ok87 le87
                have hz87 := DOut.b hO87
                refine V_reti (pc := 90) dX1_operand_90 (show _ = (0 : Int) ∨ _ = (1 : Int) from by first | exact Or.inl rfl | exact Or.inr rfl | omega) ?_
                first
                  | (exfalso; omega)
                  | (have oo_ := opS_xy (tx := tx) (n := n) (S := S) (by omega)
                     have h0_ : 2 * 0 + (cCol tx n S).1 = (cCol tx n S).1 := by omega
                     rw [h0_] at hO87
                     refine ⟨mI (wI m Ix87), rfl, (DFr.tr DFr.rf hx87), ?_⟩
                     rw [oo_.1, oo_.2]
                     exact hO87)
      · skip
        refine V_ld (pc := 36) dX1_operand_36 (v := vi x8) rfl rfl ?_
        refine V_bipush (pc := 37) dX1_operand_37 (by unfold I32; omega) (by decide) ?_
        refine V_icmp_ne (pc := 39) dX1_operand_39 (tgt := 46) rfl (fun h39 => ?_) (fun h39 => ?_)
        · skip
          refine V_iconst (pc := 46) dX1_operand_46 (by unfold I32; omega) ?_
          refine V_st (pc := 47) dX1_operand_47 (ls' := [(3, vi 0), (2, vi 1), (1, vi x8), (0, vr r)]) rfl (Nat.le_of_ble_eq_true rfl) rfl ?_
          refine V_ld (pc := 48) dX1_operand_48 (v := vi x8) rfl rfl ?_
          refine V_bipush (pc := 49) dX1_operand_49 (by unfold I32; omega) (by decide) ?_
          refine V_icmp_eq (pc := 51) dX1_operand_51 (tgt := 72) rfl (fun h51 => ?_) (fun h51 => ?_)
          · skip
            refine V_iconst (pc := 72) dX1_operand_72 (by unfold I32; omega) ?_
            refine V_goto (pc := 73) dX1_operand_73 (tgt := 77) rfl ?_
            refine V_st (pc := 77) dX1_operand_77 (ls' := [(4, vi 1), (3, vi 0), (2, vi 1), (1, vi x8), (0, vr r)]) rfl (Nat.le_of_ble_eq_true rfl) rfl ?_
            refine V_ld (pc := 79) dX1_operand_79 (v := vi 1) rfl rfl ?_
            refine V_if_eq (pc := 80) dX1_operand_80 (tgt := 91) rfl (fun h_ => absurd h_ (by decide)) (fun _ => ?_)
            refine V_ld (pc := 83) dX1_operand_83 (v := vr r) rfl rfl ?_
            refine V_bipush (pc := 84) dX1_operand_84 (by unfold I32; omega) (by decide) ?_
            refine V_iconst (pc := 86) dX1_operand_86 (by unfold I32; omega) ?_
            refine V_callV (pc := 87) dX1_operand_87 (F' := 2) (As := [vi 120, vi 0]) (st := []) cw_RX1_90 rfl rfl hQ.2.1 (by decide) (Nat.le_of_ble_eq_true rfl) (by omega) (d_column tx n S C m r 120 0   (by first | assumption | omega) hQ hP (by omega)) ?_
            rintro _ _ ⟨x87, rfl, Ix87, rfl, hx87, hO87⟩ ok87 le87
            have hz87 := DOut.b hO87
            refine V_reti (pc := 90) dX1_operand_90 (show _ = (0 : Int) ∨ _ = (1 : Int) from by first | exact Or.inl rfl | exact Or.inr rfl | omega) ?_
            first
              | (exfalso; omega)
              | (have oo_ := opS_xy (tx := tx) (n := n) (S := S) (by omega)
                 have h0_ : 2 * 0 + (cCol tx n S).1 = (cCol tx n S).1 := by omega
                 rw [h0_] at hO87
                 refine ⟨mI (wI m Ix87), rfl, (DFr.tr DFr.rf hx87), ?_⟩
                 rw [oo_.1, oo_.2]
                 exact hO87)
          · skip
            refine V_ld (pc := 54) dX1_operand_54 (v := vi x8) rfl rfl ?_
            refine V_bipush (pc := 55) dX1_operand_55 (by unfold I32; omega) (by decide) ?_
            refine V_icmp_eq (pc := 57) dX1_operand_57 (tgt := 72) rfl (fun h57 => ?_) (fun h57 => ?_)
            · skip
              refine V_iconst (pc := 72) dX1_operand_72 (by unfold I32; omega) ?_
              refine V_goto (pc := 73) dX1_operand_73 (tgt := 77) rfl ?_
              refine V_st (pc := 77) dX1_operand_77 (ls' := [(4, vi 1), (3, vi 0), (2, vi 1), (1, vi x8), (0, vr r)]) rfl (Nat.le_of_ble_eq_true rfl) rfl ?_
              refine V_ld (pc := 79) dX1_operand_79 (v := vi 1) rfl rfl ?_
              refine V_if_eq (pc := 80) dX1_operand_80 (tgt := 91) rfl (fun h_ => absurd h_ (by decide)) (fun _ => ?_)
              refine V_ld (pc := 83) dX1_operand_83 (v := vr r) rfl rfl ?_
              refine V_bipush (pc := 84) dX1_operand_84 (by unfold I32; omega) (by decide) ?_
              refine V_iconst (pc := 86) dX1_operand_86 (by unfold I32; omega) ?_
              refine V_callV (pc := 87) dX1_operand_87 (F' := 2) (As := [vi 120, vi 0]) (st := []) cw_RX1_90 rfl rfl hQ.2.1 (by decide) (Nat.le_of_ble_eq_true rfl) (by omega) (d_column tx n S C m r 120 0   (by first | assumption | omega) hQ hP (by omega)) ?_
              rintro _ _ ⟨x87, rfl, Ix87, rfl, hx87, hO87⟩ ok87 le87
              have hz87 := DOut.b hO87
              refine V_reti (pc := 90) dX1_operand_90 (show _ = (0 : Int) ∨ _ = (1 : Int) from by first | exact Or.inl rfl | exact Or.inr rfl | omega) ?_
              first
                | (exfalso; omega)
                | (have oo_ := opS_xy (tx := tx) (n := n) (S := S) (by omega)
                   have h0_ : 2 * 0 + (cCol tx n S).1 = (cCol tx n S).1 := by omega
                   rw [h0_] at hO87
                   refine ⟨mI (wI m Ix87), rfl, (DFr.tr DFr.rf hx87), ?_⟩
                   rw [oo_.1, oo_.2]
                   exact hO87)
            · skip
              refine V_ld (pc := 60) dX1_operand_60 (v := vi x8) rfl rfl ?_
              refine V_bipush (pc := 61) dX1_operand_61 (by unfold I32; omega) (by decide) ?_
              refine V_icmp_eq (pc := 63) dX1_operand_63 (tgt := 72) rfl (fun h63 => ?_) (fun h63 => ?_)
              · skip
                refine V_iconst (pc := 72) dX1_operand_72 (by unfold I32; omega) ?_
                refine V_goto (pc := 73) dX1_operand_73 (tgt := 77) rfl ?_
                refine V_st (pc := 77) dX1_operand_77 (ls' := [(4, vi 1), (3, vi 0), (2, vi 1), (1, vi x8), (0, vr r)]) rfl (Nat.le_of_ble_eq_true rfl) rfl ?_
                refine V_ld (pc := 79) dX1_operand_79 (v := vi 1) rfl rfl ?_
                refine V_if_eq (pc := 80) dX1_operand_80 (tgt := 91) rfl (fun h_ => absurd h_ (by decide)) (fun _ => ?_)
                refine V_ld (pc := 83) dX1_operand_83 (v := vr r) rfl rfl ?_
                refine V_bipush (pc := 84) dX1_operand_84 (by unfold I32; omega) (by decide) ?_
                refine V_iconst (pc := 86) dX1_operand_86 (by unfold I32; omega) ?_
                refine V_callV (pc := 87) dX1_operand_87 (F' := 2) (As := [vi 120, vi 0]) (st := []) cw_RX1_90 rfl rfl hQ.2.1 (by decide) (Nat.le_of_ble_eq_true rfl) (by omega) (d_column tx n S C m r 120 0   (by first | assumption | omega) hQ hP (by omega)) ?_
                rintro _ _ ⟨x87, rfl, Ix87, rfl, hx87, hO87⟩ ok87 le87
                have hz87 := DOut.b hO87
                refine V_reti (pc := 90) dX1_operand_90 (show _ = (0 : Int) ∨ _ = (1 : Int) from by first | exact Or.inl rfl | exact Or.inr rfl | omega) ?_
                first
                  | (exfalso; omega)
                  | (have oo_ := opS_xy (tx := tx) (n := n) (S := S) (by omega)
                     have h0_ : 2 * 0 + (cCol tx n S).1 = (cCol tx n S).1 := by omega
                     rw [h0_] at hO87
                     refine ⟨mI (wI m Ix87), rfl, (DFr.tr DFr.rf hx87), ?_⟩
                     rw [oo_.1, oo_.2]
                     exact hO87)
              · skip
                refine V_ld (pc := 66) dX1_operand_66 (v := vi x8) rfl rfl ?_
                refine V_bipush (pc := 67) dX1_operand_67 (by unfold I32; omega) (by decide) ?_
                refine V_icmp_ne (pc := 69) dX1_operand_69 (tgt := 76) rfl (fun h69 => ?_) (fun h69 => ?_)
                · skip
                  refine V_iconst (pc := 76) dX1_operand_76 (by unfold I32; omega) ?_
                  refine V_st (pc := 77) dX1_operand_77 (ls' := [(4, vi 0), (3, vi 0), (2, vi 1), (1, vi x8), (0, vr r)]) rfl (Nat.le_of_ble_eq_true rfl) rfl ?_
                  refine V_ld (pc := 79) dX1_operand_79 (v := vi 1) rfl rfl ?_
                  refine V_if_eq (pc := 80) dX1_operand_80 (tgt := 91) rfl (fun h_ => absurd h_ (by decide)) (fun _ => ?_)
                  refine V_ld (pc := 83) dX1_operand_83 (v := vr r) rfl rfl ?_
                  refine V_bipush (pc := 84) dX1_operand_84 (by unfold I32; omega) (by decide) ?_
                  refine V_iconst (pc := 86) dX1_operand_86 (by unfold I32; omega) ?_
                  refine V_callV (pc := 87) dX1_operand_87 (F' := 2) (As := [vi 120, vi 0]) (st := []) cw_RX1_90 rfl rfl hQ.2.1 (by decide) (Nat.le_of_ble_eq_true rfl) (by omega) (d_column tx n S C m r 120 0   (by first | assumption | omega) hQ hP (by omega)) ?_
                  rintro _ _ ⟨x87, rfl, Ix87, rfl, hx87, hO87⟩ ok87 le87
                  have hz87 := DOut.b hO87
                  refine V_reti (pc := 90) dX1_operand_90 (show _ = (0 : Int) ∨ _ = (1 : Int) from by first | exact Or.inl rfl | exact Or.inr rfl | omega) ?_
                  first
                    | (exfalso; omega)
                    | (have oo_ := opS_xy (tx := tx) (n := n) (S := S) (by omega)
                       have h0_ : 2 * 0 + (cCol tx n S).1 = (cCol tx n S).1 := by omega
                       rw [h0_] at hO87
                       refine ⟨mI (wI m Ix87), rfl, (DFr.tr DFr.rf hx87), ?_⟩
                       rw [oo_.1, oo_.2]
                       exact hO87)
                · skip
                  refine V_iconst (pc := 72) dX1_operand_72 (by unfold I32; omega) ?_
                  refine V_goto (pc := 73) dX1_operand_73 (tgt := 77) rfl ?_
                  refine V_st (pc := 77) dX1_operand_77 (ls' := [(4, vi 1), (3, vi 0), (2, vi 1), (1, vi x8), (0, vr r)]) rfl (Nat.le_of_ble_eq_true rfl) rfl ?_
                  refine V_ld (pc := 79) dX1_operand_79 (v := vi 1) rfl rfl ?_
                  refine V_if_eq (pc := 80) dX1_operand_80 (tgt := 91) rfl (fun h_ => absurd h_ (by decide)) (fun _ => ?_)
                  refine V_ld (pc := 83) dX1_operand_83 (v := vr r) rfl rfl ?_
                  refine V_bipush (pc := 84) dX1_operand_84 (by unfold I32; omega) (by decide) ?_
                  refine V_iconst (pc := 86) dX1_operand_86 (by unfold I32; omega) ?_
                  refine V_callV (pc := 87) dX1_operand_87 (F' := 2) (As := [vi 120, vi 0]) (st := []) cw_RX1_90 rfl rfl hQ.2.1 (by decide) (Nat.le_of_ble_eq_true rfl) (by omega) (d_column tx n S C m r 120 0   (by first | assumption | omega) hQ hP (by omega)) ?_
                  rintro _ _ ⟨x87, rfl, Ix87, rfl, hx87, hO87⟩ ok87 le87
                  have hz87 := DOut.b hO87
                  refine V_reti (pc := 90) dX1_operand_90 (show _ = (0 : Int) ∨ _ = (1 : Int) from by first | exact Or.inl rfl | exact Or.inr rfl | omega) ?_
                  first
                    | (exfalso; omega)
                    | (have oo_ := opS_xy (tx := tx) (n := n) (S := S) (by omega)
                       have h0_ : 2 * 0 + (cCol tx n S).1 = (cCol tx n S).1 := by omega
                       rw [h0_] at hO87
                       refine ⟨mI (wI m Ix87), rfl, (DFr.tr DFr.rf hx87), ?_⟩
                       rw [oo_.1, oo_.2]
                       exact hO87)
        · skip
          refine V_iconst (pc := 42) dX1_operand_42 (by unfold I32; omega) ?_
          refine V_goto (pc := 43) dX1_operand_43 (tgt := 47) rfl ?_
          refine V_st (pc := 47) dX1_operand_47 (ls' := [(3, vi 1), (2, vi 1), (1, vi x8), (0, vr r)]) rfl (Nat.le_of_ble_eq_true rfl) rfl ?_
          refine V_ld (pc := 48) dX1_operand_48 (v := vi x8) rfl rfl ?_
          refine V_bipush (pc := 49) dX1_operand_49 (by unfold I32; omega) (by decide) ?_
          refine V_icmp_eq (pc := 51) dX1_operand_51 (tgt := 72) rfl (fun h51 => ?_) (fun h51 => ?_)
          · skip
            refine V_iconst (pc := 72) dX1_operand_72 (by unfold I32; omega) ?_
            refine V_goto (pc := 73) dX1_operand_73 (tgt := 77) rfl ?_
            refine V_st (pc := 77) dX1_operand_77 (ls' := [(4, vi 1), (3, vi 1), (2, vi 1), (1, vi x8), (0, vr r)]) rfl (Nat.le_of_ble_eq_true rfl) rfl ?_
            refine V_ld (pc := 79) dX1_operand_79 (v := vi 1) rfl rfl ?_
            refine V_if_eq (pc := 80) dX1_operand_80 (tgt := 91) rfl (fun h_ => absurd h_ (by decide)) (fun _ => ?_)
            refine V_ld (pc := 83) dX1_operand_83 (v := vr r) rfl rfl ?_
            refine V_bipush (pc := 84) dX1_operand_84 (by unfold I32; omega) (by decide) ?_
            refine V_iconst (pc := 86) dX1_operand_86 (by unfold I32; omega) ?_
            refine V_callV (pc := 87) dX1_operand_87 (F' := 2) (As := [vi 120, vi 0]) (st := []) cw_RX1_90 rfl rfl hQ.2.1 (by decide) (Nat.le_of_ble_eq_true rfl) (by omega) (d_column tx n S C m r 120 0   (by first | assumption | omega) hQ hP (by omega)) ?_
            rintro _ _ ⟨x87, rfl, Ix87, rfl, hx87, hO87⟩ ok87 le87
            have hz87 := DOut.b hO87
            refine V_reti (pc := 90) dX1_operand_90 (show _ = (0 : Int) ∨ _ = (1 : Int) from by first | exact Or.inl rfl | exact Or.inr rfl | omega) ?_
            first
              | (exfalso; omega)
              | (have oo_ := opS_xy (tx := tx) (n := n) (S := S) (by omega)
                 have h0_ : 2 * 0 + (cCol tx n S).1 = (cCol tx n S).1 := by omega
                 rw [h0_] at hO87
                 refine ⟨mI (wI m Ix87), rfl, (DFr.tr DFr.rf hx87), ?_⟩
                 rw [oo_.1, oo_.2]
                 exact hO87)
          · skip
            refine V_ld (pc := 54) dX1_operand_54 (v := vi x8) rfl rfl ?_
            refine V_bipush (pc := 55) dX1_operand_55 (by unfold I32; omega) (by decide) ?_
            refine V_icmp_eq (pc := 57) dX1_operand_57 (tgt := 72) rfl (fun h57 => ?_) (fun h57 => ?_)
            · skip
              refine V_iconst (pc := 72) dX1_operand_72 (by unfold I32; omega) ?_
              refine V_goto (pc := 73) dX1_operand_73 (tgt := 77) rfl ?_
              refine V_st (pc := 77) dX1_operand_77 (ls' := [(4, vi 1), (3, vi 1), (2, vi 1), (1, vi x8), (0, vr r)]) rfl (Nat.le_of_ble_eq_true rfl) rfl ?_
              refine V_ld (pc := 79) dX1_operand_79 (v := vi 1) rfl rfl ?_
              refine V_if_eq (pc := 80) dX1_operand_80 (tgt := 91) rfl (fun h_ => absurd h_ (by decide)) (fun _ => ?_)
              refine V_ld (pc := 83) dX1_operand_83 (v := vr r) rfl rfl ?_
              refine V_bipush (pc := 84) dX1_operand_84 (by unfold I32; omega) (by decide) ?_
              refine V_iconst (pc := 86) dX1_operand_86 (by unfold I32; omega) ?_
              refine V_callV (pc := 87) dX1_operand_87 (F' := 2) (As := [vi 120, vi 0]) (st := []) cw_RX1_90 rfl rfl hQ.2.1 (by decide) (Nat.le_of_ble_eq_true rfl) (by omega) (d_column tx n S C m r 120 0   (by first | assumption | omega) hQ hP (by omega)) ?_
              rintro _ _ ⟨x87, rfl, Ix87, rfl, hx87, hO87⟩ ok87 le87
              have hz87 := DOut.b hO87
              refine V_reti (pc := 90) dX1_operand_90 (show _ = (0 : Int) ∨ _ = (1 : Int) from by first | exact Or.inl rfl | exact Or.inr rfl | omega) ?_
              first
                | (exfalso; omega)
                | (have oo_ := opS_xy (tx := tx) (n := n) (S := S) (by omega)
                   have h0_ : 2 * 0 + (cCol tx n S).1 = (cCol tx n S).1 := by omega
                   rw [h0_] at hO87
                   refine ⟨mI (wI m Ix87), rfl, (DFr.tr DFr.rf hx87), ?_⟩
                   rw [oo_.1, oo_.2]
                   exact hO87)
            · skip
              refine V_ld (pc := 60) dX1_operand_60 (v := vi x8) rfl rfl ?_
              refine V_bipush (pc := 61) dX1_operand_61 (by unfold I32; omega) (by decide) ?_
              refine V_icmp_eq (pc := 63) dX1_operand_63 (tgt := 72) rfl (fun h63 => ?_) (fun h63 => ?_)
              · skip
                refine V_iconst (pc := 72) dX1_operand_72 (by unfold I32; omega) ?_
                refine V_goto (pc := 73) dX1_operand_73 (tgt := 77) rfl ?_
                refine V_st (pc := 77) dX1_operand_77 (ls' := [(4, vi 1), (3, vi 1), (2, vi 1), (1, vi x8), (0, vr r)]) rfl (Nat.le_of_ble_eq_true rfl) rfl ?_
                refine V_ld (pc := 79) dX1_operand_79 (v := vi 1) rfl rfl ?_
                refine V_if_eq (pc := 80) dX1_operand_80 (tgt := 91) rfl (fun h_ => absurd h_ (by decide)) (fun _ => ?_)
                refine V_ld (pc := 83) dX1_operand_83 (v := vr r) rfl rfl ?_
                refine V_bipush (pc := 84) dX1_operand_84 (by unfold I32; omega) (by decide) ?_
                refine V_iconst (pc := 86) dX1_operand_86 (by unfold I32; omega) ?_
                refine V_callV (pc := 87) dX1_operand_87 (F' := 2) (As := [vi 120, vi 0]) (st := []) cw_RX1_90 rfl rfl hQ.2.1 (by decide) (Nat.le_of_ble_eq_true rfl) (by omega) (d_column tx n S C m r 120 0   (by first | assumption | omega) hQ hP (by omega)) ?_
                rintro _ _ ⟨x87, rfl, Ix87, rfl, hx87, hO87⟩ ok87 le87
                have hz87 := DOut.b hO87
                refine V_reti (pc := 90) dX1_operand_90 (show _ = (0 : Int) ∨ _ = (1 : Int) from by first | exact Or.inl rfl | exact Or.inr rfl | omega) ?_
                first
                  | (exfalso; omega)
                  | (have oo_ := opS_xy (tx := tx) (n := n) (S := S) (by omega)
                     have h0_ : 2 * 0 + (cCol tx n S).1 = (cCol tx n S).1 := by omega
                     rw [h0_] at hO87
                     refine ⟨mI (wI m Ix87), rfl, (DFr.tr DFr.rf hx87), ?_⟩
                     rw [oo_.1, oo_.2]
                     exact hO87)
              · skip
                refine V_ld (pc := 66) dX1_operand_66 (v := vi x8) rfl rfl ?_
                refine V_bipush (pc := 67) dX1_operand_67 (by unfold I32; omega) (by decide) ?_
                refine V_icmp_ne (pc := 69) dX1_operand_69 (tgt := 76) rfl (fun h69 => ?_) (fun h69 => ?_)
                · skip
                  refine V_iconst (pc := 76) dX1_operand_76 (by unfold I32; omega) ?_
                  refine V_st (pc := 77) dX1_operand_77 (ls' := [(4, vi 0), (3, vi 1), (2, vi 1), (1, vi x8), (0, vr r)]) rfl (Nat.le_of_ble_eq_true rfl) rfl ?_
                  refine V_ld (pc := 79) dX1_operand_79 (v := vi 1) rfl rfl ?_
                  refine V_if_eq (pc := 80) dX1_operand_80 (tgt := 91) rfl (fun h_ => absurd h_ (by decide)) (fun _ => ?_)
                  refine V_ld (pc := 83) dX1_operand_83 (v := vr r) rfl rfl ?_
                  refine V_bipush (pc := 84) dX1_operand_84 (by unfold I32; omega) (by decide) ?_
                  refine V_iconst (pc := 86) dX1_operand_86 (by unfold I32; omega) ?_
                  refine V_callV (pc := 87) dX1_operand_87 (F' := 2) (As := [vi 120, vi 0]) (st := []) cw_RX1_90 rfl rfl hQ.2.1 (by decide) (Nat.le_of_ble_eq_true rfl) (by omega) (d_column tx n S C m r 120 0   (by first | assumption | omega) hQ hP (by omega)) ?_
                  rintro _ _ ⟨x87, rfl, Ix87, rfl, hx87, hO87⟩ ok87 le87
                  have hz87 := DOut.b hO87
                  refine V_reti (pc := 90) dX1_operand_90 (show _ = (0 : Int) ∨ _ = (1 : Int) from by first | exact Or.inl rfl | exact Or.inr rfl | omega) ?_
                  first
                    | (exfalso; omega)
                    | (have oo_ := opS_xy (tx := tx) (n := n) (S := S) (by omega)
                       have h0_ : 2 * 0 + (cCol tx n S).1 = (cCol tx n S).1 := by omega
                       rw [h0_] at hO87
                       refine ⟨mI (wI m Ix87), rfl, (DFr.tr DFr.rf hx87), ?_⟩
                       rw [oo_.1, oo_.2]
                       exact hO87)
                · skip
                  refine V_iconst (pc := 72) dX1_operand_72 (by unfold I32; omega) ?_
                  refine V_goto (pc := 73) dX1_operand_73 (tgt := 77) rfl ?_
                  refine V_st (pc := 77) dX1_operand_77 (ls' := [(4, vi 1), (3, vi 1), (2, vi 1), (1, vi x8), (0, vr r)]) rfl (Nat.le_of_ble_eq_true rfl) rfl ?_
                  refine V_ld (pc := 79) dX1_operand_79 (v := vi 1) rfl rfl ?_
                  refine V_if_eq (pc := 80) dX1_operand_80 (tgt := 91) rfl (fun h_ => absurd h_ (by decide)) (fun _ => ?_)
                  refine V_ld (pc := 83) dX1_operand_83 (v := vr r) rfl rfl ?_
                  refine V_bipush (pc := 84) dX1_operand_84 (by unfold I32; omega) (by decide) ?_
                  refine V_iconst (pc := 86) dX1_operand_86 (by unfold I32; omega) ?_
                  refine V_callV (pc := 87) dX1_operand_87 (F' := 2) (As := [vi 120, vi 0]) (st := []) cw_RX1_90 rfl rfl hQ.2.1 (by decide) (Nat.le_of_ble_eq_true rfl) (by omega) (d_column tx n S C m r 120 0   (by first | assumption | omega) hQ hP (by omega)) ?_
                  rintro _ _ ⟨x87, rfl, Ix87, rfl, hx87, hO87⟩ ok87 le87
                  have hz87 := DOut.b hO87
                  refine V_reti (pc := 90) dX1_operand_90 (show _ = (0 : Int) ∨ _ = (1 : Int) from by first | exact Or.inl rfl | exact Or.inr rfl | omega) ?_
                  first
                    | (exfalso; omega)
                    | (have oo_ := opS_xy (tx := tx) (n := n) (S := S) (by omega)
                       have h0_ : 2 * 0 + (cCol tx n S).1 = (cCol tx n S).1 := by omega
                       rw [h0_] at hO87
                       refine ⟨mI (wI m Ix87), rfl, (DFr.tr DFr.rf hx87), ?_⟩
                       rw [oo_.1, oo_.2]
                       exact hO87)

set_option maxHeartbeats 8000000 in
theorem d_test (tx : Nat → Int) (n : Nat) (S : CS) (C : List Int) (m : Mem) (r : Nat)   (hL : Lay (mT m) (mR m)) (hQ : QLay m r n) (hP : DQ (mI m) r tx n S C) (hlt : C.length + 2 ≤ S.2) : Ct μX1_test 4 [vr r] m (ri fun x_ m' => ∃ I_ : Nat → Nat → Int, wI m I_ = m' ∧ (DFr r (mI m) I_) ∧ DOut I_ r tx n ((tstS tx n S).2.2) (C ++ (tstS tx n S).1) x_) := by
  refine Ct_of_V rfl (by decide) rfl (Nat.le_of_ble_eq_true rfl) ?_
  show V μX1_test 4 m _ 0 [(0, vr r)] [] m
  have hn120 := hP.2.2.2.2.2.1
  have hb0 := hP.2.2.2.2.1
  obtain ⟨hr59, hq120⟩ := hQ.1
  refine V_ld (pc := 0) dX1_test_0 (v := vr r) rfl rfl ?_
  refine V_getIv (pc := 1) dX1_test_1 (v := (C.length : Int)) fw_RX1_55 rfl hQ.2.1 hP.2.2.2.1 (fun g1 => ?_)
  refine V_st (pc := 4) dX1_test_4 (ls' := [(1, vi (C.length : Int)), (0, vr r)]) rfl (Nat.le_of_ble_eq_true rfl) rfl ?_
  refine V_ld (pc := 5) dX1_test_5 (v := vr r) rfl rfl ?_
  refine V_iconst (pc := 6) dX1_test_6 (by unfold I32; omega) ?_
  refine V_callV (pc := 7) dX1_test_7 (F' := 0) (As := [vi (-1)]) (st := []) cw_RX1_77 rfl rfl hQ.2.1 (by decide) (Nat.le_of_ble_eq_true rfl) (by omega) (d_emit tx n S C m r (-1)   hQ hP (by omega)) ?_
  rintro _ _ ⟨rfl, Ix7, rfl, hP7, hF7⟩ ok7 le7
  have lc7 : (C ++ [(-1)]).length = C.length + 1 := by rw [List.length_append]; rfl
  refine V_ld (pc := 10) dX1_test_10 (v := vr r) rfl rfl ?_
  refine V_callV (pc := 11) dX1_test_11 (F' := 3) (As := []) (st := []) cw_RX1_87 rfl rfl hQ.2.1 (by decide) (Nat.le_of_ble_eq_true rfl) (by omega) (d_operand tx n S (C ++ [(-1)]) (wI m Ix7) r   (by first | assumption | omega) hQ hP7 (by omega)) ?_
  rintro _ _ ⟨x11, rfl, Ix11, rfl, hF11, (⟨hw11, rfl, hP11⟩ | ⟨hw11, rfl, hf11⟩)⟩ ok11 le11
  · skip
    have hb11 := hP11.2.2.2.2.1
    refine V_if_ne (pc := 14) dX1_test_14 (tgt := 19) rfl (fun _ => ?_) (fun h_ => absurd h_ (by decide))
    have hn11 := ((opS_ni tx n S).2.1 hw11).2
    refine V_ld (pc := 19) dX1_test_19 (v := vr r) rfl rfl ?_
    refine V_getRv (pc := 20) dX1_test_20 (o' := 13) fw_RX1_21 rfl hQ.2.1 hQ.2.2.1 ?_
    refine V_ld (pc := 23) dX1_test_23 (v := vr r) rfl rfl ?_
    refine V_getIv (pc := 24) dX1_test_24 (v := (((opS tx n S).2.2).2 : Int)) fw_RX1_34 rfl hQ.2.1 hP11.2.1 (fun g24 => ?_)
    refine V_callV (pc := 27) dX1_test_27 (F' := 0) (As := [vi (((opS tx n S).2.2).2 : Int)]) (st := []) cw_RX1_37 rfl rfl hL.t13 (by decide) (Nat.le_of_ble_eq_true rfl) (by omega) (c_Text_at  (wI (wI m Ix7) Ix11) 13 (((opS tx n S).2.2).2 : Int) 14  hL.t13 hL.r13_0 hL.t14) ?_
    rintro _ _ ⟨x27, rfl, hx27, rfl⟩ ok27 le27
    obtain ⟨cr27, cr270, cr271, cr272⟩ := DQ.at hP11 rfl hx27
    refine V_st (pc := 30) dX1_test_30 (ls' := [(2, vi x27), (1, vi (C.length : Int)), (0, vr r)]) rfl (Nat.le_of_ble_eq_true rfl) rfl ?_
    refine V_ld (pc := 31) dX1_test_31 (v := vi x27) rfl rfl ?_
    refine V_bipush (pc := 32) dX1_test_32 (by unfold I32; omega) (by decide) ?_
    refine V_icmp_eq (pc := 34) dX1_test_34 (tgt := 54) rfl (fun h34 => ?_) (fun h34 => ?_)
    · skip
      refine V_ld (pc := 54) dX1_test_54 (v := vr r) rfl rfl ?_
      refine V_dup (pc := 55) dX1_test_55 rfl ?_
      refine V_getIv (pc := 56) dX1_test_56 (v := (((opS tx n S).2.2).2 : Int)) fw_RX1_34 rfl hQ.2.1 hP11.2.1 (fun g56 => ?_)
      refine V_iconst (pc := 59) dX1_test_59 (by unfold I32; omega) ?_
      refine V_iadd (pc := 60) dX1_test_60 (by unfold I32 at *; omega) ?_
      refine V_putI (pc := 61) dX1_test_61 fw_RX1_34 rfl hQ.2.1 (Or.inl rfl) (Or.inl rfl) ?_
      have lthA64 : ((opS tx n S).2.2).2 < n := by first | omega | exact (cc_lt (tx := tx) (n := n) (S := ((opS tx n S).2.2)) (by omega)).2
      have hA64 : DQ (mI (setI (wI (wI m Ix7) Ix11) r 3 ((((opS tx n S).2.2).2 : Int) + 1))) r tx n (cAdv ((opS tx n S).2.2)) ((C ++ [(-1)]) ++ [(opS tx n S).1]) := DQ.adv hP11 rfl lthA64
      have ehA64 : (cAdv ((opS tx n S).2.2)).2 = ((opS tx n S).2.2).2 + 1 := rfl
      refine V_ld (pc := 64) dX1_test_64 (v := vi (C.length : Int)) rfl rfl ?_
      refine V_if_lt (pc := 65) dX1_test_65 (tgt := 84) rfl (fun h65 => ?_) (fun h65 => ?_)
      · skip
        exfalso; omega
      · skip
        refine V_ld (pc := 68) dX1_test_68 (v := vi (C.length : Int)) rfl rfl ?_
        refine V_ld (pc := 69) dX1_test_69 (v := vr r) rfl rfl ?_
        refine V_getRv (pc := 70) dX1_test_70 (o' := (r + 2)) fw_RX1_30 rfl hQ.2.1 hQ.2.2.2.1 ?_
        refine V_alen (pc := 73) dX1_test_73 hQ.2.2.2.2.2.2 (by decide) (by omega) ?_
        refine V_icmp_ge (pc := 74) dX1_test_74 (tgt := 84) rfl (fun h74 => ?_) (fun h74 => ?_)
        · skip
          exfalso; omega
        · skip
          refine V_ld (pc := 77) dX1_test_77 (v := vr r) rfl rfl ?_
          refine V_getRv (pc := 78) dX1_test_78 (o' := (r + 2)) fw_RX1_30 rfl hQ.2.1 hQ.2.2.2.1 ?_
          refine V_ld (pc := 81) dX1_test_81 (v := vi (C.length : Int)) rfl rfl ?_
          refine V_ld (pc := 82) dX1_test_82 (v := vi x27) rfl rfl ?_
          refine V_iast (pc := 83) dX1_test_83 hQ.2.2.2.2.2.2 (by omega) ?_
          have hA64' : DQ (mI (setI (wI (wI m Ix7) Ix11) r 3 ((((opS tx n S).2.2).2 : Int) + 1))) r tx n (cAdv (opS tx n S).2.2) (C ++ (-1) :: [(opS tx n S).1]) := by
            have h_ := hA64
            rw [List.append_assoc] at h_
            exact h_
          have hT84 : DQ (mI (setI (setI (wI (wI m Ix7) Ix11) r 3 ((((opS tx n S).2.2).2 : Int) + 1)) (r + 2) ((C.length : Int).toNat) x27)) r tx n (cAdv (opS tx n S).2.2) (C ++ x27 :: [(opS tx n S).1]) := DQ.patch hA64'
          have l84 : (C ++ x27 :: [(opS tx n S).1]).length = C.length + 2 := by simp
          refine V_ld (pc := 84) dX1_test_84 (v := vr r) rfl rfl ?_
          refine V_callV (pc := 85) dX1_test_85 (F' := 3) (As := []) (st := []) cw_RX1_87 rfl rfl hQ.2.1 (by decide) (Nat.le_of_ble_eq_true rfl) (by omega) (d_operand tx n (cAdv ((opS tx n S).2.2)) (C ++ x27 :: [(opS tx n S).1]) (setI (setI (wI (wI m Ix7) Ix11) r 3 ((((opS tx n S).2.2).2 : Int) + 1)) (r + 2) ((C.length : Int).toNat) x27) r   (by first | assumption | omega) hQ hT84 (by omega)) ?_
          rintro _ _ ⟨x85, rfl, Ix85, rfl, hx85, hO85⟩ ok85 le85
          have hz85 := DOut.b hO85
          refine V_reti (pc := 88) dX1_test_88 (show _ = (0 : Int) ∨ _ = (1 : Int) from by first | exact Or.inl rfl | exact Or.inr rfl | omega) ?_
          first
            | (exfalso; omega)
            | (have hk_ : x27 = ccS tx n (opS tx n S).2.2 := by omega
               have oo_ := tst_ok (tx := tx) (n := n) (S := S) (c := x27) hk_.symm (by omega)
               refine ⟨mI (wI (setI (setI (wI (wI m Ix7) Ix11) r 3 ((((opS tx n S).2.2).2 : Int) + 1)) (r + 2) ((C.length : Int).toNat) x27) Ix85), rfl, (DFr.tr (DFr.set (DFr.set (DFr.tr (DFr.tr DFr.rf hF7) hF11) (by omega)) (by omega)) hx85), ?_⟩
               have h_ := hO85
               rw [List.append_assoc] at h_
               rw [oo_]
               exact h_)
    · skip
      refine V_ld (pc := 37) dX1_test_37 (v := vi x27) rfl rfl ?_
      refine V_bipush (pc := 38) dX1_test_38 (by unfold I32; omega) (by decide) ?_
      refine V_icmp_eq (pc := 40) dX1_test_40 (tgt := 54) rfl (fun h40 => ?_) (fun h40 => ?_)
      · skip
        refine V_ld (pc := 54) dX1_test_54 (v := vr r) rfl rfl ?_
        refine V_dup (pc := 55) dX1_test_55 rfl ?_
        refine V_getIv (pc := 56) dX1_test_56 (v := (((opS tx n S).2.2).2 : Int)) fw_RX1_34 rfl hQ.2.1 hP11.2.1 (fun g56 => ?_)
        refine V_iconst (pc := 59) dX1_test_59 (by unfold I32; omega) ?_
        refine V_iadd (pc := 60) dX1_test_60 (by unfold I32 at *; omega) ?_
        refine V_putI (pc := 61) dX1_test_61 fw_RX1_34 rfl hQ.2.1 (Or.inl rfl) (Or.inl rfl) ?_
        have lthA64 : ((opS tx n S).2.2).2 < n := by first | omega | exact (cc_lt (tx := tx) (n := n) (S := ((opS tx n S).2.2)) (by omega)).2
        have hA64 : DQ (mI (setI (wI (wI m Ix7) Ix11) r 3 ((((opS tx n S).2.2).2 : Int) + 1))) r tx n (cAdv ((opS tx n S).2.2)) ((C ++ [(-1)]) ++ [(opS tx n S).1]) := DQ.adv hP11 rfl lthA64
        have ehA64 : (cAdv ((opS tx n S).2.2)).2 = ((opS tx n S).2.2).2 + 1 := rfl
        refine V_ld (pc := 64) dX1_test_64 (v := vi (C.length : Int)) rfl rfl ?_
        refine V_if_lt (pc := 65) dX1_test_65 (tgt := 84) rfl (fun h65 => ?_) (fun h65 => ?_)
        · skip
          exfalso; omega
        · skip
          refine V_ld (pc := 68) dX1_test_68 (v := vi (C.length : Int)) rfl rfl ?_
          refine V_ld (pc := 69) dX1_test_69 (v := vr r) rfl rfl ?_
          refine V_getRv (pc := 70) dX1_test_70 (o' := (r + 2)) fw_RX1_30 rfl hQ.2.1 hQ.2.2.2.1 ?_
          refine V_alen (pc := 73) dX1_test_73 hQ.2.2.2.2.2.2 (by decide) (by omega) ?_
          refine V_icmp_ge (pc := 74) dX1_test_74 (tgt := 84) rfl (fun h74 => ?_) (fun h74 => ?_)
          · skip
            exfalso; omega
          · skip
            refine V_ld (pc := 77) dX1_test_77 (v := vr r) rfl rfl ?_
            refine V_getRv (pc := 78) dX1_test_78 (o' := (r + 2)) fw_RX1_30 rfl hQ.2.1 hQ.2.2.2.1 ?_
            refine V_ld (pc := 81) dX1_test_81 (v := vi (C.length : Int)) rfl rfl ?_
            refine V_ld (pc := 82) dX1_test_82 (v := vi x27) rfl rfl ?_
            refine V_iast (pc := 83) dX1_test_83 hQ.2.2.2.2.2.2 (by omega) ?_
            have hA64' : DQ (mI (setI (wI (wI m Ix7) Ix11) r 3 ((((opS tx n S).2.2).2 : Int) + 1))) r tx n (cAdv (opS tx n S).2.2) (C ++ (-1) :: [(opS tx n S).1]) := by
              have h_ := hA64
              rw [List.append_assoc] at h_
              exact h_
            have hT84 : DQ (mI (setI (setI (wI (wI m Ix7) Ix11) r 3 ((((opS tx n S).2.2).2 : Int) + 1)) (r + 2) ((C.length : Int).toNat) x27)) r tx n (cAdv (opS tx n S).2.2) (C ++ x27 :: [(opS tx n S).1]) := DQ.patch hA64'
            have l84 : (C ++ x27 :: [(opS tx n S).1]).length = C.length + 2 := by simp
            refine V_ld (pc := 84) dX1_test_84 (v := vr r) rfl rfl ?_
            refine V_callV (pc := 85) dX1_test_85 (F' := 3) (As := []) (st := []) cw_RX1_87 rfl rfl hQ.2.1 (by decide) (Nat.le_of_ble_eq_true rfl) (by omega) (d_operand tx n (cAdv ((opS tx n S).2.2)) (C ++ x27 :: [(opS tx n S).1]) (setI (setI (wI (wI m Ix7) Ix11) r 3 ((((opS tx n S).2.2).2 : Int) + 1)) (r + 2) ((C.length : Int).toNat) x27) r   (by first | assumption | omega) hQ hT84 (by omega)) ?_
            rintro _ _ ⟨x85, rfl, Ix85, rfl, hx85, hO85⟩ ok85 le85
            have hz85 := DOut.b hO85
            refine V_reti (pc := 88) dX1_test_88 (show _ = (0 : Int) ∨ _ = (1 : Int) from by first | exact Or.inl rfl | exact Or.inr rfl | omega) ?_
            first
              | (exfalso; omega)
              | (have hk_ : x27 = ccS tx n (opS tx n S).2.2 := by omega
                 have oo_ := tst_ok (tx := tx) (n := n) (S := S) (c := x27) hk_.symm (by omega)
                 refine ⟨mI (wI (setI (setI (wI (wI m Ix7) Ix11) r 3 ((((opS tx n S).2.2).2 : Int) + 1)) (r + 2) ((C.length : Int).toNat) x27) Ix85), rfl, (DFr.tr (DFr.set (DFr.set (DFr.tr (DFr.tr DFr.rf hF7) hF11) (by omega)) (by omega)) hx85), ?_⟩
                 have h_ := hO85
                 rw [List.append_assoc] at h_
                 rw [oo_]
                 exact h_)
      · skip
        refine V_ld (pc := 43) dX1_test_43 (v := vi x27) rfl rfl ?_
        refine V_bipush (pc := 44) dX1_test_44 (by unfold I32; omega) (by decide) ?_
        refine V_icmp_eq (pc := 46) dX1_test_46 (tgt := 54) rfl (fun h46 => ?_) (fun h46 => ?_)
        · skip
          refine V_ld (pc := 54) dX1_test_54 (v := vr r) rfl rfl ?_
          refine V_dup (pc := 55) dX1_test_55 rfl ?_
          refine V_getIv (pc := 56) dX1_test_56 (v := (((opS tx n S).2.2).2 : Int)) fw_RX1_34 rfl hQ.2.1 hP11.2.1 (fun g56 => ?_)
          refine V_iconst (pc := 59) dX1_test_59 (by unfold I32; omega) ?_
          refine V_iadd (pc := 60) dX1_test_60 (by unfold I32 at *; omega) ?_
          refine V_putI (pc := 61) dX1_test_61 fw_RX1_34 rfl hQ.2.1 (Or.inl rfl) (Or.inl rfl) ?_
          have lthA64 : ((opS tx n S).2.2).2 < n := by first | omega | exact (cc_lt (tx := tx) (n := n) (S := ((opS tx n S).2.2)) (by omega)).2
          have hA64 : DQ (mI (setI (wI (wI m Ix7) Ix11) r 3 ((((opS tx n S).2.2).2 : Int) + 1))) r tx n (cAdv ((opS tx n S).2.2)) ((C ++ [(-1)]) ++ [(opS tx n S).1]) := DQ.adv hP11 rfl lthA64
          have ehA64 : (cAdv ((opS tx n S).2.2)).2 = ((opS tx n S).2.2).2 + 1 := rfl
          refine V_ld (pc := 64) dX1_test_64 (v := vi (C.length : Int)) rfl rfl ?_
          refine V_if_lt (pc := 65) dX1_test_65 (tgt := 84) rfl (fun h65 => ?_) (fun h65 => ?_)
          · skip
            exfalso; omega
          · skip
            refine V_ld (pc := 68) dX1_test_68 (v := vi (C.length : Int)) rfl rfl ?_
            refine V_ld (pc := 69) dX1_test_69 (v := vr r) rfl rfl ?_
            refine V_getRv (pc := 70) dX1_test_70 (o' := (r + 2)) fw_RX1_30 rfl hQ.2.1 hQ.2.2.2.1 ?_
            refine V_alen (pc := 73) dX1_test_73 hQ.2.2.2.2.2.2 (by decide) (by omega) ?_
            refine V_icmp_ge (pc := 74) dX1_test_74 (tgt := 84) rfl (fun h74 => ?_) (fun h74 => ?_)
            · skip
              exfalso; omega
            · skip
              refine V_ld (pc := 77) dX1_test_77 (v := vr r) rfl rfl ?_
              refine V_getRv (pc := 78) dX1_test_78 (o' := (r + 2)) fw_RX1_30 rfl hQ.2.1 hQ.2.2.2.1 ?_
              refine V_ld (pc := 81) dX1_test_81 (v := vi (C.length : Int)) rfl rfl ?_
              refine V_ld (pc := 82) dX1_test_82 (v := vi x27) rfl rfl ?_
              refine V_iast (pc := 83) dX1_test_83 hQ.2.2.2.2.2.2 (by omega) ?_
              have hA64' : DQ (mI (setI (wI (wI m Ix7) Ix11) r 3 ((((opS tx n S).2.2).2 : Int) + 1))) r tx n (cAdv (opS tx n S).2.2) (C ++ (-1) :: [(opS tx n S).1]) := by
                have h_ := hA64
                rw [List.append_assoc] at h_
                exact h_
              have hT84 : DQ (mI (setI (setI (wI (wI m Ix7) Ix11) r 3 ((((opS tx n S).2.2).2 : Int) + 1)) (r + 2) ((C.length : Int).toNat) x27)) r tx n (cAdv (opS tx n S).2.2) (C ++ x27 :: [(opS tx n S).1]) := DQ.patch hA64'
              have l84 : (C ++ x27 :: [(opS tx n S).1]).length = C.length + 2 := by simp
              refine V_ld (pc := 84) dX1_test_84 (v := vr r) rfl rfl ?_
              refine V_callV (pc := 85) dX1_test_85 (F' := 3) (As := []) (st := []) cw_RX1_87 rfl rfl hQ.2.1 (by decide) (Nat.le_of_ble_eq_true rfl) (by omega) (d_operand tx n (cAdv ((opS tx n S).2.2)) (C ++ x27 :: [(opS tx n S).1]) (setI (setI (wI (wI m Ix7) Ix11) r 3 ((((opS tx n S).2.2).2 : Int) + 1)) (r + 2) ((C.length : Int).toNat) x27) r   (by first | assumption | omega) hQ hT84 (by omega)) ?_
              rintro _ _ ⟨x85, rfl, Ix85, rfl, hx85, hO85⟩ ok85 le85
              have hz85 := DOut.b hO85
              refine V_reti (pc := 88) dX1_test_88 (show _ = (0 : Int) ∨ _ = (1 : Int) from by first | exact Or.inl rfl | exact Or.inr rfl | omega) ?_
              first
                | (exfalso; omega)
                | (have hk_ : x27 = ccS tx n (opS tx n S).2.2 := by omega
                   have oo_ := tst_ok (tx := tx) (n := n) (S := S) (c := x27) hk_.symm (by omega)
                   refine ⟨mI (wI (setI (setI (wI (wI m Ix7) Ix11) r 3 ((((opS tx n S).2.2).2 : Int) + 1)) (r + 2) ((C.length : Int).toNat) x27) Ix85), rfl, (DFr.tr (DFr.set (DFr.set (DFr.tr (DFr.tr DFr.rf hF7) hF11) (by omega)) (by omega)) hx85), ?_⟩
                   have h_ := hO85
                   rw [List.append_assoc] at h_
                   rw [oo_]
                   exact h_)
        · skip
          refine V_ld (pc := 49) dX1_test_49 (v := vr r) rfl rfl ?_
          refine V_callV (pc := 50) dX1_test_50 (F' := 0) (As := []) (st := []) cw_RX1_45 rfl rfl hQ.2.1 (by decide) (Nat.le_of_ble_eq_true rfl) (by omega) (d_failed n (wI (wI m Ix7) Ix11) r   hQ) ?_
          rintro _ _ ⟨x50, rfl, Ix50, rfl, rfl, hI50, hF50⟩ ok50 le50
          refine V_reti (pc := 53) dX1_test_53 (show _ = (0 : Int) ∨ _ = (1 : Int) from by first | exact Or.inl rfl | exact Or.inr rfl | omega) ?_
          first
            | (exfalso; omega)
            | (have oo_ := tst_b2 (tx := tx) (n := n) (S := S) (by omega)
               refine ⟨mI (wI (wI (wI m Ix7) Ix11) Ix50), rfl, (DFr.tr (DFr.tr (DFr.tr DFr.rf hF7) hF11) hF50), Or.inr ?_⟩
               rw [oo_]
               exact ⟨rfl, rfl, hI50.trans ((if_pos hP11.2.2.1).trans hP11.2.1)⟩)
  · skip
    refine V_if_ne (pc := 14) dX1_test_14 (tgt := 19) rfl (fun h_ => absurd h_ (by decide)) (fun _ => ?_)
    refine V_iconst (pc := 17) dX1_test_17 (by unfold I32; omega) ?_
    refine V_reti (pc := 18) dX1_test_18 (show _ = (0 : Int) ∨ _ = (1 : Int) from by first | exact Or.inl rfl | exact Or.inr rfl | omega) ?_
    refine ⟨mI (wI (wI m Ix7) Ix11), rfl, (DFr.tr (DFr.tr DFr.rf hF7) hF11), Or.inr ?_⟩
    rw [tst_b1 hw11]
    exact ⟨hw11, rfl, hf11⟩

def DFac (tx : Nat → Int) (n k : Nat) : Prop := ∀ (S : CS) (C : List Int) (m : Mem) (r : Nat) (deep : Int)   (hL : Lay (mT m) (mR m)) (hQ : QLay m r n) (hP : DQ (mI m) r tx n S C) (hk : deep + (k : Int) = 4) (hlt : C.length + 2 ≤ S.2), Ct μX1_factor (5 + 3 * k) [vr r, vi deep] m (ri fun x_ m' => ∃ I_ : Nat → Nat → Int, wI m I_ = m' ∧ (DFr r (mI m) I_) ∧ DOut I_ r tx n ((facC tx n k) S).2.2 (C ++ ((facC tx n k) S).1) x_)

def DBth (tx : Nat → Int) (n k : Nat) : Prop := ∀ (S : CS) (C : List Int) (m : Mem) (r : Nat) (deep : Int)   (hL : Lay (mT m) (mR m)) (hQ : QLay m r n) (hP : DQ (mI m) r tx n S C) (hk : deep + (k : Int) = 4) (hlt : C.length + 2 ≤ S.2), Ct μX1_both (6 + 3 * k) [vr r, vi deep] m (ri fun x_ m' => ∃ I_ : Nat → Nat → Int, wI m I_ = m' ∧ (DFr r (mI m) I_) ∧ DOut I_ r tx n ((bthL tx n k) S).2.2 (C ++ ((bthL tx n k) S).1) x_)

def DEit (tx : Nat → Int) (n k : Nat) : Prop := ∀ (S : CS) (C : List Int) (m : Mem) (r : Nat) (deep : Int)   (hL : Lay (mT m) (mR m)) (hQ : QLay m r n) (hP : DQ (mI m) r tx n S C) (hk : deep + (k : Int) = 4) (hlt : C.length + 2 ≤ S.2), Ct μX1_either (7 + 3 * k) [vr r, vi deep] m (ri fun x_ m' => ∃ I_ : Nat → Nat → Int, wI m I_ = m' ∧ (DFr r (mI m) I_) ∧ DOut I_ r tx n ((eitL tx n k) S).2.2 (C ++ ((eitL tx n k) S).1) x_)

set_option maxHeartbeats 8000000 in
theorem d_factor (tx : Nat → Int) (n : Nat) (k : Nat) (S : CS) (C : List Int) (m : Mem) (r : Nat) (deep : Int)   (hL : Lay (mT m) (mR m)) (hQ : QLay m r n) (hP : DQ (mI m) r tx n S C) (hk : deep + (k : Int) = 4) (hlt : C.length + 2 ≤ S.2) (hsub : ∀ k_ : Nat, k = k_ + 1 → DFac tx n k_ ∧ DEit tx n k_) : Ct μX1_factor (5 + 3 * k) [vr r, vi deep] m (ri fun x_ m' => ∃ I_ : Nat → Nat → Int, wI m I_ = m' ∧ (DFr r (mI m) I_) ∧ DOut I_ r tx n ((facC tx n k) S).2.2 (C ++ ((facC tx n k) S).1) x_) := by
  refine Ct_of_V rfl (by decide) rfl (Nat.le_of_ble_eq_true rfl) ?_
  show V μX1_factor (5 + 3 * k) m _ 0 [(0, vr r), (1, vi deep)] [] m
  refine V_rg (k := 1) (x := deep) rfl fun r_deep => ?_
  have hn120 := hP.2.2.2.2.2.1
  have hb0 := hP.2.2.2.2.1
  obtain ⟨hr59, hq120⟩ := hQ.1
  refine V_ld (pc := 0) dX1_factor_0 (v := vr r) rfl rfl ?_
  refine V_bipush (pc := 1) dX1_factor_1 (by unfold I32; omega) (by decide) ?_
  refine V_callV (pc := 3) dX1_factor_3 (F' := 1) (As := [vi 33]) (st := []) cw_RX1_56 rfl rfl hQ.2.1 (by decide) (Nat.le_of_ble_eq_true rfl) (by omega) (d_comes tx n S C m r 33   (by first | assumption | omega) hQ hP (by decide)) ?_
  rintro _ _ ⟨x3, rfl, hx3, rfl⟩ ok3 le3
  refine V_if_ne (pc := 6) dX1_factor_6 (tgt := 23) rfl (fun h6 => ?_) (fun h6 => ?_)
  · skip
    refine V_ld (pc := 23) dX1_factor_23 (v := vi deep) rfl rfl ?_
    refine V_iconst (pc := 24) dX1_factor_24 (by unfold I32; omega) ?_
    refine V_icmp_lt (pc := 25) dX1_factor_25 (tgt := 33) rfl (fun h25 => ?_) (fun h25 => ?_)
    · skip
      refine V_ld (pc := 33) dX1_factor_33 (v := vr r) rfl rfl ?_
      refine V_bipush (pc := 34) dX1_factor_34 (by unfold I32; omega) (by decide) ?_
      refine V_callV (pc := 36) dX1_factor_36 (F' := 1) (As := [vi 33]) (st := []) cw_RX1_56 rfl rfl hQ.2.1 (by decide) (Nat.le_of_ble_eq_true rfl) (by omega) (d_comes tx n S C m r 33   (by first | assumption | omega) hQ hP (by decide)) ?_
      rintro _ _ ⟨x36, rfl, hx36, rfl⟩ ok36 le36
      refine V_st (pc := 39) dX1_factor_39 (ls' := [(2, vi x36), (0, vr r), (1, vi deep)]) rfl (Nat.le_of_ble_eq_true rfl) rfl ?_
      refine V_ld (pc := 40) dX1_factor_40 (v := vr r) rfl rfl ?_
      refine V_dup (pc := 41) dX1_factor_41 rfl ?_
      refine V_getIv (pc := 42) dX1_factor_42 (v := (S.2 : Int)) fw_RX1_34 rfl hQ.2.1 hP.2.1 (fun g42 => ?_)
      refine V_iconst (pc := 45) dX1_factor_45 (by unfold I32; omega) ?_
      refine V_iadd (pc := 46) dX1_factor_46 (by unfold I32 at *; omega) ?_
      refine V_putI (pc := 47) dX1_factor_47 fw_RX1_34 rfl hQ.2.1 (Or.inl rfl) (Or.inl rfl) ?_
      have lthA50 : S.2 < n := by first | omega | exact (cc_lt (tx := tx) (n := n) (S := S) (by omega)).2
      have hA50 : DQ (mI (setI m r 3 ((S.2 : Int) + 1))) r tx n (cAdv S) C := DQ.adv hP rfl lthA50
      have ehA50 : (cAdv S).2 = S.2 + 1 := rfl
      refine V_ld (pc := 50) dX1_factor_50 (v := vi x36) rfl rfl ?_
      refine V_if_ne (pc := 51) dX1_factor_51 (tgt := 79) rfl (fun h51 => ?_) (fun h51 => ?_)
      · skip
        refine V_ld (pc := 79) dX1_factor_79 (v := vr r) rfl rfl ?_
        refine V_ld (pc := 80) dX1_factor_80 (v := vi deep) rfl rfl ?_
        refine V_iconst (pc := 81) dX1_factor_81 (by unfold I32; omega) ?_
        refine V_iadd (pc := 82) dX1_factor_82 (by unfold I32 at *; omega) ?_
        refine V_callV (pc := 83) dX1_factor_83 (F' := (5 + 3 * (k - 1))) (As := [vi (deep + 1)]) (st := []) cw_RX1_81 rfl rfl hQ.2.1 (by decide) (Nat.le_of_ble_eq_true rfl) (by omega) ((hsub (k - 1) (by omega)).1 (cAdv S) C (setI m r 3 ((S.2 : Int) + 1)) r (deep + 1)   (by first | assumption | omega) hQ hA50 (by omega) (by omega)) ?_
        rintro _ _ ⟨x83, rfl, Ix83, rfl, hF83, (⟨hw83, rfl, hP83⟩ | ⟨hw83, rfl, hf83⟩)⟩ ok83 le83
        · skip
          have hb83 := hP83.2.2.2.2.1
          refine V_st (pc := 86) dX1_factor_86 (ls' := [(3, vi 1), (2, vi x36), (0, vr r), (1, vi deep)]) rfl (Nat.le_of_ble_eq_true rfl) rfl ?_
          refine V_ld (pc := 87) dX1_factor_87 (v := vr r) rfl rfl ?_
          refine V_bipush (pc := 88) dX1_factor_88 (by unfold I32; omega) (by decide) ?_
          refine V_callV (pc := 90) dX1_factor_90 (F' := 0) (As := [vi 33]) (st := []) cw_RX1_77 rfl rfl hQ.2.1 (by decide) (Nat.le_of_ble_eq_true rfl) (by omega) (d_emit tx n (((facC tx n (k - 1)) (cAdv S)).2.2) (C ++ ((facC tx n (k - 1)) (cAdv S)).1) (wI (setI m r 3 ((S.2 : Int) + 1)) Ix83) r 33   hQ hP83 (by have h1_ := ((fac_ni tx n (k - 1) (cAdv S)).2 hw83); have h2_ : (cAdv S).2 = S.2 + 1 := rfl; simp only [List.length_append]; omega)) ?_
          rintro _ _ ⟨rfl, Ix90, rfl, hP90, hF90⟩ ok90 le90
          have lc90 : ((C ++ ((facC tx n (k - 1)) (cAdv S)).1) ++ [33]).length = (C ++ ((facC tx n (k - 1)) (cAdv S)).1).length + 1 := by rw [List.length_append]; rfl
          refine V_ld (pc := 93) dX1_factor_93 (v := vi 1) rfl rfl ?_
          refine V_reti (pc := 94) dX1_factor_94 (show _ = (0 : Int) ∨ _ = (1 : Int) from by first | exact Or.inl rfl | exact Or.inr rfl | omega) ?_
          first
            | (exfalso; omega)
            | (have e_ : facC tx n k S = (((facC tx n (k - 1)) (cAdv S)).1 ++ [33], (fun e => !(((facC tx n (k - 1)) (cAdv S)).2.1 e)), ((facC tx n (k - 1)) (cAdv S)).2.2) := by rw [facC_pos (by omega), if_pos (by omega)]
               refine ⟨mI (wI (wI (setI m r 3 ((S.2 : Int) + 1)) Ix83) Ix90), rfl, (DFr.tr (DFr.tr (DFr.set DFr.rf (by omega)) hF83) hF90), Or.inl ?_⟩
               show (facC tx n k S).2.2.1 = true ∧ (1 : Int) = 1 ∧ DQ _ r tx n (facC tx n k S).2.2 (C ++ (facC tx n k S).1)
               rw [e_]
               have h_ := hP90
               rw [List.append_assoc] at h_
               exact ⟨hw83, rfl, h_⟩)
        · skip
          refine V_st (pc := 86) dX1_factor_86 (ls' := [(3, vi 0), (2, vi x36), (0, vr r), (1, vi deep)]) rfl (Nat.le_of_ble_eq_true rfl) rfl ?_
          refine V_ld (pc := 87) dX1_factor_87 (v := vr r) rfl rfl ?_
          refine V_bipush (pc := 88) dX1_factor_88 (by unfold I32; omega) (by decide) ?_
          refine V_callV (pc := 90) dX1_factor_90 (F' := 0) (As := [vi 33]) (st := []) cw_RX1_77 rfl rfl hQ.2.1 (by decide) (Nat.le_of_ble_eq_true rfl) (by omega) (d_emitB n (wI (setI m r 3 ((S.2 : Int) + 1)) Ix83) r 33   hQ) ?_
          rintro _ _ ⟨rfl, Ix90, rfl, hF90, hf90⟩ ok90 le90
          refine V_ld (pc := 93) dX1_factor_93 (v := vi 0) rfl rfl ?_
          refine V_reti (pc := 94) dX1_factor_94 (show _ = (0 : Int) ∨ _ = (1 : Int) from by first | exact Or.inl rfl | exact Or.inr rfl | omega) ?_
          first
            | (exfalso; omega)
            | (have e_ : facC tx n k S = (((facC tx n (k - 1)) (cAdv S)).1 ++ [33], (fun e => !(((facC tx n (k - 1)) (cAdv S)).2.1 e)), ((facC tx n (k - 1)) (cAdv S)).2.2) := by rw [facC_pos (by omega), if_pos (by omega)]
               refine ⟨mI (wI (wI (setI m r 3 ((S.2 : Int) + 1)) Ix83) Ix90), rfl, (DFr.tr (DFr.tr (DFr.set DFr.rf (by omega)) hF83) hF90), Or.inr ?_⟩
               show (facC tx n k S).2.2.1 = false ∧ (0 : Int) = 0 ∧ _ = ((facC tx n k S).2.2.2 : Int)
               rw [e_]
               exact ⟨hw83, rfl, hf90.trans hf83⟩)
      · skip
        refine V_ld (pc := 54) dX1_factor_54 (v := vr r) rfl rfl ?_
        refine V_ld (pc := 55) dX1_factor_55 (v := vi deep) rfl rfl ?_
        refine V_iconst (pc := 56) dX1_factor_56 (by unfold I32; omega) ?_
        refine V_iadd (pc := 57) dX1_factor_57 (by unfold I32 at *; omega) ?_
        refine V_callV (pc := 58) dX1_factor_58 (F' := (7 + 3 * (k - 1))) (As := [vi (deep + 1)]) (st := []) cw_RX1_59 rfl rfl hQ.2.1 (by decide) (Nat.le_of_ble_eq_true rfl) (by omega) ((hsub (k - 1) (by omega)).2 (cAdv S) C (setI m r 3 ((S.2 : Int) + 1)) r (deep + 1)   (by first | assumption | omega) hQ hA50 (by omega) (by omega)) ?_
        rintro _ _ ⟨x58, rfl, Ix58, rfl, hF58, (⟨hw58, rfl, hP58⟩ | ⟨hw58, rfl, hf58⟩)⟩ ok58 le58
        · skip
          have hb58 := hP58.2.2.2.2.1
          refine V_if_eq (pc := 61) dX1_factor_61 (tgt := 77) rfl (fun h_ => absurd h_ (by decide)) (fun _ => ?_)
          refine V_ld (pc := 64) dX1_factor_64 (v := vr r) rfl rfl ?_
          refine V_bipush (pc := 65) dX1_factor_65 (by unfold I32; omega) (by decide) ?_
          refine V_callV (pc := 67) dX1_factor_67 (F' := 2) (As := [vi 41]) (st := []) cw_RX1_49 rfl rfl hQ.2.1 (by decide) (Nat.le_of_ble_eq_true rfl) (by omega) (d_passes tx n (((eitL tx n (k - 1)) (cAdv S)).2.2) (C ++ ((eitL tx n (k - 1)) (cAdv S)).1) (wI (setI m r 3 ((S.2 : Int) + 1)) Ix58) r 41   (by first | assumption | omega) hQ hP58 (by decide)) ?_
          rintro _ _ ⟨x67, rfl, Ix67, rfl, hF67, (⟨hw67, rfl, hP67⟩ | ⟨hw67, rfl, hf67⟩)⟩ ok67 le67
          · skip
            have hb67 := hP67.2.2.2.2.1
            refine V_if_eq (pc := 70) dX1_factor_70 (tgt := 77) rfl (fun h_ => absurd h_ (by decide)) (fun _ => ?_)
            refine V_iconst (pc := 73) dX1_factor_73 (by unfold I32; omega) ?_
            refine V_goto (pc := 74) dX1_factor_74 (tgt := 78) rfl ?_
            refine V_reti (pc := 78) dX1_factor_78 (show _ = (0 : Int) ∨ _ = (1 : Int) from by first | exact Or.inl rfl | exact Or.inr rfl | omega) ?_
            first
              | (exfalso; omega)
              | (have e_ : facC tx n k S = (((eitL tx n (k - 1)) (cAdv S)).1, ((eitL tx n (k - 1)) (cAdv S)).2.1, cTake tx n ((eitL tx n (k - 1)) (cAdv S)).2.2 41) := by rw [facC_pos (by omega), if_neg (by omega), if_pos (by omega)]
                 refine ⟨mI (wI (wI (setI m r 3 ((S.2 : Int) + 1)) Ix58) Ix67), rfl, (DFr.tr (DFr.tr (DFr.set DFr.rf (by omega)) hF58) hF67), Or.inl ?_⟩
                 show (facC tx n k S).2.2.1 = true ∧ (1 : Int) = 1 ∧ DQ _ r tx n (facC tx n k S).2.2 (C ++ (facC tx n k S).1)
                 rw [e_]
                 exact ⟨hw67, rfl, hP67⟩)
          · skip
            refine V_if_eq (pc := 70) dX1_factor_70 (tgt := 77) rfl (fun _ => ?_) (fun h_ => absurd h_ (by decide))
            refine V_iconst (pc := 77) dX1_factor_77 (by unfold I32; omega) ?_
            refine V_reti (pc := 78) dX1_factor_78 (show _ = (0 : Int) ∨ _ = (1 : Int) from by first | exact Or.inl rfl | exact Or.inr rfl | omega) ?_
            first
              | (exfalso; omega)
              | (have e_ : facC tx n k S = (((eitL tx n (k - 1)) (cAdv S)).1, ((eitL tx n (k - 1)) (cAdv S)).2.1, cTake tx n ((eitL tx n (k - 1)) (cAdv S)).2.2 41) := by rw [facC_pos (by omega), if_neg (by omega), if_pos (by omega)]
                 refine ⟨mI (wI (wI (setI m r 3 ((S.2 : Int) + 1)) Ix58) Ix67), rfl, (DFr.tr (DFr.tr (DFr.set DFr.rf (by omega)) hF58) hF67), Or.inr ?_⟩
                 show (facC tx n k S).2.2.1 = false ∧ (0 : Int) = 0 ∧ _ = ((facC tx n k S).2.2.2 : Int)
                 rw [e_]
                 exact ⟨hw67, rfl, hf67⟩)
        · skip
          refine V_if_eq (pc := 61) dX1_factor_61 (tgt := 77) rfl (fun _ => ?_) (fun h_ => absurd h_ (by decide))
          refine V_iconst (pc := 77) dX1_factor_77 (by unfold I32; omega) ?_
          refine V_reti (pc := 78) dX1_factor_78 (show _ = (0 : Int) ∨ _ = (1 : Int) from by first | exact Or.inl rfl | exact Or.inr rfl | omega) ?_
          first
            | (exfalso; omega)
            | (have e_ : facC tx n k S = (((eitL tx n (k - 1)) (cAdv S)).1, ((eitL tx n (k - 1)) (cAdv S)).2.1, cTake tx n ((eitL tx n (k - 1)) (cAdv S)).2.2 41) := by rw [facC_pos (by omega), if_neg (by omega), if_pos (by omega)]
               refine ⟨mI (wI (setI m r 3 ((S.2 : Int) + 1)) Ix58), rfl, (DFr.tr (DFr.set DFr.rf (by omega)) hF58), Or.inr ?_⟩
               show (facC tx n k S).2.2.1 = false ∧ (0 : Int) = 0 ∧ _ = ((facC tx n k S).2.2.2 : Int)
               rw [e_]
               show (cTake tx n ((eitL tx n (k - 1)) (cAdv S)).2.2 41).1 = false ∧ (0 : Int) = 0 ∧ _ = ((cTake tx n ((eitL tx n (k - 1)) (cAdv S)).2.2 41).2 : Int)
               rw [ctake_dead (by decide) hw58]
               exact ⟨hw58, rfl, hf58⟩)
    · skip
      refine V_ld (pc := 28) dX1_factor_28 (v := vr r) rfl rfl ?_
      refine V_callV (pc := 29) dX1_factor_29 (F' := 0) (As := []) (st := []) cw_RX1_45 rfl rfl hQ.2.1 (by decide) (Nat.le_of_ble_eq_true rfl) (by omega) (d_failed n m r   hQ) ?_
      rintro _ _ ⟨x29, rfl, Ix29, rfl, rfl, hI29, hF29⟩ ok29 le29
      refine V_reti (pc := 32) dX1_factor_32 (show _ = (0 : Int) ∨ _ = (1 : Int) from by first | exact Or.inl rfl | exact Or.inr rfl | omega) ?_
      first
        | (exfalso; omega)
        | (have e_ : facC tx n k S = tstS tx n S := facC_tst (fun hk_ => by omega)
           refine ⟨mI (wI m Ix29), rfl, (DFr.tr DFr.rf hF29), Or.inr ?_⟩
           show (facC tx n k S).2.2.1 = false ∧ (0 : Int) = 0 ∧ _ = ((facC tx n k S).2.2.2 : Int)
           rw [e_, tst_b0 (by omega)]
           exact ⟨rfl, rfl, hI29.trans ((if_pos hP.2.2.1).trans hP.2.1)⟩)
  · skip
    refine V_ld (pc := 9) dX1_factor_9 (v := vr r) rfl rfl ?_
    refine V_bipush (pc := 10) dX1_factor_10 (by unfold I32; omega) (by decide) ?_
    refine V_callV (pc := 12) dX1_factor_12 (F' := 1) (As := [vi 40]) (st := []) cw_RX1_56 rfl rfl hQ.2.1 (by decide) (Nat.le_of_ble_eq_true rfl) (by omega) (d_comes tx n S C m r 40   (by first | assumption | omega) hQ hP (by decide)) ?_
    rintro _ _ ⟨x12, rfl, hx12, rfl⟩ ok12 le12
    refine V_if_ne (pc := 15) dX1_factor_15 (tgt := 23) rfl (fun h15 => ?_) (fun h15 => ?_)
    · skip
      refine V_ld (pc := 23) dX1_factor_23 (v := vi deep) rfl rfl ?_
      refine V_iconst (pc := 24) dX1_factor_24 (by unfold I32; omega) ?_
      refine V_icmp_lt (pc := 25) dX1_factor_25 (tgt := 33) rfl (fun h25 => ?_) (fun h25 => ?_)
      · skip
        refine V_ld (pc := 33) dX1_factor_33 (v := vr r) rfl rfl ?_
        refine V_bipush (pc := 34) dX1_factor_34 (by unfold I32; omega) (by decide) ?_
        refine V_callV (pc := 36) dX1_factor_36 (F' := 1) (As := [vi 33]) (st := []) cw_RX1_56 rfl rfl hQ.2.1 (by decide) (Nat.le_of_ble_eq_true rfl) (by omega) (d_comes tx n S C m r 33   (by first | assumption | omega) hQ hP (by decide)) ?_
        rintro _ _ ⟨x36, rfl, hx36, rfl⟩ ok36 le36
        refine V_st (pc := 39) dX1_factor_39 (ls' := [(2, vi x36), (0, vr r), (1, vi deep)]) rfl (Nat.le_of_ble_eq_true rfl) rfl ?_
        refine V_ld (pc := 40) dX1_factor_40 (v := vr r) rfl rfl ?_
        refine V_dup (pc := 41) dX1_factor_41 rfl ?_
        refine V_getIv (pc := 42) dX1_factor_42 (v := (S.2 : Int)) fw_RX1_34 rfl hQ.2.1 hP.2.1 (fun g42 => ?_)
        refine V_iconst (pc := 45) dX1_factor_45 (by unfold I32; omega) ?_
        refine V_iadd (pc := 46) dX1_factor_46 (by unfold I32 at *; omega) ?_
        refine V_putI (pc := 47) dX1_factor_47 fw_RX1_34 rfl hQ.2.1 (Or.inl rfl) (Or.inl rfl) ?_
        have lthA50 : S.2 < n := by first | omega | exact (cc_lt (tx := tx) (n := n) (S := S) (by omega)).2
        have hA50 : DQ (mI (setI m r 3 ((S.2 : Int) + 1))) r tx n (cAdv S) C := DQ.adv hP rfl lthA50
        have ehA50 : (cAdv S).2 = S.2 + 1 := rfl
        refine V_ld (pc := 50) dX1_factor_50 (v := vi x36) rfl rfl ?_
        refine V_if_ne (pc := 51) dX1_factor_51 (tgt := 79) rfl (fun h51 => ?_) (fun h51 => ?_)
        · skip
          refine V_ld (pc := 79) dX1_factor_79 (v := vr r) rfl rfl ?_
          refine V_ld (pc := 80) dX1_factor_80 (v := vi deep) rfl rfl ?_
          refine V_iconst (pc := 81) dX1_factor_81 (by unfold I32; omega) ?_
          refine V_iadd (pc := 82) dX1_factor_82 (by unfold I32 at *; omega) ?_
          refine V_callV (pc := 83) dX1_factor_83 (F' := (5 + 3 * (k - 1))) (As := [vi (deep + 1)]) (st := []) cw_RX1_81 rfl rfl hQ.2.1 (by decide) (Nat.le_of_ble_eq_true rfl) (by omega) ((hsub (k - 1) (by omega)).1 (cAdv S) C (setI m r 3 ((S.2 : Int) + 1)) r (deep + 1)   (by first | assumption | omega) hQ hA50 (by omega) (by omega)) ?_
          rintro _ _ ⟨x83, rfl, Ix83, rfl, hF83, (⟨hw83, rfl, hP83⟩ | ⟨hw83, rfl, hf83⟩)⟩ ok83 le83
          · skip
            have hb83 := hP83.2.2.2.2.1
            refine V_st (pc := 86) dX1_factor_86 (ls' := [(3, vi 1), (2, vi x36), (0, vr r), (1, vi deep)]) rfl (Nat.le_of_ble_eq_true rfl) rfl ?_
            refine V_ld (pc := 87) dX1_factor_87 (v := vr r) rfl rfl ?_
            refine V_bipush (pc := 88) dX1_factor_88 (by unfold I32; omega) (by decide) ?_
            refine V_callV (pc := 90) dX1_factor_90 (F' := 0) (As := [vi 33]) (st := []) cw_RX1_77 rfl rfl hQ.2.1 (by decide) (Nat.le_of_ble_eq_true rfl) (by omega) (d_emit tx n (((facC tx n (k - 1)) (cAdv S)).2.2) (C ++ ((facC tx n (k - 1)) (cAdv S)).1) (wI (setI m r 3 ((S.2 : Int) + 1)) Ix83) r 33   hQ hP83 (by have h1_ := ((fac_ni tx n (k - 1) (cAdv S)).2 hw83); have h2_ : (cAdv S).2 = S.2 + 1 := rfl; simp only [List.length_append]; omega)) ?_
            rintro _ _ ⟨rfl, Ix90, rfl, hP90, hF90⟩ ok90 le90
            have lc90 : ((C ++ ((facC tx n (k - 1)) (cAdv S)).1) ++ [33]).length = (C ++ ((facC tx n (k - 1)) (cAdv S)).1).length + 1 := by rw [List.length_append]; rfl
            refine V_ld (pc := 93) dX1_factor_93 (v := vi 1) rfl rfl ?_
            refine V_reti (pc := 94) dX1_factor_94 (show _ = (0 : Int) ∨ _ = (1 : Int) from by first | exact Or.inl rfl | exact Or.inr rfl | omega) ?_
            first
              | (exfalso; omega)
              | (have e_ : facC tx n k S = (((facC tx n (k - 1)) (cAdv S)).1 ++ [33], (fun e => !(((facC tx n (k - 1)) (cAdv S)).2.1 e)), ((facC tx n (k - 1)) (cAdv S)).2.2) := by rw [facC_pos (by omega), if_pos (by omega)]
                 refine ⟨mI (wI (wI (setI m r 3 ((S.2 : Int) + 1)) Ix83) Ix90), rfl, (DFr.tr (DFr.tr (DFr.set DFr.rf (by omega)) hF83) hF90), Or.inl ?_⟩
                 show (facC tx n k S).2.2.1 = true ∧ (1 : Int) = 1 ∧ DQ _ r tx n (facC tx n k S).2.2 (C ++ (facC tx n k S).1)
                 rw [e_]
                 have h_ := hP90
                 rw [List.append_assoc] at h_
                 exact ⟨hw83, rfl, h_⟩)
          · skip
            refine V_st (pc := 86) dX1_factor_86 (ls' := [(3, vi 0), (2, vi x36), (0, vr r), (1, vi deep)]) rfl (Nat.le_of_ble_eq_true rfl) rfl ?_
            refine V_ld (pc := 87) dX1_factor_87 (v := vr r) rfl rfl ?_
            refine V_bipush (pc := 88) dX1_factor_88 (by unfold I32; omega) (by decide) ?_
            refine V_callV (pc := 90) dX1_factor_90 (F' := 0) (As := [vi 33]) (st := []) cw_RX1_77 rfl rfl hQ.2.1 (by decide) (Nat.le_of_ble_eq_true rfl) (by omega) (d_emitB n (wI (setI m r 3 ((S.2 : Int) + 1)) Ix83) r 33   hQ) ?_
            rintro _ _ ⟨rfl, Ix90, rfl, hF90, hf90⟩ ok90 le90
            refine V_ld (pc := 93) dX1_factor_93 (v := vi 0) rfl rfl ?_
            refine V_reti (pc := 94) dX1_factor_94 (show _ = (0 : Int) ∨ _ = (1 : Int) from by first | exact Or.inl rfl | exact Or.inr rfl | omega) ?_
            first
              | (exfalso; omega)
              | (have e_ : facC tx n k S = (((facC tx n (k - 1)) (cAdv S)).1 ++ [33], (fun e => !(((facC tx n (k - 1)) (cAdv S)).2.1 e)), ((facC tx n (k - 1)) (cAdv S)).2.2) := by rw [facC_pos (by omega), if_pos (by omega)]
                 refine ⟨mI (wI (wI (setI m r 3 ((S.2 : Int) + 1)) Ix83) Ix90), rfl, (DFr.tr (DFr.tr (DFr.set DFr.rf (by omega)) hF83) hF90), Or.inr ?_⟩
                 show (facC tx n k S).2.2.1 = false ∧ (0 : Int) = 0 ∧ _ = ((facC tx n k S).2.2.2 : Int)
                 rw [e_]
                 exact ⟨hw83, rfl, hf90.trans hf83⟩)
        · skip
          refine V_ld (pc := 54) dX1_factor_54 (v := vr r) rfl rfl ?_
          refine V_ld (pc := 55) dX1_factor_55 (v := vi deep) rfl rfl ?_
          refine V_iconst (pc := 56) dX1_factor_56 (by unfold I32; omega) ?_
          refine V_iadd (pc := 57) dX1_factor_57 (by unfold I32 at *; omega) ?_
          refine V_callV (pc := 58) dX1_factor_58 (F' := (7 + 3 * (k - 1))) (As := [vi (deep + 1)]) (st := []) cw_RX1_59 rfl rfl hQ.2.1 (by decide) (Nat.le_of_ble_eq_true rfl) (by omega) ((hsub (k - 1) (by omega)).2 (cAdv S) C (setI m r 3 ((S.2 : Int) + 1)) r (deep + 1)   (by first | assumption | omega) hQ hA50 (by omega) (by omega)) ?_
          rintro _ _ ⟨x58, rfl, Ix58, rfl, hF58, (⟨hw58, rfl, hP58⟩ | ⟨hw58, rfl, hf58⟩)⟩ ok58 le58
          · skip
            have hb58 := hP58.2.2.2.2.1
            refine V_if_eq (pc := 61) dX1_factor_61 (tgt := 77) rfl (fun h_ => absurd h_ (by decide)) (fun _ => ?_)
            refine V_ld (pc := 64) dX1_factor_64 (v := vr r) rfl rfl ?_
            refine V_bipush (pc := 65) dX1_factor_65 (by unfold I32; omega) (by decide) ?_
            refine V_callV (pc := 67) dX1_factor_67 (F' := 2) (As := [vi 41]) (st := []) cw_RX1_49 rfl rfl hQ.2.1 (by decide) (Nat.le_of_ble_eq_true rfl) (by omega) (d_passes tx n (((eitL tx n (k - 1)) (cAdv S)).2.2) (C ++ ((eitL tx n (k - 1)) (cAdv S)).1) (wI (setI m r 3 ((S.2 : Int) + 1)) Ix58) r 41   (by first | assumption | omega) hQ hP58 (by decide)) ?_
            rintro _ _ ⟨x67, rfl, Ix67, rfl, hF67, (⟨hw67, rfl, hP67⟩ | ⟨hw67, rfl, hf67⟩)⟩ ok67 le67
            · skip
              have hb67 := hP67.2.2.2.2.1
              refine V_if_eq (pc := 70) dX1_factor_70 (tgt := 77) rfl (fun h_ => absurd h_ (by decide)) (fun _ => ?_)
              refine V_iconst (pc := 73) dX1_factor_73 (by unfold I32; omega) ?_
              refine V_goto (pc := 74) dX1_factor_74 (tgt := 78) rfl ?_
              refine V_reti (pc := 78) dX1_factor_78 (show _ = (0 : Int) ∨ _ = (1 : Int) from by first | exact Or.inl rfl | exact Or.inr rfl | omega) ?_
              first
                | (exfalso; omega)
                | (have e_ : facC tx n k S = (((eitL tx n (k - 1)) (cAdv S)).1, ((eitL tx n (k - 1)) (cAdv S)).2.1, cTake tx n ((eitL tx n (k - 1)) (cAdv S)).2.2 41) := by rw [facC_pos (by omega), if_neg (by omega), if_pos (by omega)]
                   refine ⟨mI (wI (wI (setI m r 3 ((S.2 : Int) + 1)) Ix58) Ix67), rfl, (DFr.tr (DFr.tr (DFr.set DFr.rf (by omega)) hF58) hF67), Or.inl ?_⟩
                   show (facC tx n k S).2.2.1 = true ∧ (1 : Int) = 1 ∧ DQ _ r tx n (facC tx n k S).2.2 (C ++ (facC tx n k S).1)
                   rw [e_]
                   exact ⟨hw67, rfl, hP67⟩)
            · skip
              refine V_if_eq (pc := 70) dX1_factor_70 (tgt := 77) rfl (fun _ => ?_) (fun h_ => absurd h_ (by decide))
              refine V_iconst (pc := 77) dX1_factor_77 (by unfold I32; omega) ?_
              refine V_reti (pc := 78) dX1_factor_78 (show _ = (0 : Int) ∨ _ = (1 : Int) from by first | exact Or.inl rfl | exact Or.inr rfl | omega) ?_
              first
                | (exfalso; omega)
                | (have e_ : facC tx n k S = (((eitL tx n (k - 1)) (cAdv S)).1, ((eitL tx n (k - 1)) (cAdv S)).2.1, cTake tx n ((eitL tx n (k - 1)) (cAdv S)).2.2 41) := by rw [facC_pos (by omega), if_neg (by omega), if_pos (by omega)]
                   refine ⟨mI (wI (wI (setI m r 3 ((S.2 : Int) + 1)) Ix58) Ix67), rfl, (DFr.tr (DFr.tr (DFr.set DFr.rf (by omega)) hF58) hF67), Or.inr ?_⟩
                   show (facC tx n k S).2.2.1 = false ∧ (0 : Int) = 0 ∧ _ = ((facC tx n k S).2.2.2 : Int)
                   rw [e_]
                   exact ⟨hw67, rfl, hf67⟩)
          · skip
            refine V_if_eq (pc := 61) dX1_factor_61 (tgt := 77) rfl (fun _ => ?_) (fun h_ => absurd h_ (by decide))
            refine V_iconst (pc := 77) dX1_factor_77 (by unfold I32; omega) ?_
            refine V_reti (pc := 78) dX1_factor_78 (show _ = (0 : Int) ∨ _ = (1 : Int) from by first | exact Or.inl rfl | exact Or.inr rfl | omega) ?_
            first
              | (exfalso; omega)
              | (have e_ : facC tx n k S = (((eitL tx n (k - 1)) (cAdv S)).1, ((eitL tx n (k - 1)) (cAdv S)).2.1, cTake tx n ((eitL tx n (k - 1)) (cAdv S)).2.2 41) := by rw [facC_pos (by omega), if_neg (by omega), if_pos (by omega)]
                 refine ⟨mI (wI (setI m r 3 ((S.2 : Int) + 1)) Ix58), rfl, (DFr.tr (DFr.set DFr.rf (by omega)) hF58), Or.inr ?_⟩
                 show (facC tx n k S).2.2.1 = false ∧ (0 : Int) = 0 ∧ _ = ((facC tx n k S).2.2.2 : Int)
                 rw [e_]
                 show (cTake tx n ((eitL tx n (k - 1)) (cAdv S)).2.2 41).1 = false ∧ (0 : Int) = 0 ∧ _ = ((cTake tx n ((eitL tx n (k - 1)) (cAdv S)).2.2 41).2 : Int)
                 rw [ctake_dead (by decide) hw58]
                 exact ⟨hw58, rfl, hf58⟩)
      · skip
        refine V_ld (pc := 28) dX1_factor_28 (v := vr r) rfl rfl ?_
        refine V_callV (pc := 29) dX1_factor_29 (F' := 0) (As := []) (st := []) cw_RX1_45 rfl rfl hQ.2.1 (by decide) (Nat.le_of_ble_eq_true rfl) (by omega) (d_failed n m r   hQ) ?_
        rintro _ _ ⟨x29, rfl, Ix29, rfl, rfl, hI29, hF29⟩ ok29 le29
        refine V_reti (pc := 32) dX1_factor_32 (show _ = (0 : Int) ∨ _ = (1 : Int) from by first | exact Or.inl rfl | exact Or.inr rfl | omega) ?_
        first
          | (exfalso; omega)
          | (have e_ : facC tx n k S = tstS tx n S := facC_tst (fun hk_ => by omega)
             refine ⟨mI (wI m Ix29), rfl, (DFr.tr DFr.rf hF29), Or.inr ?_⟩
             show (facC tx n k S).2.2.1 = false ∧ (0 : Int) = 0 ∧ _ = ((facC tx n k S).2.2.2 : Int)
             rw [e_, tst_b0 (by omega)]
             exact ⟨rfl, rfl, hI29.trans ((if_pos hP.2.2.1).trans hP.2.1)⟩)
    · skip
      refine V_ld (pc := 18) dX1_factor_18 (v := vr r) rfl rfl ?_
      refine V_callV (pc := 19) dX1_factor_19 (F' := 4) (As := []) (st := []) cw_RX1_84 rfl rfl hQ.2.1 (by decide) (Nat.le_of_ble_eq_true rfl) (by omega) (d_test tx n S C m r   (by first | assumption | omega) hQ hP hlt) ?_
      rintro _ _ ⟨x19, rfl, Ix19, rfl, hx19, hO19⟩ ok19 le19
      have hz19 := DOut.b hO19
      refine V_reti (pc := 22) dX1_factor_22 (show _ = (0 : Int) ∨ _ = (1 : Int) from by first | exact Or.inl rfl | exact Or.inr rfl | omega) ?_
      have e_ : facC tx n k S = tstS tx n S := facC_tst (fun hk_ => by omega)
      refine ⟨mI (wI m Ix19), rfl, (DFr.tr DFr.rf hx19), ?_⟩
      show DOut _ r tx n (facC tx n k S).2.2 (C ++ (facC tx n k S).1) _
      rw [e_]
      exact hO19

set_option maxHeartbeats 8000000 in
theorem L_dboth {F : Nat} {m0 m : Mem} {post : Option AV → Mem → Prop} {tx : Nat → Int} {n k r : Nat} {deep : Int} {C0 : List Int} (hL : Lay (mT m) (mR m)) (hQ : QLay m r n) (hk : deep + (k : Int) = 4) (hFF : 5 + 3 * k < F) (hsub : DFac tx n k) : ∀ (f : Nat) (R : CR) (i : Int) (I : Nat → Nat → Int), DQ I r tx n R.2.2 (C0 ++ R.1) → n + 1 ≤ f + R.2.2.2 → (C0 ++ R.1).length + 2 ≤ R.2.2.2 → 0 ≤ i → i ≤ (R.2.2.2 : Int) → (∀ (x i' : Int) (J : Nat → Nat → Int), DOut J r tx n (lpC tx n 38 (facC tx n k) f R).2.2 (C0 ++ (lpC tx n 38 (facC tx n k) f R).1) x → DFr r I J → V μX1_both F m0 post 55 [(3, vi i'), (2, vi x), (0, vr r), (1, vi deep)] [] (wI m J)) → V μX1_both F m0 post 8 [(3, vi i), (2, vi 1), (0, vr r), (1, vi deep)] [] (wI m I) := by
  intro f
  induction f with
  | zero =>
    intro R i I hP hf hlt hi0 hi1 kx
    have hfz := hP.2.2.2.2.1
    omega
  | succ f ih =>
    intro R i I hP hf hlt hi0 hi1 kx
    have hn120 := hP.2.2.2.2.2.1
    have hb0 := hP.2.2.2.2.1
    obtain ⟨hr59, hq120⟩ := hQ.1
    have hS1 : R.2.2.1 = true := hP.2.2.2.2.2.2.2.2.1
    refine V_rg (k := 1) (x := deep) rfl fun rr1 => ?_
    refine V_ld (pc := 8) dX1_both_8 (v := vi i) rfl rfl ?_
    refine V_bipush (pc := 9) dX1_both_9 (by unfold I32; omega) (by decide) ?_
    refine V_icmp_ge (pc := 11) dX1_both_11 (tgt := 55) rfl (fun h11 => ?_) (fun h11 => ?_)
    · skip
      first
        | (exfalso; omega)
        | (have e_ : lpC tx n 38 (facC tx n k) (f + 1) R = R := lpC_stop (fun h_ => by have h2_ := (cc_lt (tx := tx) (n := n) (S := R.2.2) (by omega)).2; omega)
           skip
           refine kx 1 i I (Or.inl ?_) DFr.rf
           rw [e_]
           exact ⟨hS1, rfl, hP⟩)
    · skip
      refine V_ld (pc := 14) dX1_both_14 (v := vi 1) rfl rfl ?_
      refine V_if_eq (pc := 15) dX1_both_15 (tgt := 55) rfl (fun h_ => absurd h_ (by decide)) (fun _ => ?_)
      refine V_ld (pc := 18) dX1_both_18 (v := vr r) rfl rfl ?_
      refine V_bipush (pc := 19) dX1_both_19 (by unfold I32; omega) (by decide) ?_
      refine V_callV (pc := 21) dX1_both_21 (F' := 1) (As := [vi 38]) (st := []) cw_RX1_56 rfl rfl hQ.2.1 (by decide) (Nat.le_of_ble_eq_true rfl) (by omega) (d_comes tx n R.2.2 (C0 ++ R.1) (wI m I) r 38   (by first | assumption | omega) hQ hP (by decide)) ?_
      rintro _ _ ⟨x21, rfl, hx21, rfl⟩ ok21 le21
      refine V_if_eq (pc := 24) dX1_both_24 (tgt := 55) rfl (fun h24 => ?_) (fun h24 => ?_)
      · skip
        first
          | (exfalso; omega)
          | (have e_ : lpC tx n 38 (facC tx n k) (f + 1) R = R := lpC_stop (fun h_ => by have h2_ := (cc_lt (tx := tx) (n := n) (S := R.2.2) (by omega)).2; omega)
             skip
             refine kx 1 i I (Or.inl ?_) DFr.rf
             rw [e_]
             exact ⟨hS1, rfl, hP⟩)
      · skip
        refine V_ld (pc := 27) dX1_both_27 (v := vr r) rfl rfl ?_
        refine V_dup (pc := 28) dX1_both_28 rfl ?_
        refine V_getIv (pc := 29) dX1_both_29 (v := (R.2.2.2 : Int)) fw_RX1_34 rfl hQ.2.1 hP.2.1 (fun g29 => ?_)
        refine V_iconst (pc := 32) dX1_both_32 (by unfold I32; omega) ?_
        refine V_iadd (pc := 33) dX1_both_33 (by unfold I32 at *; omega) ?_
        refine V_putI (pc := 34) dX1_both_34 fw_RX1_34 rfl hQ.2.1 (Or.inl rfl) (Or.inl rfl) ?_
        have lthA37 : R.2.2.2 < n := by first | omega | exact (cc_lt (tx := tx) (n := n) (S := R.2.2) (by omega)).2
        have hA37 : DQ (mI (setI (wI m I) r 3 ((R.2.2.2 : Int) + 1))) r tx n (cAdv R.2.2) (C0 ++ R.1) := DQ.adv hP rfl lthA37
        have ehA37 : (cAdv R.2.2).2 = R.2.2.2 + 1 := rfl
        refine V_ld (pc := 37) dX1_both_37 (v := vr r) rfl rfl ?_
        refine V_ld (pc := 38) dX1_both_38 (v := vi deep) rfl rfl ?_
        refine V_callV (pc := 39) dX1_both_39 (F' := (5 + 3 * k)) (As := [vi deep]) (st := []) cw_RX1_81 rfl rfl hQ.2.1 (by decide) (Nat.le_of_ble_eq_true rfl) (by omega) (hsub (cAdv R.2.2) (C0 ++ R.1) (setI (wI m I) r 3 ((R.2.2.2 : Int) + 1)) r deep   (by first | assumption | omega) hQ hA37 hk (by omega)) ?_
        rintro _ _ ⟨x39, rfl, Ix39, rfl, hF39, (⟨hw39, rfl, hP39⟩ | ⟨hw39, rfl, hf39⟩)⟩ ok39 le39
        · skip
          have hb39 := hP39.2.2.2.2.1
          refine V_st (pc := 42) dX1_both_42 (ls' := [(2, vi 1), (3, vi i), (0, vr r), (1, vi deep)]) rfl (Nat.le_of_ble_eq_true rfl) rfl ?_
          refine V_ld (pc := 43) dX1_both_43 (v := vr r) rfl rfl ?_
          refine V_bipush (pc := 44) dX1_both_44 (by unfold I32; omega) (by decide) ?_
          refine V_callV (pc := 46) dX1_both_46 (F' := 0) (As := [vi 38]) (st := []) cw_RX1_77 rfl rfl hQ.2.1 (by decide) (Nat.le_of_ble_eq_true rfl) (by omega) (d_emit tx n (((facC tx n k) (cAdv R.2.2)).2.2) ((C0 ++ R.1) ++ ((facC tx n k) (cAdv R.2.2)).1) (wI (setI (wI m I) r 3 ((R.2.2.2 : Int) + 1)) Ix39) r 38   hQ hP39 (by have h1_ := (fac_ni tx n k (cAdv R.2.2)).2 hw39; have h2_ : (cAdv R.2.2).2 = R.2.2.2 + 1 := rfl; simp only [List.length_append] at hlt ⊢; omega)) ?_
          rintro _ _ ⟨rfl, Ix46, rfl, hP46, hF46⟩ ok46 le46
          have lc46 : (((C0 ++ R.1) ++ ((facC tx n k) (cAdv R.2.2)).1) ++ [38]).length = ((C0 ++ R.1) ++ ((facC tx n k) (cAdv R.2.2)).1).length + 1 := by rw [List.length_append]; rfl
          refine V_iinc (pc := 49) dX1_both_49 (x := i) (ls' := [(3, vi (i + 1)), (2, vi 1), (0, vr r), (1, vi deep)]) rfl (by unfold I32 at *; omega) (Nat.le_of_ble_eq_true rfl) rfl ?_
          refine V_goto (pc := 52) dX1_both_52 (tgt := 8) rfl ?_
          skip
          have hni_ := (fac_ni tx n k (cAdv R.2.2)).1
          have hln_ := (fac_ni tx n k (cAdv R.2.2)).2 hw39
          have hg_ := (hni_.2.1 hw39).2
          have hA_ : (cAdv R.2.2).2 = R.2.2.2 + 1 := rfl
          have hD_ : DQ (Ix46) r tx n (joinC 38 R (facC tx n k (cAdv R.2.2))).2.2 (C0 ++ (joinC 38 R (facC tx n k (cAdv R.2.2))).1) := by
            have h_ := hP46
            rw [List.append_assoc, List.append_assoc] at h_
            show DQ Ix46 r tx n (facC tx n k (cAdv R.2.2)).2.2 (C0 ++ (R.1 ++ (facC tx n k (cAdv R.2.2)).1 ++ [38]))
            rw [List.append_assoc]
            exact h_
          refine ih (joinC 38 R (facC tx n k (cAdv R.2.2))) (i + 1) Ix46 hD_ ?_ ?_ (by omega) ?_ ?_
          · show n + 1 ≤ f + (facC tx n k (cAdv R.2.2)).2.2.2; omega
          · show (C0 ++ (R.1 ++ (facC tx n k (cAdv R.2.2)).1 ++ [38])).length + 2 ≤ (facC tx n k (cAdv R.2.2)).2.2.2
            simp only [List.length_append, List.length_cons, List.length_nil] at hlt ⊢
            omega
          · show i + 1 ≤ ((facC tx n k (cAdv R.2.2)).2.2.2 : Int); omega
          · intro x i' J hJ hFJ
            refine kx x i' J ?_ (DFr.tr (DFr.tr (DFr.tr (DFr.set (DFr.rf : DFr r I I) (by omega)) hF39) hF46) hFJ)
            have e_ : lpC tx n 38 (facC tx n k) (f + 1) R = lpC tx n 38 (facC tx n k) f (joinC 38 R (facC tx n k (cAdv R.2.2))) := if_pos (by omega)
            rw [e_]
            exact hJ
        · skip
          refine V_st (pc := 42) dX1_both_42 (ls' := [(2, vi 0), (3, vi i), (0, vr r), (1, vi deep)]) rfl (Nat.le_of_ble_eq_true rfl) rfl ?_
          refine V_ld (pc := 43) dX1_both_43 (v := vr r) rfl rfl ?_
          refine V_bipush (pc := 44) dX1_both_44 (by unfold I32; omega) (by decide) ?_
          refine V_callV (pc := 46) dX1_both_46 (F' := 0) (As := [vi 38]) (st := []) cw_RX1_77 rfl rfl hQ.2.1 (by decide) (Nat.le_of_ble_eq_true rfl) (by omega) (d_emitB n (wI (setI (wI m I) r 3 ((R.2.2.2 : Int) + 1)) Ix39) r 38   hQ) ?_
          rintro _ _ ⟨rfl, Ix46, rfl, hF46, hf46⟩ ok46 le46
          refine V_iinc (pc := 49) dX1_both_49 (x := i) (ls' := [(3, vi (i + 1)), (2, vi 0), (0, vr r), (1, vi deep)]) rfl (by unfold I32 at *; omega) (Nat.le_of_ble_eq_true rfl) rfl ?_
          refine V_goto (pc := 52) dX1_both_52 (tgt := 8) rfl ?_
          skip
          refine V_ld (pc := 8) dX1_both_8 (v := vi (i + 1)) rfl rfl ?_
          refine V_bipush (pc := 9) dX1_both_9 (by unfold I32; omega) (by decide) ?_
          refine V_icmp_ge (pc := 11) dX1_both_11 (tgt := 55) rfl (fun h11 => ?_) (fun h11 => ?_)
          · skip
            refine V_ls (ls' := [(3, vi (i + 1)), (2, vi 0), (0, vr r), (1, vi deep)]) (by intro q_ h_; simp only [List.mem_cons, List.not_mem_nil, or_false] at h_ ⊢; rcases h_ with rfl | rfl | rfl | rfl <;> simp) ?_
            refine V_mem (m' := wI m Ix46) rfl ?_
            refine kx 0 (i + 1) Ix46 (Or.inr ?_) (DFr.tr (DFr.tr (DFr.set (DFr.rf : DFr r I I) (by omega)) hF39) hF46)
            have e_ : lpC tx n 38 (facC tx n k) (f + 1) R = lpC tx n 38 (facC tx n k) f (joinC 38 R (facC tx n k (cAdv R.2.2))) := if_pos (by omega)
            rw [e_, lpC_dead (by decide) (show (joinC 38 R (facC tx n k (cAdv R.2.2))).2.2.1 = false from hw39)]
            exact ⟨hw39, rfl, hf46.trans hf39⟩
          · skip
            refine V_ld (pc := 14) dX1_both_14 (v := vi 0) rfl rfl ?_
            refine V_if_eq (pc := 15) dX1_both_15 (tgt := 55) rfl (fun _ => ?_) (fun h_ => absurd h_ (by decide))
            refine V_ls (ls' := [(3, vi (i + 1)), (2, vi 0), (0, vr r), (1, vi deep)]) (by intro q_ h_; simp only [List.mem_cons, List.not_mem_nil, or_false] at h_ ⊢; rcases h_ with rfl | rfl | rfl | rfl <;> simp) ?_
            refine V_mem (m' := wI m Ix46) rfl ?_
            refine kx 0 (i + 1) Ix46 (Or.inr ?_) (DFr.tr (DFr.tr (DFr.set (DFr.rf : DFr r I I) (by omega)) hF39) hF46)
            have e_ : lpC tx n 38 (facC tx n k) (f + 1) R = lpC tx n 38 (facC tx n k) f (joinC 38 R (facC tx n k (cAdv R.2.2))) := if_pos (by omega)
            rw [e_, lpC_dead (by decide) (show (joinC 38 R (facC tx n k (cAdv R.2.2))).2.2.1 = false from hw39)]
            exact ⟨hw39, rfl, hf46.trans hf39⟩

set_option maxHeartbeats 8000000 in
theorem d_both (tx : Nat → Int) (n : Nat) (k : Nat) (S : CS) (C : List Int) (m : Mem) (r : Nat) (deep : Int)   (hL : Lay (mT m) (mR m)) (hQ : QLay m r n) (hP : DQ (mI m) r tx n S C) (hk : deep + (k : Int) = 4) (hlt : C.length + 2 ≤ S.2) (hsub : DFac tx n k) : Ct μX1_both (6 + 3 * k) [vr r, vi deep] m (ri fun x_ m' => ∃ I_ : Nat → Nat → Int, wI m I_ = m' ∧ (DFr r (mI m) I_) ∧ DOut I_ r tx n ((bthL tx n k) S).2.2 (C ++ ((bthL tx n k) S).1) x_) := by
  refine Ct_of_V rfl (by decide) rfl (Nat.le_of_ble_eq_true rfl) ?_
  show V μX1_both (6 + 3 * k) m _ 0 [(0, vr r), (1, vi deep)] [] m
  refine V_rg (k := 1) (x := deep) rfl fun r_deep => ?_
  have hn120 := hP.2.2.2.2.2.1
  have hb0 := hP.2.2.2.2.1
  obtain ⟨hr59, hq120⟩ := hQ.1
  refine V_ld (pc := 0) dX1_both_0 (v := vr r) rfl rfl ?_
  refine V_ld (pc := 1) dX1_both_1 (v := vi deep) rfl rfl ?_
  refine V_callV (pc := 2) dX1_both_2 (F' := (5 + 3 * k)) (As := [vi deep]) (st := []) cw_RX1_81 rfl rfl hQ.2.1 (by decide) (Nat.le_of_ble_eq_true rfl) (by omega) (hsub S C m r deep   (by first | assumption | omega) hQ hP hk hlt) ?_
  rintro _ _ ⟨x2, rfl, Ix2, rfl, hF2, (⟨hw2, rfl, hP2⟩ | ⟨hw2, rfl, hf2⟩)⟩ ok2 le2
  · skip
    have hb2 := hP2.2.2.2.2.1
    refine V_st (pc := 5) dX1_both_5 (ls' := [(2, vi 1), (0, vr r), (1, vi deep)]) rfl (Nat.le_of_ble_eq_true rfl) rfl ?_
    refine V_iconst (pc := 6) dX1_both_6 (by unfold I32; omega) ?_
    refine V_st (pc := 7) dX1_both_7 (ls' := [(3, vi 0), (2, vi 1), (0, vr r), (1, vi deep)]) rfl (Nat.le_of_ble_eq_true rfl) rfl ?_
    refine V_ls (ls' := [(3, vi 0), (2, vi 1), (0, vr r), (1, vi deep)]) (by intro q_ h_; simp only [List.mem_cons, List.not_mem_nil, or_false] at h_ ⊢; rcases h_ with rfl | rfl | rfl | rfl <;> simp) ?_
    refine V_mem (m' := wI m Ix2) rfl ?_
    have hni_ := (fac_ni tx n k S).1
    have hln_ := (fac_ni tx n k S).2 hw2
    have hg_ := (hni_.2.1 hw2).2
    refine L_dboth (m := m) (k := k) (r := r) (deep := deep) (C0 := C) hL hQ hk (by omega) hsub (n + 1) ((facC tx n k) S) 0 Ix2 hP2 (by omega) ?_ (by omega) (by omega) ?_
    · simp only [List.length_append]; omega
    intro x i' J hJ hFJ
    have hJb : x = 0 ∨ x = 1 := by
      rcases hJ with h_ | h_
      · exact Or.inr h_.2.1
      · exact Or.inl h_.2.1
    refine V_ld (pc := 55) dX1_both_55 (v := vi x) rfl rfl ?_
    refine V_reti (pc := 56) dX1_both_56 hJb ?_
    exact ⟨J, rfl, DFr.tr hF2 hFJ, hJ⟩
  · skip
    refine V_st (pc := 5) dX1_both_5 (ls' := [(2, vi 0), (0, vr r), (1, vi deep)]) rfl (Nat.le_of_ble_eq_true rfl) rfl ?_
    refine V_iconst (pc := 6) dX1_both_6 (by unfold I32; omega) ?_
    refine V_st (pc := 7) dX1_both_7 (ls' := [(3, vi 0), (2, vi 0), (0, vr r), (1, vi deep)]) rfl (Nat.le_of_ble_eq_true rfl) rfl ?_
    refine V_ld (pc := 8) dX1_both_8 (v := vi 0) rfl rfl ?_
    refine V_bipush (pc := 9) dX1_both_9 (by unfold I32; omega) (by decide) ?_
    refine V_icmp_ge (pc := 11) dX1_both_11 (tgt := 55) rfl (fun h_ => absurd h_ (by decide)) (fun _ => ?_)
    refine V_ld (pc := 14) dX1_both_14 (v := vi 0) rfl rfl ?_
    refine V_if_eq (pc := 15) dX1_both_15 (tgt := 55) rfl (fun _ => ?_) (fun h_ => absurd h_ (by decide))
    refine V_ld (pc := 55) dX1_both_55 (v := vi 0) rfl rfl ?_
    refine V_reti (pc := 56) dX1_both_56 (show _ = (0 : Int) ∨ _ = (1 : Int) from by first | exact Or.inl rfl | exact Or.inr rfl | omega) ?_
    have e_ : (bthL tx n k) S = (facC tx n k) S := lpC_dead (by decide) hw2
    refine ⟨mI (wI m Ix2), rfl, (DFr.tr DFr.rf hF2), Or.inr ?_⟩
    rw [e_]
    exact ⟨hw2, rfl, hf2⟩

set_option maxHeartbeats 8000000 in
theorem L_deither {F : Nat} {m0 m : Mem} {post : Option AV → Mem → Prop} {tx : Nat → Int} {n k r : Nat} {deep : Int} {C0 : List Int} (hL : Lay (mT m) (mR m)) (hQ : QLay m r n) (hk : deep + (k : Int) = 4) (hFF : 6 + 3 * k < F) (hsub : DBth tx n k) : ∀ (f : Nat) (R : CR) (i : Int) (I : Nat → Nat → Int), DQ I r tx n R.2.2 (C0 ++ R.1) → n + 1 ≤ f + R.2.2.2 → (C0 ++ R.1).length + 2 ≤ R.2.2.2 → 0 ≤ i → i ≤ (R.2.2.2 : Int) → (∀ (x i' : Int) (J : Nat → Nat → Int), DOut J r tx n (lpC tx n 124 (bthL tx n k) f R).2.2 (C0 ++ (lpC tx n 124 (bthL tx n k) f R).1) x → DFr r I J → V μX1_either F m0 post 55 [(3, vi i'), (2, vi x), (0, vr r), (1, vi deep)] [] (wI m J)) → V μX1_either F m0 post 8 [(3, vi i), (2, vi 1), (0, vr r), (1, vi deep)] [] (wI m I) := by
  intro f
  induction f with
  | zero =>
    intro R i I hP hf hlt hi0 hi1 kx
    have hfz := hP.2.2.2.2.1
    omega
  | succ f ih =>
    intro R i I hP hf hlt hi0 hi1 kx
    have hn120 := hP.2.2.2.2.2.1
    have hb0 := hP.2.2.2.2.1
    obtain ⟨hr59, hq120⟩ := hQ.1
    have hS1 : R.2.2.1 = true := hP.2.2.2.2.2.2.2.2.1
    refine V_rg (k := 1) (x := deep) rfl fun rr1 => ?_
    refine V_ld (pc := 8) dX1_either_8 (v := vi i) rfl rfl ?_
    refine V_bipush (pc := 9) dX1_either_9 (by unfold I32; omega) (by decide) ?_
    refine V_icmp_ge (pc := 11) dX1_either_11 (tgt := 55) rfl (fun h11 => ?_) (fun h11 => ?_)
    · skip
      first
        | (exfalso; omega)
        | (have e_ : lpC tx n 124 (bthL tx n k) (f + 1) R = R := lpC_stop (fun h_ => by have h2_ := (cc_lt (tx := tx) (n := n) (S := R.2.2) (by omega)).2; omega)
           skip
           refine kx 1 i I (Or.inl ?_) DFr.rf
           rw [e_]
           exact ⟨hS1, rfl, hP⟩)
    · skip
      refine V_ld (pc := 14) dX1_either_14 (v := vi 1) rfl rfl ?_
      refine V_if_eq (pc := 15) dX1_either_15 (tgt := 55) rfl (fun h_ => absurd h_ (by decide)) (fun _ => ?_)
      refine V_ld (pc := 18) dX1_either_18 (v := vr r) rfl rfl ?_
      refine V_bipush (pc := 19) dX1_either_19 (by unfold I32; omega) (by decide) ?_
      refine V_callV (pc := 21) dX1_either_21 (F' := 1) (As := [vi 124]) (st := []) cw_RX1_56 rfl rfl hQ.2.1 (by decide) (Nat.le_of_ble_eq_true rfl) (by omega) (d_comes tx n R.2.2 (C0 ++ R.1) (wI m I) r 124   (by first | assumption | omega) hQ hP (by decide)) ?_
      rintro _ _ ⟨x21, rfl, hx21, rfl⟩ ok21 le21
      refine V_if_eq (pc := 24) dX1_either_24 (tgt := 55) rfl (fun h24 => ?_) (fun h24 => ?_)
      · skip
        first
          | (exfalso; omega)
          | (have e_ : lpC tx n 124 (bthL tx n k) (f + 1) R = R := lpC_stop (fun h_ => by have h2_ := (cc_lt (tx := tx) (n := n) (S := R.2.2) (by omega)).2; omega)
             skip
             refine kx 1 i I (Or.inl ?_) DFr.rf
             rw [e_]
             exact ⟨hS1, rfl, hP⟩)
      · skip
        refine V_ld (pc := 27) dX1_either_27 (v := vr r) rfl rfl ?_
        refine V_dup (pc := 28) dX1_either_28 rfl ?_
        refine V_getIv (pc := 29) dX1_either_29 (v := (R.2.2.2 : Int)) fw_RX1_34 rfl hQ.2.1 hP.2.1 (fun g29 => ?_)
        refine V_iconst (pc := 32) dX1_either_32 (by unfold I32; omega) ?_
        refine V_iadd (pc := 33) dX1_either_33 (by unfold I32 at *; omega) ?_
        refine V_putI (pc := 34) dX1_either_34 fw_RX1_34 rfl hQ.2.1 (Or.inl rfl) (Or.inl rfl) ?_
        have lthA37 : R.2.2.2 < n := by first | omega | exact (cc_lt (tx := tx) (n := n) (S := R.2.2) (by omega)).2
        have hA37 : DQ (mI (setI (wI m I) r 3 ((R.2.2.2 : Int) + 1))) r tx n (cAdv R.2.2) (C0 ++ R.1) := DQ.adv hP rfl lthA37
        have ehA37 : (cAdv R.2.2).2 = R.2.2.2 + 1 := rfl
        refine V_ld (pc := 37) dX1_either_37 (v := vr r) rfl rfl ?_
        refine V_ld (pc := 38) dX1_either_38 (v := vi deep) rfl rfl ?_
        refine V_callV (pc := 39) dX1_either_39 (F' := (6 + 3 * k)) (As := [vi deep]) (st := []) cw_RX1_74 rfl rfl hQ.2.1 (by decide) (Nat.le_of_ble_eq_true rfl) (by omega) (hsub (cAdv R.2.2) (C0 ++ R.1) (setI (wI m I) r 3 ((R.2.2.2 : Int) + 1)) r deep   (by first | assumption | omega) hQ hA37 hk (by omega)) ?_
        rintro _ _ ⟨x39, rfl, Ix39, rfl, hF39, (⟨hw39, rfl, hP39⟩ | ⟨hw39, rfl, hf39⟩)⟩ ok39 le39
        · skip
          have hb39 := hP39.2.2.2.2.1
          refine V_st (pc := 42) dX1_either_42 (ls' := [(2, vi 1), (3, vi i), (0, vr r), (1, vi deep)]) rfl (Nat.le_of_ble_eq_true rfl) rfl ?_
          refine V_ld (pc := 43) dX1_either_43 (v := vr r) rfl rfl ?_
          refine V_bipush (pc := 44) dX1_either_44 (by unfold I32; omega) (by decide) ?_
          refine V_callV (pc := 46) dX1_either_46 (F' := 0) (As := [vi 124]) (st := []) cw_RX1_77 rfl rfl hQ.2.1 (by decide) (Nat.le_of_ble_eq_true rfl) (by omega) (d_emit tx n (((bthL tx n k) (cAdv R.2.2)).2.2) ((C0 ++ R.1) ++ ((bthL tx n k) (cAdv R.2.2)).1) (wI (setI (wI m I) r 3 ((R.2.2.2 : Int) + 1)) Ix39) r 124   hQ hP39 (by have h1_ := (bthL_ni tx n k (cAdv R.2.2)).2 hw39; have h2_ : (cAdv R.2.2).2 = R.2.2.2 + 1 := rfl; simp only [List.length_append] at hlt ⊢; omega)) ?_
          rintro _ _ ⟨rfl, Ix46, rfl, hP46, hF46⟩ ok46 le46
          have lc46 : (((C0 ++ R.1) ++ ((bthL tx n k) (cAdv R.2.2)).1) ++ [124]).length = ((C0 ++ R.1) ++ ((bthL tx n k) (cAdv R.2.2)).1).length + 1 := by rw [List.length_append]; rfl
          refine V_iinc (pc := 49) dX1_either_49 (x := i) (ls' := [(3, vi (i + 1)), (2, vi 1), (0, vr r), (1, vi deep)]) rfl (by unfold I32 at *; omega) (Nat.le_of_ble_eq_true rfl) rfl ?_
          refine V_goto (pc := 52) dX1_either_52 (tgt := 8) rfl ?_
          skip
          have hni_ := (bthL_ni tx n k (cAdv R.2.2)).1
          have hln_ := (bthL_ni tx n k (cAdv R.2.2)).2 hw39
          have hg_ := (hni_.2.1 hw39).2
          have hA_ : (cAdv R.2.2).2 = R.2.2.2 + 1 := rfl
          have hD_ : DQ (Ix46) r tx n (joinC 124 R (bthL tx n k (cAdv R.2.2))).2.2 (C0 ++ (joinC 124 R (bthL tx n k (cAdv R.2.2))).1) := by
            have h_ := hP46
            rw [List.append_assoc, List.append_assoc] at h_
            show DQ Ix46 r tx n (bthL tx n k (cAdv R.2.2)).2.2 (C0 ++ (R.1 ++ (bthL tx n k (cAdv R.2.2)).1 ++ [124]))
            rw [List.append_assoc]
            exact h_
          refine ih (joinC 124 R (bthL tx n k (cAdv R.2.2))) (i + 1) Ix46 hD_ ?_ ?_ (by omega) ?_ ?_
          · show n + 1 ≤ f + (bthL tx n k (cAdv R.2.2)).2.2.2; omega
          · show (C0 ++ (R.1 ++ (bthL tx n k (cAdv R.2.2)).1 ++ [124])).length + 2 ≤ (bthL tx n k (cAdv R.2.2)).2.2.2
            simp only [List.length_append, List.length_cons, List.length_nil] at hlt ⊢
            omega
          · show i + 1 ≤ ((bthL tx n k (cAdv R.2.2)).2.2.2 : Int); omega
          · intro x i' J hJ hFJ
            refine kx x i' J ?_ (DFr.tr (DFr.tr (DFr.tr (DFr.set (DFr.rf : DFr r I I) (by omega)) hF39) hF46) hFJ)
            have e_ : lpC tx n 124 (bthL tx n k) (f + 1) R = lpC tx n 124 (bthL tx n k) f (joinC 124 R (bthL tx n k (cAdv R.2.2))) := if_pos (by omega)
            rw [e_]
            exact hJ
        · skip
          refine V_st (pc := 42) dX1_either_42 (ls' := [(2, vi 0), (3, vi i), (0, vr r), (1, vi deep)]) rfl (Nat.le_of_ble_eq_true rfl) rfl ?_
          refine V_ld (pc := 43) dX1_either_43 (v := vr r) rfl rfl ?_
          refine V_bipush (pc := 44) dX1_either_44 (by unfold I32; omega) (by decide) ?_
          refine V_callV (pc := 46) dX1_either_46 (F' := 0) (As := [vi 124]) (st := []) cw_RX1_77 rfl rfl hQ.2.1 (by decide) (Nat.le_of_ble_eq_true rfl) (by omega) (d_emitB n (wI (setI (wI m I) r 3 ((R.2.2.2 : Int) + 1)) Ix39) r 124   hQ) ?_
          rintro _ _ ⟨rfl, Ix46, rfl, hF46, hf46⟩ ok46 le46
          refine V_iinc (pc := 49) dX1_either_49 (x := i) (ls' := [(3, vi (i + 1)), (2, vi 0), (0, vr r), (1, vi deep)]) rfl (by unfold I32 at *; omega) (Nat.le_of_ble_eq_true rfl) rfl ?_
          refine V_goto (pc := 52) dX1_either_52 (tgt := 8) rfl ?_
          skip
          refine V_ld (pc := 8) dX1_either_8 (v := vi (i + 1)) rfl rfl ?_
          refine V_bipush (pc := 9) dX1_either_9 (by unfold I32; omega) (by decide) ?_
          refine V_icmp_ge (pc := 11) dX1_either_11 (tgt := 55) rfl (fun h11 => ?_) (fun h11 => ?_)
          · skip
            refine V_ls (ls' := [(3, vi (i + 1)), (2, vi 0), (0, vr r), (1, vi deep)]) (by intro q_ h_; simp only [List.mem_cons, List.not_mem_nil, or_false] at h_ ⊢; rcases h_ with rfl | rfl | rfl | rfl <;> simp) ?_
            refine V_mem (m' := wI m Ix46) rfl ?_
            refine kx 0 (i + 1) Ix46 (Or.inr ?_) (DFr.tr (DFr.tr (DFr.set (DFr.rf : DFr r I I) (by omega)) hF39) hF46)
            have e_ : lpC tx n 124 (bthL tx n k) (f + 1) R = lpC tx n 124 (bthL tx n k) f (joinC 124 R (bthL tx n k (cAdv R.2.2))) := if_pos (by omega)
            rw [e_, lpC_dead (by decide) (show (joinC 124 R (bthL tx n k (cAdv R.2.2))).2.2.1 = false from hw39)]
            exact ⟨hw39, rfl, hf46.trans hf39⟩
          · skip
            refine V_ld (pc := 14) dX1_either_14 (v := vi 0) rfl rfl ?_
            refine V_if_eq (pc := 15) dX1_either_15 (tgt := 55) rfl (fun _ => ?_) (fun h_ => absurd h_ (by decide))
            refine V_ls (ls' := [(3, vi (i + 1)), (2, vi 0), (0, vr r), (1, vi deep)]) (by intro q_ h_; simp only [List.mem_cons, List.not_mem_nil, or_false] at h_ ⊢; rcases h_ with rfl | rfl | rfl | rfl <;> simp) ?_
            refine V_mem (m' := wI m Ix46) rfl ?_
            refine kx 0 (i + 1) Ix46 (Or.inr ?_) (DFr.tr (DFr.tr (DFr.set (DFr.rf : DFr r I I) (by omega)) hF39) hF46)
            have e_ : lpC tx n 124 (bthL tx n k) (f + 1) R = lpC tx n 124 (bthL tx n k) f (joinC 124 R (bthL tx n k (cAdv R.2.2))) := if_pos (by omega)
            rw [e_, lpC_dead (by decide) (show (joinC 124 R (bthL tx n k (cAdv R.2.2))).2.2.1 = false from hw39)]
            exact ⟨hw39, rfl, hf46.trans hf39⟩

set_option maxHeartbeats 8000000 in
theorem d_either (tx : Nat → Int) (n : Nat) (k : Nat) (S : CS) (C : List Int) (m : Mem) (r : Nat) (deep : Int)   (hL : Lay (mT m) (mR m)) (hQ : QLay m r n) (hP : DQ (mI m) r tx n S C) (hk : deep + (k : Int) = 4) (hlt : C.length + 2 ≤ S.2) (hsub : DBth tx n k) : Ct μX1_either (7 + 3 * k) [vr r, vi deep] m (ri fun x_ m' => ∃ I_ : Nat → Nat → Int, wI m I_ = m' ∧ (DFr r (mI m) I_) ∧ DOut I_ r tx n ((eitL tx n k) S).2.2 (C ++ ((eitL tx n k) S).1) x_) := by
  refine Ct_of_V rfl (by decide) rfl (Nat.le_of_ble_eq_true rfl) ?_
  show V μX1_either (7 + 3 * k) m _ 0 [(0, vr r), (1, vi deep)] [] m
  refine V_rg (k := 1) (x := deep) rfl fun r_deep => ?_
  have hn120 := hP.2.2.2.2.2.1
  have hb0 := hP.2.2.2.2.1
  obtain ⟨hr59, hq120⟩ := hQ.1
  refine V_ld (pc := 0) dX1_either_0 (v := vr r) rfl rfl ?_
  refine V_ld (pc := 1) dX1_either_1 (v := vi deep) rfl rfl ?_
  refine V_callV (pc := 2) dX1_either_2 (F' := (6 + 3 * k)) (As := [vi deep]) (st := []) cw_RX1_74 rfl rfl hQ.2.1 (by decide) (Nat.le_of_ble_eq_true rfl) (by omega) (hsub S C m r deep   (by first | assumption | omega) hQ hP hk hlt) ?_
  rintro _ _ ⟨x2, rfl, Ix2, rfl, hF2, (⟨hw2, rfl, hP2⟩ | ⟨hw2, rfl, hf2⟩)⟩ ok2 le2
  · skip
    have hb2 := hP2.2.2.2.2.1
    refine V_st (pc := 5) dX1_either_5 (ls' := [(2, vi 1), (0, vr r), (1, vi deep)]) rfl (Nat.le_of_ble_eq_true rfl) rfl ?_
    refine V_iconst (pc := 6) dX1_either_6 (by unfold I32; omega) ?_
    refine V_st (pc := 7) dX1_either_7 (ls' := [(3, vi 0), (2, vi 1), (0, vr r), (1, vi deep)]) rfl (Nat.le_of_ble_eq_true rfl) rfl ?_
    refine V_ls (ls' := [(3, vi 0), (2, vi 1), (0, vr r), (1, vi deep)]) (by intro q_ h_; simp only [List.mem_cons, List.not_mem_nil, or_false] at h_ ⊢; rcases h_ with rfl | rfl | rfl | rfl <;> simp) ?_
    refine V_mem (m' := wI m Ix2) rfl ?_
    have hni_ := (bthL_ni tx n k S).1
    have hln_ := (bthL_ni tx n k S).2 hw2
    have hg_ := (hni_.2.1 hw2).2
    refine L_deither (m := m) (k := k) (r := r) (deep := deep) (C0 := C) hL hQ hk (by omega) hsub (n + 1) ((bthL tx n k) S) 0 Ix2 hP2 (by omega) ?_ (by omega) (by omega) ?_
    · simp only [List.length_append]; omega
    intro x i' J hJ hFJ
    have hJb : x = 0 ∨ x = 1 := by
      rcases hJ with h_ | h_
      · exact Or.inr h_.2.1
      · exact Or.inl h_.2.1
    refine V_ld (pc := 55) dX1_either_55 (v := vi x) rfl rfl ?_
    refine V_reti (pc := 56) dX1_either_56 hJb ?_
    exact ⟨J, rfl, DFr.tr hF2 hFJ, hJ⟩
  · skip
    refine V_st (pc := 5) dX1_either_5 (ls' := [(2, vi 0), (0, vr r), (1, vi deep)]) rfl (Nat.le_of_ble_eq_true rfl) rfl ?_
    refine V_iconst (pc := 6) dX1_either_6 (by unfold I32; omega) ?_
    refine V_st (pc := 7) dX1_either_7 (ls' := [(3, vi 0), (2, vi 0), (0, vr r), (1, vi deep)]) rfl (Nat.le_of_ble_eq_true rfl) rfl ?_
    refine V_ld (pc := 8) dX1_either_8 (v := vi 0) rfl rfl ?_
    refine V_bipush (pc := 9) dX1_either_9 (by unfold I32; omega) (by decide) ?_
    refine V_icmp_ge (pc := 11) dX1_either_11 (tgt := 55) rfl (fun h_ => absurd h_ (by decide)) (fun _ => ?_)
    refine V_ld (pc := 14) dX1_either_14 (v := vi 0) rfl rfl ?_
    refine V_if_eq (pc := 15) dX1_either_15 (tgt := 55) rfl (fun _ => ?_) (fun h_ => absurd h_ (by decide))
    refine V_ld (pc := 55) dX1_either_55 (v := vi 0) rfl rfl ?_
    refine V_reti (pc := 56) dX1_either_56 (show _ = (0 : Int) ∨ _ = (1 : Int) from by first | exact Or.inl rfl | exact Or.inr rfl | omega) ?_
    have e_ : (eitL tx n k) S = (bthL tx n k) S := lpC_dead (by decide) hw2
    refine ⟨mI (wI m Ix2), rfl, (DFr.tr DFr.rf hF2), Or.inr ?_⟩
    rw [e_]
    exact ⟨hw2, rfl, hf2⟩

theorem DFac.b {tx : Nat → Int} {n k : Nat} (h : DFac tx n k) : DBth tx n k := fun S C m r deep hL hQ hP hk hlt => d_both tx n k S C m r deep hL hQ hP hk hlt h
theorem DBth.e {tx : Nat → Int} {n k : Nat} (h : DBth tx n k) : DEit tx n k := fun S C m r deep hL hQ hP hk hlt => d_either tx n k S C m r deep hL hQ hP hk hlt h
theorem DFac_all (tx : Nat → Int) (n : Nat) : ∀ k, DFac tx n k
  | 0 => fun S C m r deep hL hQ hP hk hlt => d_factor tx n 0 S C m r deep hL hQ hP hk hlt (fun k_ h => by omega)
  | k + 1 => fun S C m r deep hL hQ hP hk hlt => d_factor tx n (k + 1) S C m r deep hL hQ hP hk hlt (fun k_ h => by
      obtain rfl : k = k_ := by omega
      exact ⟨DFac_all tx n k, (DFac_all tx n k).b.e⟩)
theorem DEit_all (tx : Nat → Int) (n k : Nat) : DEit tx n k := (DFac_all tx n k).b.e
