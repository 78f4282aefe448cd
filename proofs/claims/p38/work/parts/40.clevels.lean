/-! the class reads: the levels of a pattern -/
theorem CP.lnk {I : Nat → Nat → Int} {r : Nat} {tx : Nat → Int} {n : Nat} {S : PS} {l x : Int} (h : CP I r tx n S) (hl : 0 ≤ l) : CP (up2 I (r + 2) (l * 9 + 8).toNat x) r tx n (lnkP S l x) := by
  obtain ⟨h1, h2, h3, h4, h5, h6, h7, h8, h9, h10, h11⟩ := h
  refine ⟨?_, ?_, ?_, ?_, h5, h6, h7, fun k hk => ?_, CTab.wr h9 (by decide) (by omega), h10, h11⟩
  · rw [up2_no (by omega)]; exact h1
  · rw [up2_no (by omega)]; exact h2
  · rw [up2_no (by omega)]; exact h3
  · rw [up2_no (by omega)]; exact h4
  · rw [up2_no (by omega)]; exact h8 k hk
theorem repC_dead (tx : Nat → Int) (n k : Nat) : Dead (repC tx n k) := by
  intro S h
  unfold repC
  have h1 : (atoC tx n k S).2 = S := atom_dead S h
  rw [rep_dead (by rw [h1]; exact h), h1]
theorem serC_dead (tx : Nat → Int) (n k : Nat) : Dead (serC tx n k) := by
  intro S h
  unfold serC serPD lstP
  have h1 := repC_dead tx n k S h
  rw [lpG_dead (by intro q; unfold cSerD; omega) (by rw [h1]; exact h), end_dead (by rw [h1]; exact h)]
  exact h1
theorem altC_dead (tx : Nat → Int) (n k : Nat) : Dead (altC tx n k) := by
  intro S h
  rw [altC_eq]
  unfold altP lstP
  have h1 := serC_dead tx n k S h
  rw [lpG_dead (by intro q; unfold cAlt; omega) (by rw [h1]; exact h), end_dead (by rw [h1]; exact h)]
  exact h1
theorem any_bad {tx : Nat → Int} {n : Nat} {sub : PS → Int × PS} {S : PS} (h : (anyL tx n sub S).2.1 = false) : anyP tx n sub S = (-5, (anyL tx n sub S).2) := by
  unfold anyP anyE
  have e : (if (anyL tx n sub S).1 < 2 then badP (anyL tx n sub S).2 else (anyL tx n sub S).2) = (anyL tx n sub S).2 := by
    by_cases c : (anyL tx n sub S).1 < 2
    · rw [if_pos c, bad_dead h]
    · rw [if_neg c]
  rw [e, take_dead (by decide) h, if_neg (by rw [h]; exact Bool.false_ne_true)]
theorem any_lt {tx : Nat → Int} {n : Nat} {sub : PS → Int × PS} {S : PS} (h : (anyL tx n sub S).1 < 2) : anyP tx n sub S = (-5, badP (anyL tx n sub S).2) := by
  unfold anyP anyE
  rw [if_pos h, take_dead (by decide) rfl]
  rfl
theorem any_ne {tx : Nat → Int} {n : Nat} {sub : PS → Int × PS} {S : PS} (h : ¬ (anyL tx n sub S).1 < 2) (h2 : ¬ cS tx n (anyL tx n sub S).2 = 41) : anyP tx n sub S = (-5, badP (anyL tx n sub S).2) := by
  unfold anyP anyE
  have e : takeP tx n (anyL tx n sub S).2 41 = badP (anyL tx n sub S).2 := if_neg h2
  rw [if_neg h, e]
  rfl
theorem any_ok {tx : Nat → Int} {n : Nat} {sub : PS → Int × PS} {S : PS} (h : ¬ (anyL tx n sub S).1 < 2) (h2 : cS tx n (anyL tx n sub S).2 = 41) : anyP tx n sub S = rndP (advP (anyL tx n sub S).2) 6 (sub (takeP tx n (advP S) 40)).1 (anyL tx n sub S).1 := by
  unfold anyP anyE
  have e : takeP tx n (anyL tx n sub S).2 41 = advP (anyL tx n sub S).2 := if_pos h2
  have w : (advP (anyL tx n sub S).2).1 = true := (cS_lt (tx := tx) (n := n) (S := (anyL tx n sub S).2) (by omega)).1
  rw [if_neg h, e, if_pos w]
theorem any_open {tx : Nat → Int} {n : Nat} {sub : PS → Int × PS} {S : PS} (hd : Dead sub) (h : ¬ cS tx n (advP S) = 40) : anyP tx n sub S = (-5, badP (advP S)) := by
  have e : takeP tx n (advP S) 40 = badP (advP S) := if_neg h
  have e1 : (sub (badP (advP S))).2 = badP (advP S) := hd _ rfl
  have e2 : (anyL tx n sub S).2 = badP (advP S) := by
    unfold anyL lstP
    rw [e, lpG_dead (by intro q; unfold cAny; omega) (by rw [e1]; rfl)]
    exact e1
  rw [any_bad (by rw [e2]; rfl), e2]
theorem any_sub {tx : Nat → Int} {n : Nat} {sub : PS → Int × PS} {S : PS} (h : (sub (takeP tx n (advP S) 40)).2.1 = false) : anyP tx n sub S = (-5, (sub (takeP tx n (advP S) 40)).2) := by
  have e2 : (anyL tx n sub S).2 = (sub (takeP tx n (advP S) 40)).2 := by
    unfold anyL lstP
    rw [lpG_dead (by intro q; unfold cAny; omega) h]
  rw [any_bad (by rw [e2]; exact h), e2]
theorem LpI.last {n : Nat} {S U : PS} {k l : Int} {q : Nat} (h : LpI n S k q l U) (hU : U.1 = true) : 0 ≤ l ∧ l < (U.2.2.1 : Int) ∧ chE U.2.2.2 (U.2.2.1 : Int) q k ∧ (q = 1 → l = k) ∧ U.2.2.1 + q + 2 * S.2.1 ≤ S.2.2.1 + 2 * U.2.1 ∧ S.2.1 < U.2.1 := by
  obtain ⟨h1, h2, h3, h4, h5, h6, h7⟩ := h.2 hU
  have b := Pth.bd h5
  refine ⟨by omega, b.2.2.1, Pth.chE (by omega) h5 h6, fun e => ?_, h3, h2⟩
  subst e
  exact h5.1.symm

theorem nice_nn {n : Nat} {S : PS} {R : Int × PS} (h : Nice n S R) (hw : R.2.1 = true) : 0 ≤ R.1 := by
  have := (h.2 hw).2.2.2.2.1
  omega

def CAlt (tx : Nat → Int) (n k : Nat) : Prop := ∀ (S : PS) (m : Mem) (r : Nat) (deep : Int)   (hL : Lay (mT m) (mR m)) (hQ : PLay m r n) (hP : CP (mI m) r tx n S) (hk : deep + (k : Int) = 5), Ct μX5_choice (7 + 5 * k) [vr r, vi deep] m (ri fun x_ m' => ∃ I_ : Nat → Nat → Int, wI m I_ = m' ∧ (CFr r (mI m) I_) ∧ COut I_ r tx n (altC tx n k S) x_)

set_option maxHeartbeats 4000000 in
theorem c_bracketed (tx : Nat → Int) (n : Nat) (k : Nat) (S : PS) (m : Mem) (r : Nat) (deep : Int)   (hL : Lay (mT m) (mR m)) (hQ : PLay m r n) (hP : CP (mI m) r tx n S) (hk : deep + (k : Int) = 5) (hsub : CAlt tx n k) : Ct μX5_bracketed (8 + 5 * k) [vr r, vi deep] m (ri fun x_ m' => ∃ I_ : Nat → Nat → Int, wI m I_ = m' ∧ (CFr r (mI m) I_) ∧ COut I_ r tx n ((altC tx n k S).1, takeP tx n (altC tx n k S).2 41) x_) := by
  refine Ct_of_V rfl (by decide) rfl (Nat.le_of_ble_eq_true rfl) ?_
  show V μX5_bracketed (8 + 5 * k) m _ 0 [(0, vr r), (1, vi deep)] [] m
  refine V_rg (k := 1) (x := deep) rfl fun r_deep => ?_
  obtain ⟨hcr0, hcr1⟩ := hP.cr
  have hn120 := hP.2.2.2.2.2.2.1
  have hb0 := hP.2.2.2.2.1
  have hb1 := hP.2.2.2.2.2.1
  have hr59 := hQ.1
  refine V_ld (pc := 0) dX5_bracketed_0 (v := vr r) rfl rfl ?_
  refine V_ld (pc := 1) dX5_bracketed_1 (v := vi deep) rfl rfl ?_
  refine V_callV (pc := 2) dX5_bracketed_2 (F' := (7 + 5 * k)) (As := [vi deep]) (st := []) cw_RX5_33 rfl rfl hQ.2.1 (by decide) (Nat.le_of_ble_eq_true rfl) (by omega) (hsub S m r deep   (by first | assumption | omega) hQ hP hk) ?_
  rintro _ _ ⟨x2, rfl, Ix2, rfl, hF2, (⟨hw2, rfl, hP2⟩ | ⟨hw2, rfl, hf2⟩)⟩ ok2 le2
  · skip
    have hn2 : 0 ≤ (altC tx n k S).1 := nice_nn (altC_nice tx n k S) hw2
    have hb2 := hP2.2.2.2.2.1
    refine V_st (pc := 5) dX5_bracketed_5 (ls' := [(2, vi ((altC tx n k S).1)), (0, vr r), (1, vi deep)]) rfl (Nat.le_of_ble_eq_true rfl) rfl ?_
    refine V_ld (pc := 6) dX5_bracketed_6 (v := vi ((altC tx n k S).1)) rfl rfl ?_
    refine V_if_lt (pc := 7) dX5_bracketed_7 (tgt := 19) rfl (fun h7 => ?_) (fun h7 => ?_)
    · skip
      refine V_ld (pc := 19) dX5_bracketed_19 (v := vr r) rfl rfl ?_
      refine V_ld (pc := 20) dX5_bracketed_20 (v := vr r) rfl rfl ?_
      refine V_getIv (pc := 21) dX5_bracketed_21 (v := ((altC tx n k S).2.2.1 : Int)) fw_RX5_37 rfl hQ.2.1 hP2.2.1 (fun g21 => ?_)
      refine V_callV (pc := 24) dX5_bracketed_24 (F' := 0) (As := [vi ((altC tx n k S).2.2.1 : Int)]) (st := []) cw_RX5_40 rfl rfl hQ.2.1 (by decide) (Nat.le_of_ble_eq_true rfl) (by omega) (c_failed n (wI m Ix2) r ((altC tx n k S).2.2.1 : Int)   hQ) ?_
      rintro _ _ ⟨x24, rfl, Ix24, rfl, rfl, hI24, hF24⟩ ok24 le24
      refine V_reti (pc := 27) dX5_bracketed_27 trivial ?_
      first
        | (exfalso; omega)
        | (have e_ : takeP tx n (altC tx n k S).2 41 = badP (altC tx n k S).2 := if_neg (by omega)
           refine ⟨mI (wI (wI m Ix2) Ix24), rfl, (CFr.tr (CFr.tr CFr.rf hF2) hF24), Or.inr ?_⟩
           show (takeP tx n (altC tx n k S).2 41).1 = false ∧ (-1 : Int) = -1 ∧ _ = ((takeP tx n (altC tx n k S).2 41).2.1 : Int)
           rw [e_]
           exact ⟨rfl, rfl, hI24.trans (if_pos hP2.2.2.1)⟩)
    · skip
      refine V_ld (pc := 10) dX5_bracketed_10 (v := vr r) rfl rfl ?_
      refine V_bipush (pc := 11) dX5_bracketed_11 (by unfold I32; omega) (by decide) ?_
      refine V_callV (pc := 13) dX5_bracketed_13 (F' := 1) (As := [vi 41]) (st := []) cw_RX5_49 rfl rfl hQ.2.1 (by decide) (Nat.le_of_ble_eq_true rfl) (by omega) (c_comes tx n ((altC tx n k S).2) (wI m Ix2) r 41   (by first | assumption | omega) hQ hP2 (by decide)) ?_
      rintro _ _ ⟨x13, rfl, hx13, rfl⟩ ok13 le13
      refine V_if_ne (pc := 16) dX5_bracketed_16 (tgt := 28) rfl (fun h16 => ?_) (fun h16 => ?_)
      · skip
        refine V_ld (pc := 28) dX5_bracketed_28 (v := vr r) rfl rfl ?_
        refine V_dup (pc := 29) dX5_bracketed_29 rfl ?_
        refine V_getIv (pc := 30) dX5_bracketed_30 (v := ((altC tx n k S).2.2.1 : Int)) fw_RX5_37 rfl hQ.2.1 hP2.2.1 (fun g30 => ?_)
        refine V_iconst (pc := 33) dX5_bracketed_33 (by unfold I32; omega) ?_
        refine V_iadd (pc := 34) dX5_bracketed_34 (by unfold I32 at *; omega) ?_
        refine V_putI (pc := 35) dX5_bracketed_35 fw_RX5_37 rfl hQ.2.1 (Or.inl rfl) (Or.inl rfl) ?_
        have hA38 : CP (mI (setI (wI m Ix2) r 2 (((altC tx n k S).2.2.1 : Int) + 1))) r tx n (advP ((altC tx n k S).2)) := CP.adv hP2 rfl (cS_lt (tx := tx) (n := n) (S := ((altC tx n k S).2)) (by omega)).2
        have ehA38 : (advP ((altC tx n k S).2)).2.1 = ((altC tx n k S).2).2.1 + 1 := rfl
        have fhA38 : (advP ((altC tx n k S).2)).2.2.1 = ((altC tx n k S).2).2.2.1 := rfl
        refine V_ld (pc := 38) dX5_bracketed_38 (v := vi ((altC tx n k S).1)) rfl rfl ?_
        refine V_reti (pc := 39) dX5_bracketed_39 trivial ?_
        have e_ : takeP tx n (altC tx n k S).2 41 = advP (altC tx n k S).2 := if_pos (by omega)
        refine ⟨mI (setI (wI m Ix2) r 2 (((altC tx n k S).2.2.1 : Int) + 1)), rfl, (CFr.set (CFr.tr CFr.rf hF2) (by omega)), Or.inl ?_⟩
        show (takeP tx n (altC tx n k S).2 41).1 = true ∧ (altC tx n k S).1 = (altC tx n k S).1 ∧ CP _ r tx n (takeP tx n (altC tx n k S).2 41)
        rw [e_]
        exact ⟨hw2, rfl, hA38⟩
      · skip
        refine V_ld (pc := 19) dX5_bracketed_19 (v := vr r) rfl rfl ?_
        refine V_ld (pc := 20) dX5_bracketed_20 (v := vr r) rfl rfl ?_
        refine V_getIv (pc := 21) dX5_bracketed_21 (v := ((altC tx n k S).2.2.1 : Int)) fw_RX5_37 rfl hQ.2.1 hP2.2.1 (fun g21 => ?_)
        refine V_callV (pc := 24) dX5_bracketed_24 (F' := 0) (As := [vi ((altC tx n k S).2.2.1 : Int)]) (st := []) cw_RX5_40 rfl rfl hQ.2.1 (by decide) (Nat.le_of_ble_eq_true rfl) (by omega) (c_failed n (wI m Ix2) r ((altC tx n k S).2.2.1 : Int)   hQ) ?_
        rintro _ _ ⟨x24, rfl, Ix24, rfl, rfl, hI24, hF24⟩ ok24 le24
        refine V_reti (pc := 27) dX5_bracketed_27 trivial ?_
        first
          | (exfalso; omega)
          | (have e_ : takeP tx n (altC tx n k S).2 41 = badP (altC tx n k S).2 := if_neg (by omega)
             refine ⟨mI (wI (wI m Ix2) Ix24), rfl, (CFr.tr (CFr.tr CFr.rf hF2) hF24), Or.inr ?_⟩
             show (takeP tx n (altC tx n k S).2 41).1 = false ∧ (-1 : Int) = -1 ∧ _ = ((takeP tx n (altC tx n k S).2 41).2.1 : Int)
             rw [e_]
             exact ⟨rfl, rfl, hI24.trans (if_pos hP2.2.2.1)⟩)
  · skip
    refine V_st (pc := 5) dX5_bracketed_5 (ls' := [(2, vi (-1)), (0, vr r), (1, vi deep)]) rfl (Nat.le_of_ble_eq_true rfl) rfl ?_
    refine V_ld (pc := 6) dX5_bracketed_6 (v := vi (-1)) rfl rfl ?_
    refine V_if_lt (pc := 7) dX5_bracketed_7 (tgt := 19) rfl (fun _ => ?_) (fun h_ => absurd h_ (by decide))
    refine V_ld (pc := 19) dX5_bracketed_19 (v := vr r) rfl rfl ?_
    refine V_ld (pc := 20) dX5_bracketed_20 (v := vr r) rfl rfl ?_
    refine V_getIv (pc := 21) dX5_bracketed_21 (v := mI (wI m Ix2) r 2) fw_RX5_37 rfl hQ.2.1 rfl (fun g21 => ?_)
    refine V_callV (pc := 24) dX5_bracketed_24 (F' := 0) (As := [vi (mI (wI m Ix2) r 2)]) (st := []) cw_RX5_40 rfl rfl hQ.2.1 (by decide) (Nat.le_of_ble_eq_true rfl) (by omega) (c_failed n (wI m Ix2) r (mI (wI m Ix2) r 2)   hQ) ?_
    rintro _ _ ⟨x24, rfl, Ix24, rfl, rfl, hI24, hF24⟩ ok24 le24
    refine V_reti (pc := 27) dX5_bracketed_27 trivial ?_
    refine ⟨mI (wI (wI m Ix2) Ix24), rfl, (CFr.tr (CFr.tr CFr.rf hF2) hF24), Or.inr ?_⟩
    show (takeP tx n (altC tx n k S).2 41).1 = false ∧ (-1 : Int) = -1 ∧ _ = ((takeP tx n (altC tx n k S).2 41).2.1 : Int)
    rw [take_dead (by decide) hw2]
    exact ⟨hw2, rfl, hI24.trans ((if_neg (fun h_ => by have h1_ : Ix2 r 3 = -1 := h_; omega)).trans hf2)⟩

set_option maxHeartbeats 8000000 in
theorem L_cany {F : Nat} {m0 m : Mem} {post : Option AV → Mem → Prop} {tx : Nat → Int} {n k r : Nat} {deep one k0 : Int} {S0 : PS} (hL : Lay (mT m) (mR m)) (hQ : PLay m r n) (hFF : (7 + 5 * k) < F) (hk : deep + (k : Int) = 5) (hsub : CAlt tx n k) : ∀ (f q : Nat) (last : Int) (S : PS) (I : Nat → Nat → Int), CP I r tx n S → LpI n S0 k0 q last S → 1 ≤ q → q ≤ S.2.1 → n + 1 ≤ S.2.1 + f → (∀ (last' i' : Int) (J : Nat → Nat → Int), ((lpG tx n cAny (fun S => altC tx n k (advP S)) f q last S).2.1 = true ∧ i' = ((lpG tx n cAny (fun S => altC tx n k (advP S)) f q last S).1 : Int) ∧ CP J r tx n (lpG tx n cAny (fun S => altC tx n k (advP S)) f q last S).2 ∧ LpI n S0 k0 (lpG tx n cAny (fun S => altC tx n k (advP S)) f q last S).1 last' (lpG tx n cAny (fun S => altC tx n k (advP S)) f q last S).2) ∨ ((lpG tx n cAny (fun S => altC tx n k (advP S)) f q last S).2.1 = false ∧ last' = -1 ∧ J r 3 = ((lpG tx n cAny (fun S => altC tx n k (advP S)) f q last S).2.2.1 : Int)) → CFr r I J → V μX5_anyOrder F m0 post 94 [(4, vi i'), (3, vi last'), (0, vr r), (1, vi deep), (2, vi one)] [] (wI m J)) → V μX5_anyOrder F m0 post 39 [(4, vi (q : Int)), (3, vi last), (0, vr r), (1, vi deep), (2, vi one)] [] (wI m I) := by
  intro f
  induction f with
  | zero =>
    intro q last S I hP hI hq1 hq3 hf kx
    have hfz := hP.2.2.2.2.1
    omega
  | succ f ih =>
    intro q last S I hP hI hq1 hq3 hf kx
    have hn120 := hP.2.2.2.2.2.2.1
    have hb0 := hP.2.2.2.2.1
    have hb1 := hP.2.2.2.2.2.1
    have hr59 := hQ.1
    obtain ⟨hcr0, hcr1⟩ := hP.cr
    have hS1 : S.1 = true := hP.2.2.2.2.2.2.2.2.2.1
    obtain ⟨ll1, ll2, ll3, ll4, ll5, ll6⟩ := hI.last hS1
    have ew : (lpG tx n cAny (fun S => altC tx n k (advP S)) (f + 1) q last S) = (if cAny (cS tx n S) q then (if (altC tx n k (advP S)).2.1 = true then (lpG tx n cAny (fun S => altC tx n k (advP S)) f (q + 1) (altC tx n k (advP S)).1 (lnkP (altC tx n k (advP S)).2 last (altC tx n k (advP S)).1)) else (q, (altC tx n k (advP S)).2)) else (q, S)) := rfl
    refine V_rg (k := 1) (x := deep) rfl fun rr1 => ?_
    refine V_ld (pc := 39) dX5_anyOrder_39 (v := vi (q : Int)) rfl rfl ?_
    refine V_iconst (pc := 41) dX5_anyOrder_41 (by unfold I32; omega) ?_
    refine V_icmp_ge (pc := 42) dX5_anyOrder_42 (tgt := 94) rfl (fun h42 => ?_) (fun h42 => ?_)
    · skip
      first
        | (exfalso; omega)
        | (have hc : ¬ cAny (cS tx n S) q := by unfold cAny; omega
           skip
           refine kx last q I (Or.inl ?_) CFr.rf
           rw [ew, if_neg hc]
           exact ⟨hS1, rfl, hP, hI⟩)
    · skip
      refine V_ld (pc := 45) dX5_anyOrder_45 (v := vi last) rfl rfl ?_
      refine V_if_lt (pc := 46) dX5_anyOrder_46 (tgt := 94) rfl (fun h46 => ?_) (fun h46 => ?_)
      · skip
        first
          | (exfalso; omega)
          | (have hc : ¬ cAny (cS tx n S) q := by unfold cAny; omega
             skip
             refine kx last q I (Or.inl ?_) CFr.rf
             rw [ew, if_neg hc]
             exact ⟨hS1, rfl, hP, hI⟩)
      · skip
        refine V_ld (pc := 49) dX5_anyOrder_49 (v := vr r) rfl rfl ?_
        refine V_bipush (pc := 50) dX5_anyOrder_50 (by unfold I32; omega) (by decide) ?_
        refine V_callV (pc := 52) dX5_anyOrder_52 (F' := 1) (As := [vi 44]) (st := []) cw_RX5_49 rfl rfl hQ.2.1 (by decide) (Nat.le_of_ble_eq_true rfl) (by omega) (c_comes tx n S (wI m I) r 44   (by first | assumption | omega) hQ hP (by decide)) ?_
        rintro _ _ ⟨x52, rfl, hx52, rfl⟩ ok52 le52
        refine V_if_eq (pc := 55) dX5_anyOrder_55 (tgt := 94) rfl (fun h55 => ?_) (fun h55 => ?_)
        · skip
          first
            | (exfalso; omega)
            | (have hc : ¬ cAny (cS tx n S) q := by unfold cAny; omega
               skip
               refine kx last q I (Or.inl ?_) CFr.rf
               rw [ew, if_neg hc]
               exact ⟨hS1, rfl, hP, hI⟩)
        · skip
          refine V_ld (pc := 58) dX5_anyOrder_58 (v := vr r) rfl rfl ?_
          refine V_dup (pc := 59) dX5_anyOrder_59 rfl ?_
          refine V_getIv (pc := 60) dX5_anyOrder_60 (v := (S.2.1 : Int)) fw_RX5_37 rfl hQ.2.1 hP.2.1 (fun g60 => ?_)
          refine V_iconst (pc := 63) dX5_anyOrder_63 (by unfold I32; omega) ?_
          refine V_iadd (pc := 64) dX5_anyOrder_64 (by unfold I32 at *; omega) ?_
          refine V_putI (pc := 65) dX5_anyOrder_65 fw_RX5_37 rfl hQ.2.1 (Or.inl rfl) (Or.inl rfl) ?_
          have hc : cAny (cS tx n S) q := by unfold cAny; omega
          have hSl := (cS_lt (tx := tx) (n := n) (S := S) (by omega)).2
          have hAa : CP (mI (setI (wI m I) r 2 ((S.2.1 : Int) + 1))) r tx n (advP S) := CP.adv hP rfl (cS_lt (tx := tx) (n := n) (S := S) (by omega)).2
          have ehAa : (advP S).2.1 = S.2.1 + 1 := rfl
          have fhAa : (advP S).2.2.1 = S.2.2.1 := rfl
          refine V_ld (pc := 68) dX5_anyOrder_68 (v := vr r) rfl rfl ?_
          refine V_ld (pc := 69) dX5_anyOrder_69 (v := vi deep) rfl rfl ?_
          refine V_callV (pc := 70) dX5_anyOrder_70 (F' := (7 + 5 * k)) (As := [vi deep]) (st := []) cw_RX5_33 rfl rfl hQ.2.1 (by decide) (Nat.le_of_ble_eq_true rfl) (by omega) (hsub (advP S) (setI (wI m I) r 2 ((S.2.1 : Int) + 1)) r deep   (by first | assumption | omega) hQ hAa hk) ?_
          rintro _ _ ⟨x70, rfl, Ix70, rfl, hF70, (⟨hw70, rfl, hP70⟩ | ⟨hw70, rfl, hf70⟩)⟩ ok70 le70
          · skip
            have hn70 : 0 ≤ (altC tx n k (advP S)).1 := nice_nn (altC_nice tx n k (advP S)) hw70
            have hb70 := hP70.2.2.2.2.1
            refine V_st (pc := 73) dX5_anyOrder_73 (ls' := [(5, vi ((altC tx n k (advP S)).1)), (4, vi (q : Int)), (3, vi last), (0, vr r), (1, vi deep), (2, vi one)]) rfl (Nat.le_of_ble_eq_true rfl) rfl ?_
            refine V_ld (pc := 75) dX5_anyOrder_75 (v := vr r) rfl rfl ?_
            obtain ⟨g1, g2, g3, g4, g5, g6, g7, g8⟩ := (altC_nice tx n k (advP S)).2 hw70
            have g9 : (advP S).2.1 = S.2.1 + 1 := rfl
            refine V_getRv (pc := 76) dX5_anyOrder_76 (o' := (r + 1)) fw_RX5_29 rfl hQ.2.1 hQ.2.2.2.1 ?_
            refine V_ld (pc := 79) dX5_anyOrder_79 (v := vi last) rfl rfl ?_
            refine V_ld (pc := 80) dX5_anyOrder_80 (v := vi ((altC tx n k (advP S)).1)) rfl rfl ?_
            refine V_callV (pc := 82) dX5_anyOrder_82 (F' := 1) (As := [vi last, vi ((altC tx n k (advP S)).1)]) (st := []) cw_RX5_53 rfl rfl hQ.2.2.2.2.1 (by decide) (Nat.le_of_ble_eq_true rfl) (by omega) (c_link (18 * n) (wI (setI (wI m I) r 2 ((S.2.1 : Int) + 1)) Ix70) (r + 1) last ((altC tx n k (advP S)).1) (r + 2)  hQ.2.2.2.2.1 hQ.2.2.2.2.2.1 hQ.2.2.2.2.2.2 (by omega)) ?_
            rintro _ _ ⟨rfl, rfl⟩ ok82 le82
            refine V_ld (pc := 85) dX5_anyOrder_85 (v := vi ((altC tx n k (advP S)).1)) rfl rfl ?_
            refine V_st (pc := 87) dX5_anyOrder_87 (ls' := [(3, vi ((altC tx n k (advP S)).1)), (5, vi ((altC tx n k (advP S)).1)), (4, vi (q : Int)), (0, vr r), (1, vi deep), (2, vi one)]) rfl (Nat.le_of_ble_eq_true rfl) rfl ?_
            refine V_iinc (pc := 88) dX5_anyOrder_88 (x := (q : Int)) (ls' := [(4, vi ((q : Int) + 1)), (3, vi ((altC tx n k (advP S)).1)), (5, vi ((altC tx n k (advP S)).1)), (0, vr r), (1, vi deep), (2, vi one)]) rfl (by unfold I32 at *; omega) (Nat.le_of_ble_eq_true rfl) rfl ?_
            refine V_goto (pc := 91) dX5_anyOrder_91 (tgt := 39) rfl ?_
            refine V_ls (ls' := [(4, vi ((q : Int) + 1)), (3, vi ((altC tx n k (advP S)).1)), (0, vr r), (1, vi deep), (2, vi one)]) (by intro q_ h_; simp only [List.mem_cons, List.not_mem_nil, or_false] at h_ ⊢; rcases h_ with rfl | rfl | rfl | rfl | rfl <;> simp) ?_
            refine ih (q + 1) (altC tx n k (advP S)).1 (lnkP (altC tx n k (advP S)).2 last (altC tx n k (advP S)).1) (up2 Ix70 (r + 2) (last * 9 + 8).toNat (altC tx n k (advP S)).1) (CP.lnk hP70 ll1) (LpI.more (V := advP S) hI hS1 ⟨Nat.le_succ _, rfl⟩ hSl (altC_nice tx n k (advP S)) hw70) (by omega) ?_ ?_ ?_
            · show q + 1 ≤ (altC tx n k (advP S)).2.2.1; omega
            · show n + 1 ≤ (altC tx n k (advP S)).2.2.1 + f; omega
            · intro last' i' J hJ hFJ
              refine kx last' i' J ?_ (CFr.tr (CFr.set (CFr.tr (CFr.set CFr.rf (by omega)) hF70) (by omega)) hFJ)
              rw [ew, if_pos hc, if_pos hw70]
              exact hJ
          · skip
            refine V_st (pc := 73) dX5_anyOrder_73 (ls' := [(5, vi (-1)), (4, vi (q : Int)), (3, vi last), (0, vr r), (1, vi deep), (2, vi one)]) rfl (Nat.le_of_ble_eq_true rfl) rfl ?_
            refine V_ld (pc := 75) dX5_anyOrder_75 (v := vr r) rfl rfl ?_
            skip
            refine V_getRv (pc := 76) dX5_anyOrder_76 (o' := (r + 1)) fw_RX5_29 rfl hQ.2.1 hQ.2.2.2.1 ?_
            refine V_ld (pc := 79) dX5_anyOrder_79 (v := vi last) rfl rfl ?_
            refine V_ld (pc := 80) dX5_anyOrder_80 (v := vi (-1)) rfl rfl ?_
            refine V_callV (pc := 82) dX5_anyOrder_82 (F' := 1) (As := [vi last, vi (-1)]) (st := []) cw_RX5_53 rfl rfl hQ.2.2.2.2.1 (by decide) (Nat.le_of_ble_eq_true rfl) (by omega) (c_link (18 * n) (wI (setI (wI m I) r 2 ((S.2.1 : Int) + 1)) Ix70) (r + 1) last (-1) (r + 2)  hQ.2.2.2.2.1 hQ.2.2.2.2.2.1 hQ.2.2.2.2.2.2 (by omega)) ?_
            rintro _ _ ⟨rfl, rfl⟩ ok82 le82
            refine V_ld (pc := 85) dX5_anyOrder_85 (v := vi (-1)) rfl rfl ?_
            refine V_st (pc := 87) dX5_anyOrder_87 (ls' := [(3, vi (-1)), (5, vi (-1)), (4, vi (q : Int)), (0, vr r), (1, vi deep), (2, vi one)]) rfl (Nat.le_of_ble_eq_true rfl) rfl ?_
            refine V_iinc (pc := 88) dX5_anyOrder_88 (x := (q : Int)) (ls' := [(4, vi ((q : Int) + 1)), (3, vi (-1)), (5, vi (-1)), (0, vr r), (1, vi deep), (2, vi one)]) rfl (by unfold I32 at *; omega) (Nat.le_of_ble_eq_true rfl) rfl ?_
            refine V_goto (pc := 91) dX5_anyOrder_91 (tgt := 39) rfl ?_
            skip
            refine V_ld (pc := 39) dX5_anyOrder_39 (v := vi ((q : Int) + 1)) rfl rfl ?_
            refine V_iconst (pc := 41) dX5_anyOrder_41 (by unfold I32; omega) ?_
            refine V_icmp_ge (pc := 42) dX5_anyOrder_42 (tgt := 94) rfl (fun h42 => ?_) (fun h42 => ?_)
            · skip
              refine V_ls (ls' := [(4, vi ((q : Int) + 1)), (3, vi (-1)), (0, vr r), (1, vi deep), (2, vi one)]) (by intro q_ h_; simp only [List.mem_cons, List.not_mem_nil, or_false] at h_ ⊢; rcases h_ with rfl | rfl | rfl | rfl | rfl <;> simp) ?_
              refine V_mem (m' := wI m (up2 Ix70 (r + 2) (last * 9 + 8).toNat (-1))) rfl ?_
              refine kx (-1) ((q : Int) + 1) (up2 Ix70 (r + 2) (last * 9 + 8).toNat (-1)) (Or.inr ?_) (CFr.set (CFr.tr (CFr.set CFr.rf (by omega)) hF70) (by omega))
              rw [ew, if_pos hc, if_neg (by rw [hw70]; exact Bool.false_ne_true)]
              exact ⟨hw70, rfl, (up2_no (by omega)).trans hf70⟩
            · skip
              refine V_ld (pc := 45) dX5_anyOrder_45 (v := vi (-1)) rfl rfl ?_
              refine V_if_lt (pc := 46) dX5_anyOrder_46 (tgt := 94) rfl (fun _ => ?_) (fun h_ => absurd h_ (by decide))
              refine V_ls (ls' := [(4, vi ((q : Int) + 1)), (3, vi (-1)), (0, vr r), (1, vi deep), (2, vi one)]) (by intro q_ h_; simp only [List.mem_cons, List.not_mem_nil, or_false] at h_ ⊢; rcases h_ with rfl | rfl | rfl | rfl | rfl <;> simp) ?_
              refine V_mem (m' := wI m (up2 Ix70 (r + 2) (last * 9 + 8).toNat (-1))) rfl ?_
              refine kx (-1) ((q : Int) + 1) (up2 Ix70 (r + 2) (last * 9 + 8).toNat (-1)) (Or.inr ?_) (CFr.set (CFr.tr (CFr.set CFr.rf (by omega)) hF70) (by omega))
              rw [ew, if_pos hc, if_neg (by rw [hw70]; exact Bool.false_ne_true)]
              exact ⟨hw70, rfl, (up2_no (by omega)).trans hf70⟩

set_option maxHeartbeats 8000000 in
theorem c_anyOrder (tx : Nat → Int) (n : Nat) (k : Nat) (S : PS) (m : Mem) (r : Nat) (deep : Int)   (hL : Lay (mT m) (mR m)) (hQ : PLay m r n) (hP : CP (mI m) r tx n (advP S)) (hk : deep + (k : Int) = 5) (hsub : CAlt tx n k) (h37 : cS tx n S = 37) : Ct μX5_anyOrder (8 + 5 * k) [vr r, vi deep] m (ri fun x_ m' => ∃ I_ : Nat → Nat → Int, wI m I_ = m' ∧ (CFr r (mI m) I_) ∧ COut I_ r tx n (anyP tx n (altC tx n k) S) x_) := by
  refine Ct_of_V rfl (by decide) rfl (Nat.le_of_ble_eq_true rfl) ?_
  show V μX5_anyOrder (8 + 5 * k) m _ 0 [(0, vr r), (1, vi deep)] [] m
  refine V_rg (k := 1) (x := deep) rfl fun r_deep => ?_
  obtain ⟨hcr0, hcr1⟩ := hP.cr
  have hn120 := hP.2.2.2.2.2.2.1
  have hb0 := hP.2.2.2.2.1
  have hb1 := hP.2.2.2.2.2.1
  have hr59 := hQ.1
  have eS1 : (advP S).2.1 = S.2.1 + 1 := rfl
  have eS2 : (advP S).2.2.1 = S.2.2.1 := rfl
  have hb2 := hP.2.2.2.2.2.1
  refine V_ld (pc := 0) dX5_anyOrder_0 (v := vr r) rfl rfl ?_
  refine V_bipush (pc := 1) dX5_anyOrder_1 (by unfold I32; omega) (by decide) ?_
  refine V_callV (pc := 3) dX5_anyOrder_3 (F' := 1) (As := [vi 40]) (st := []) cw_RX5_49 rfl rfl hQ.2.1 (by decide) (Nat.le_of_ble_eq_true rfl) (by omega) (c_comes tx n (advP S) m r 40   (by first | assumption | omega) hQ hP (by decide)) ?_
  rintro _ _ ⟨x3, rfl, hx3, rfl⟩ ok3 le3
  refine V_if_ne (pc := 6) dX5_anyOrder_6 (tgt := 18) rfl (fun h6 => ?_) (fun h6 => ?_)
  · skip
    refine V_ld (pc := 18) dX5_anyOrder_18 (v := vr r) rfl rfl ?_
    refine V_dup (pc := 19) dX5_anyOrder_19 rfl ?_
    refine V_getIv (pc := 20) dX5_anyOrder_20 (v := ((advP S).2.1 : Int)) fw_RX5_37 rfl hQ.2.1 hP.2.1 (fun g20 => ?_)
    refine V_iconst (pc := 23) dX5_anyOrder_23 (by unfold I32; omega) ?_
    refine V_iadd (pc := 24) dX5_anyOrder_24 (by unfold I32 at *; omega) ?_
    refine V_putI (pc := 25) dX5_anyOrder_25 fw_RX5_37 rfl hQ.2.1 (Or.inl rfl) (Or.inl rfl) ?_
    have hA28 : CP (mI (setI m r 2 (((advP S).2.1 : Int) + 1))) r tx n (advP (advP S)) := CP.adv hP rfl (cS_lt (tx := tx) (n := n) (S := (advP S)) (by omega)).2
    have ehA28 : (advP (advP S)).2.1 = (advP S).2.1 + 1 := rfl
    have fhA28 : (advP (advP S)).2.2.1 = (advP S).2.2.1 := rfl
    have hT0 : (takeP tx n (advP S) 40) = advP (advP S) := if_pos (by omega)
    have hB28 := hA28
    rw [← hT0] at hB28
    refine V_ld (pc := 28) dX5_anyOrder_28 (v := vr r) rfl rfl ?_
    refine V_ld (pc := 29) dX5_anyOrder_29 (v := vi deep) rfl rfl ?_
    refine V_callV (pc := 30) dX5_anyOrder_30 (F' := (7 + 5 * k)) (As := [vi deep]) (st := []) cw_RX5_33 rfl rfl hQ.2.1 (by decide) (Nat.le_of_ble_eq_true rfl) (by omega) (hsub (takeP tx n (advP S) 40) (setI m r 2 (((advP S).2.1 : Int) + 1)) r deep   (by first | assumption | omega) hQ hB28 hk) ?_
    rintro _ _ ⟨x30, rfl, Ix30, rfl, hF30, (⟨hw30, rfl, hP30⟩ | ⟨hw30, rfl, hf30⟩)⟩ ok30 le30
    · skip
      have hn30 : 0 ≤ (altC tx n k (takeP tx n (advP S) 40)).1 := nice_nn (altC_nice tx n k (takeP tx n (advP S) 40)) hw30
      have hb30 := hP30.2.2.2.2.1
      refine V_st (pc := 33) dX5_anyOrder_33 (ls' := [(2, vi ((altC tx n k (takeP tx n (advP S) 40)).1)), (0, vr r), (1, vi deep)]) rfl (Nat.le_of_ble_eq_true rfl) rfl ?_
      refine V_ld (pc := 34) dX5_anyOrder_34 (v := vi ((altC tx n k (takeP tx n (advP S) 40)).1)) rfl rfl ?_
      refine V_st (pc := 35) dX5_anyOrder_35 (ls' := [(3, vi ((altC tx n k (takeP tx n (advP S) 40)).1)), (2, vi ((altC tx n k (takeP tx n (advP S) 40)).1)), (0, vr r), (1, vi deep)]) rfl (Nat.le_of_ble_eq_true rfl) rfl ?_
      refine V_iconst (pc := 36) dX5_anyOrder_36 (by unfold I32; omega) ?_
      refine V_st (pc := 37) dX5_anyOrder_37 (ls' := [(4, vi 1), (3, vi ((altC tx n k (takeP tx n (advP S) 40)).1)), (2, vi ((altC tx n k (takeP tx n (advP S) 40)).1)), (0, vr r), (1, vi deep)]) rfl (Nat.le_of_ble_eq_true rfl) rfl ?_
      refine V_ls (ls' := [(4, vi 1), (3, vi ((altC tx n k (takeP tx n (advP S) 40)).1)), (0, vr r), (1, vi deep), (2, vi ((altC tx n k (takeP tx n (advP S) 40)).1))]) (by intro q_ h_; simp only [List.mem_cons, List.not_mem_nil, or_false] at h_ ⊢; rcases h_ with rfl | rfl | rfl | rfl | rfl <;> simp) ?_
      refine V_mem (m' := wI m Ix30) rfl ?_
      refine L_cany (m := m) (k := k) (r := r) (deep := deep) (one := (altC tx n k (takeP tx n (advP S) 40)).1) (k0 := (altC tx n k (takeP tx n (advP S) 40)).1) (S0 := (takeP tx n (advP S) 40)) hL hQ (by omega) hk hsub (n + 1) 1 (altC tx n k (takeP tx n (advP S) 40)).1 (altC tx n k (takeP tx n (advP S) 40)).2 Ix30 hP30 (LpI.one (altC_nice tx n k (takeP tx n (advP S) 40))) (by omega) (by have h_ := ((LpI.one (altC_nice tx n k (takeP tx n (advP S) 40))).2 (by assumption)).2.2.2.1; exact h_) (by omega) ?_
      have hLE : lpG tx n cAny (fun S => altC tx n k (advP S)) (n + 1) 1 (altC tx n k (takeP tx n (advP S) 40)).1 (altC tx n k (takeP tx n (advP S) 40)).2 = (anyL tx n (altC tx n k) S) := rfl
      rw [hLE]
      rintro last' i' J (⟨hwL, rfl, hJ, hI⟩ | ⟨hwL, rfl, hfL⟩) hFJ
      · skip
        obtain ⟨ll1, ll2, ll3, ll4, ll5, ll6⟩ := hI.last hwL
        have hbL := hJ.2.2.2.2.1
        obtain ⟨hcrL0, hcrL1⟩ := hJ.cr
        refine V_ld (pc := 94) dX5_anyOrder_94 (v := vi last') rfl rfl ?_
        refine V_if_lt (pc := 95) dX5_anyOrder_95 (tgt := 113) rfl (fun h95 => ?_) (fun h95 => ?_)
        · skip
          refine V_ld (pc := 113) dX5_anyOrder_113 (v := vr r) rfl rfl ?_
          refine V_ld (pc := 114) dX5_anyOrder_114 (v := vr r) rfl rfl ?_
          refine V_getIv (pc := 115) dX5_anyOrder_115 (v := ((anyL tx n (altC tx n k) S).2.2.1 : Int)) fw_RX5_37 rfl hQ.2.1 hJ.2.1 (fun g115 => ?_)
          refine V_callV (pc := 118) dX5_anyOrder_118 (F' := 0) (As := [vi ((anyL tx n (altC tx n k) S).2.2.1 : Int)]) (st := []) cw_RX5_40 rfl rfl hQ.2.1 (by decide) (Nat.le_of_ble_eq_true rfl) (by omega) (c_failed n (wI m J) r ((anyL tx n (altC tx n k) S).2.2.1 : Int)   hQ) ?_
          rintro _ _ ⟨x118, rfl, Ix118, rfl, rfl, hI118, hF118⟩ ok118 le118
          refine V_reti (pc := 121) dX5_anyOrder_121 trivial ?_
          first
            | (exfalso; omega)
            | (have e_ := any_lt (tx := tx) (n := n) (sub := altC tx n k) (S := S) (by omega)
               refine ⟨mI (wI (wI m J) Ix118), rfl, (CFr.tr (CFr.tr (CFr.tr (CFr.set CFr.rf (by omega)) hF30) hFJ) hF118), Or.inr ?_⟩
               rw [e_]
               exact ⟨rfl, rfl, hI118.trans (if_pos hJ.2.2.1)⟩)
            | (have e_ := any_ne (tx := tx) (n := n) (sub := altC tx n k) (S := S) (by omega) (by omega)
               refine ⟨mI (wI (wI m J) Ix118), rfl, (CFr.tr (CFr.tr (CFr.tr (CFr.set CFr.rf (by omega)) hF30) hFJ) hF118), Or.inr ?_⟩
               rw [e_]
               exact ⟨rfl, rfl, hI118.trans (if_pos hJ.2.2.1)⟩)
        · skip
          refine V_ld (pc := 98) dX5_anyOrder_98 (v := vi ((anyL tx n (altC tx n k) S).1 : Int)) rfl rfl ?_
          refine V_iconst (pc := 100) dX5_anyOrder_100 (by unfold I32; omega) ?_
          refine V_icmp_lt (pc := 101) dX5_anyOrder_101 (tgt := 113) rfl (fun h101 => ?_) (fun h101 => ?_)
          · skip
            refine V_ld (pc := 113) dX5_anyOrder_113 (v := vr r) rfl rfl ?_
            refine V_ld (pc := 114) dX5_anyOrder_114 (v := vr r) rfl rfl ?_
            refine V_getIv (pc := 115) dX5_anyOrder_115 (v := ((anyL tx n (altC tx n k) S).2.2.1 : Int)) fw_RX5_37 rfl hQ.2.1 hJ.2.1 (fun g115 => ?_)
            refine V_callV (pc := 118) dX5_anyOrder_118 (F' := 0) (As := [vi ((anyL tx n (altC tx n k) S).2.2.1 : Int)]) (st := []) cw_RX5_40 rfl rfl hQ.2.1 (by decide) (Nat.le_of_ble_eq_true rfl) (by omega) (c_failed n (wI m J) r ((anyL tx n (altC tx n k) S).2.2.1 : Int)   hQ) ?_
            rintro _ _ ⟨x118, rfl, Ix118, rfl, rfl, hI118, hF118⟩ ok118 le118
            refine V_reti (pc := 121) dX5_anyOrder_121 trivial ?_
            first
              | (exfalso; omega)
              | (have e_ := any_lt (tx := tx) (n := n) (sub := altC tx n k) (S := S) (by omega)
                 refine ⟨mI (wI (wI m J) Ix118), rfl, (CFr.tr (CFr.tr (CFr.tr (CFr.set CFr.rf (by omega)) hF30) hFJ) hF118), Or.inr ?_⟩
                 rw [e_]
                 exact ⟨rfl, rfl, hI118.trans (if_pos hJ.2.2.1)⟩)
              | (have e_ := any_ne (tx := tx) (n := n) (sub := altC tx n k) (S := S) (by omega) (by omega)
                 refine ⟨mI (wI (wI m J) Ix118), rfl, (CFr.tr (CFr.tr (CFr.tr (CFr.set CFr.rf (by omega)) hF30) hFJ) hF118), Or.inr ?_⟩
                 rw [e_]
                 exact ⟨rfl, rfl, hI118.trans (if_pos hJ.2.2.1)⟩)
          · skip
            refine V_ld (pc := 104) dX5_anyOrder_104 (v := vr r) rfl rfl ?_
            refine V_bipush (pc := 105) dX5_anyOrder_105 (by unfold I32; omega) (by decide) ?_
            refine V_callV (pc := 107) dX5_anyOrder_107 (F' := 1) (As := [vi 41]) (st := []) cw_RX5_49 rfl rfl hQ.2.1 (by decide) (Nat.le_of_ble_eq_true rfl) (by omega) (c_comes tx n ((anyL tx n (altC tx n k) S).2) (wI m J) r 41   (by first | assumption | omega) hQ hJ (by decide)) ?_
            rintro _ _ ⟨x107, rfl, hx107, rfl⟩ ok107 le107
            refine V_if_ne (pc := 110) dX5_anyOrder_110 (tgt := 122) rfl (fun h110 => ?_) (fun h110 => ?_)
            · skip
              refine V_ld (pc := 122) dX5_anyOrder_122 (v := vr r) rfl rfl ?_
              refine V_dup (pc := 123) dX5_anyOrder_123 rfl ?_
              refine V_getIv (pc := 124) dX5_anyOrder_124 (v := ((anyL tx n (altC tx n k) S).2.2.1 : Int)) fw_RX5_37 rfl hQ.2.1 hJ.2.1 (fun g124 => ?_)
              refine V_iconst (pc := 127) dX5_anyOrder_127 (by unfold I32; omega) ?_
              refine V_iadd (pc := 128) dX5_anyOrder_128 (by unfold I32 at *; omega) ?_
              refine V_putI (pc := 129) dX5_anyOrder_129 fw_RX5_37 rfl hQ.2.1 (Or.inl rfl) (Or.inl rfl) ?_
              have hA132 : CP (mI (setI (wI m J) r 2 (((anyL tx n (altC tx n k) S).2.2.1 : Int) + 1))) r tx n (advP ((anyL tx n (altC tx n k) S).2)) := CP.adv hJ rfl (cS_lt (tx := tx) (n := n) (S := ((anyL tx n (altC tx n k) S).2)) (by omega)).2
              have ehA132 : (advP ((anyL tx n (altC tx n k) S).2)).2.1 = ((anyL tx n (altC tx n k) S).2).2.1 + 1 := rfl
              have fhA132 : (advP ((anyL tx n (altC tx n k) S).2)).2.2.1 = ((anyL tx n (altC tx n k) S).2).2.2.1 := rfl
              have h1_ : (takeP tx n (advP S) 40).2.1 = S.2.1 + 2 := by rw [hT0]; rfl
              have h2_ : (takeP tx n (advP S) 40).2.2.1 = S.2.2.1 := by rw [hT0]; rfl
              have hcN : (advP (anyL tx n (altC tx n k) S).2).2.2.1 + 1 ≤ 2 * (advP (anyL tx n (altC tx n k) S).2).2.1 := by
                have h3_ : (advP (anyL tx n (altC tx n k) S).2).2.2.1 = (anyL tx n (altC tx n k) S).2.2.2.1 := rfl
                omega
              have h3_ : (advP (anyL tx n (altC tx n k) S).2).2.2.1 = (anyL tx n (altC tx n k) S).2.2.2.1 := rfl
              refine V_ld (pc := 132) dX5_anyOrder_132 (v := vr r) rfl rfl ?_
              refine V_getRv (pc := 133) dX5_anyOrder_133 (o' := (r + 1)) fw_RX5_29 rfl hQ.2.1 hQ.2.2.2.1 ?_
              refine V_bipush (pc := 136) dX5_anyOrder_136 (by unfold I32; omega) (by decide) ?_
              refine V_ld (pc := 138) dX5_anyOrder_138 (v := vi ((altC tx n k (takeP tx n (advP S) 40)).1)) rfl rfl ?_
              refine V_ld (pc := 139) dX5_anyOrder_139 (v := vi ((anyL tx n (altC tx n k) S).1 : Int)) rfl rfl ?_
              refine V_callV (pc := 141) dX5_anyOrder_141 (F' := 1) (As := [vi 6, vi ((altC tx n k (takeP tx n (advP S) 40)).1), vi ((anyL tx n (altC tx n k) S).1 : Int)]) (st := []) cw_RX5_57 rfl rfl hQ.2.2.2.2.1 (by decide) (Nat.le_of_ble_eq_true rfl) (by omega) (c_add (18 * n) ((advP (anyL tx n (altC tx n k) S).2).2.2.2) ((advP (anyL tx n (altC tx n k) S).2).2.2.1) ((anyL tx n (altC tx n k) S).1) (gT (advP (anyL tx n (altC tx n k) S).2).2.2.2 6 (altC tx n k (takeP tx n (advP S) 40)).1 (anyL tx n (altC tx n k) S).1) (setI (wI m J) r 2 (((anyL tx n (altC tx n k) S).2.2.1 : Int) + 1)) (r + 1) 6 ((altC tx n k (takeP tx n (advP S) 40)).1) ((anyL tx n (altC tx n k) S).1 : Int) (r + 2)  hQ.2.2.2.2.1 hQ.2.2.2.2.2.1 hQ.2.2.2.2.2.2 (by omega) ⟨hA132.2.2.2.1, by omega, by omega⟩ hA132.2.2.2.2.2.2.2.2.1 ll3 rfl) ?_
              rintro _ _ ⟨x141, rfl, Ix141, rfl, rfl, hT141, hc141, hF141⟩ ok141 le141
              refine V_reti (pc := 144) dX5_anyOrder_144 trivial ?_
              have e_ := any_ok (tx := tx) (n := n) (sub := altC tx n k) (S := S) (by omega) (by omega)
              refine ⟨mI (wI (setI (wI m J) r 2 (((anyL tx n (altC tx n k) S).2.2.1 : Int) + 1)) Ix141), rfl, (CFr.tr (CFr.set (CFr.tr (CFr.tr (CFr.set CFr.rf (by omega)) hF30) hFJ) (by omega)) (CFr.ofA hF141)), Or.inl ?_⟩
              rw [e_]
              exact ⟨hwL, rfl, CP.mk hA132 hcN hT141 hc141 hF141⟩
            · skip
              refine V_ld (pc := 113) dX5_anyOrder_113 (v := vr r) rfl rfl ?_
              refine V_ld (pc := 114) dX5_anyOrder_114 (v := vr r) rfl rfl ?_
              refine V_getIv (pc := 115) dX5_anyOrder_115 (v := ((anyL tx n (altC tx n k) S).2.2.1 : Int)) fw_RX5_37 rfl hQ.2.1 hJ.2.1 (fun g115 => ?_)
              refine V_callV (pc := 118) dX5_anyOrder_118 (F' := 0) (As := [vi ((anyL tx n (altC tx n k) S).2.2.1 : Int)]) (st := []) cw_RX5_40 rfl rfl hQ.2.1 (by decide) (Nat.le_of_ble_eq_true rfl) (by omega) (c_failed n (wI m J) r ((anyL tx n (altC tx n k) S).2.2.1 : Int)   hQ) ?_
              rintro _ _ ⟨x118, rfl, Ix118, rfl, rfl, hI118, hF118⟩ ok118 le118
              refine V_reti (pc := 121) dX5_anyOrder_121 trivial ?_
              first
                | (exfalso; omega)
                | (have e_ := any_lt (tx := tx) (n := n) (sub := altC tx n k) (S := S) (by omega)
                   refine ⟨mI (wI (wI m J) Ix118), rfl, (CFr.tr (CFr.tr (CFr.tr (CFr.set CFr.rf (by omega)) hF30) hFJ) hF118), Or.inr ?_⟩
                   rw [e_]
                   exact ⟨rfl, rfl, hI118.trans (if_pos hJ.2.2.1)⟩)
                | (have e_ := any_ne (tx := tx) (n := n) (sub := altC tx n k) (S := S) (by omega) (by omega)
                   refine ⟨mI (wI (wI m J) Ix118), rfl, (CFr.tr (CFr.tr (CFr.tr (CFr.set CFr.rf (by omega)) hF30) hFJ) hF118), Or.inr ?_⟩
                   rw [e_]
                   exact ⟨rfl, rfl, hI118.trans (if_pos hJ.2.2.1)⟩)
      · skip
        refine V_ld (pc := 94) dX5_anyOrder_94 (v := vi (-1)) rfl rfl ?_
        refine V_if_lt (pc := 95) dX5_anyOrder_95 (tgt := 113) rfl (fun _ => ?_) (fun h_ => absurd h_ (by decide))
        refine V_ld (pc := 113) dX5_anyOrder_113 (v := vr r) rfl rfl ?_
        refine V_ld (pc := 114) dX5_anyOrder_114 (v := vr r) rfl rfl ?_
        refine V_getIv (pc := 115) dX5_anyOrder_115 (v := mI (wI m J) r 2) fw_RX5_37 rfl hQ.2.1 rfl (fun g115 => ?_)
        refine V_callV (pc := 118) dX5_anyOrder_118 (F' := 0) (As := [vi (mI (wI m J) r 2)]) (st := []) cw_RX5_40 rfl rfl hQ.2.1 (by decide) (Nat.le_of_ble_eq_true rfl) (by omega) (c_failed n (wI m J) r (mI (wI m J) r 2)   hQ) ?_
        rintro _ _ ⟨x118, rfl, Ix118, rfl, rfl, hI118, hF118⟩ ok118 le118
        refine V_reti (pc := 121) dX5_anyOrder_121 trivial ?_
        have e_ := any_bad (S := S) hwL
        refine ⟨mI (wI (wI m J) Ix118), rfl, (CFr.tr (CFr.tr (CFr.tr (CFr.set CFr.rf (by omega)) hF30) hFJ) hF118), Or.inr ?_⟩
        rw [e_]
        exact ⟨hwL, rfl, hI118.trans ((if_neg (fun h_ => by have h1_ : J r 3 = -1 := h_; omega)).trans hfL)⟩
    · skip
      refine V_st (pc := 33) dX5_anyOrder_33 (ls' := [(2, vi (-1)), (0, vr r), (1, vi deep)]) rfl (Nat.le_of_ble_eq_true rfl) rfl ?_
      refine V_ld (pc := 34) dX5_anyOrder_34 (v := vi (-1)) rfl rfl ?_
      refine V_st (pc := 35) dX5_anyOrder_35 (ls' := [(3, vi (-1)), (2, vi (-1)), (0, vr r), (1, vi deep)]) rfl (Nat.le_of_ble_eq_true rfl) rfl ?_
      refine V_iconst (pc := 36) dX5_anyOrder_36 (by unfold I32; omega) ?_
      refine V_st (pc := 37) dX5_anyOrder_37 (ls' := [(4, vi 1), (3, vi (-1)), (2, vi (-1)), (0, vr r), (1, vi deep)]) rfl (Nat.le_of_ble_eq_true rfl) rfl ?_
      refine V_ld (pc := 39) dX5_anyOrder_39 (v := vi 1) rfl rfl ?_
      refine V_iconst (pc := 41) dX5_anyOrder_41 (by unfold I32; omega) ?_
      refine V_icmp_ge (pc := 42) dX5_anyOrder_42 (tgt := 94) rfl (fun h_ => absurd h_ (by decide)) (fun _ => ?_)
      refine V_ld (pc := 45) dX5_anyOrder_45 (v := vi (-1)) rfl rfl ?_
      refine V_if_lt (pc := 46) dX5_anyOrder_46 (tgt := 94) rfl (fun _ => ?_) (fun h_ => absurd h_ (by decide))
      refine V_ld (pc := 94) dX5_anyOrder_94 (v := vi (-1)) rfl rfl ?_
      refine V_if_lt (pc := 95) dX5_anyOrder_95 (tgt := 113) rfl (fun _ => ?_) (fun h_ => absurd h_ (by decide))
      refine V_ld (pc := 113) dX5_anyOrder_113 (v := vr r) rfl rfl ?_
      refine V_ld (pc := 114) dX5_anyOrder_114 (v := vr r) rfl rfl ?_
      refine V_getIv (pc := 115) dX5_anyOrder_115 (v := mI (wI (setI m r 2 (((advP S).2.1 : Int) + 1)) Ix30) r 2) fw_RX5_37 rfl hQ.2.1 rfl (fun g115 => ?_)
      refine V_callV (pc := 118) dX5_anyOrder_118 (F' := 0) (As := [vi (mI (wI (setI m r 2 (((advP S).2.1 : Int) + 1)) Ix30) r 2)]) (st := []) cw_RX5_40 rfl rfl hQ.2.1 (by decide) (Nat.le_of_ble_eq_true rfl) (by omega) (c_failed n (wI (setI m r 2 (((advP S).2.1 : Int) + 1)) Ix30) r (mI (wI (setI m r 2 (((advP S).2.1 : Int) + 1)) Ix30) r 2)   hQ) ?_
      rintro _ _ ⟨x118, rfl, Ix118, rfl, rfl, hI118, hF118⟩ ok118 le118
      refine V_reti (pc := 121) dX5_anyOrder_121 trivial ?_
      have e_ := any_sub (S := S) hw30
      refine ⟨mI (wI (wI (setI m r 2 (((advP S).2.1 : Int) + 1)) Ix30) Ix118), rfl, (CFr.tr (CFr.tr (CFr.set CFr.rf (by omega)) hF30) hF118), Or.inr ?_⟩
      rw [e_]
      exact ⟨hw30, rfl, hI118.trans ((if_neg (fun h_ => by have h1_ : Ix30 r 3 = -1 := h_; omega)).trans hf30)⟩
  · skip
    refine V_ld (pc := 9) dX5_anyOrder_9 (v := vr r) rfl rfl ?_
    refine V_ld (pc := 10) dX5_anyOrder_10 (v := vr r) rfl rfl ?_
    refine V_getIv (pc := 11) dX5_anyOrder_11 (v := ((advP S).2.1 : Int)) fw_RX5_37 rfl hQ.2.1 hP.2.1 (fun g11 => ?_)
    refine V_callV (pc := 14) dX5_anyOrder_14 (F' := 0) (As := [vi ((advP S).2.1 : Int)]) (st := []) cw_RX5_40 rfl rfl hQ.2.1 (by decide) (Nat.le_of_ble_eq_true rfl) (by omega) (c_failed n m r ((advP S).2.1 : Int)   hQ) ?_
    rintro _ _ ⟨x14, rfl, Ix14, rfl, rfl, hI14, hF14⟩ ok14 le14
    refine V_reti (pc := 17) dX5_anyOrder_17 trivial ?_
    have e_ := any_open (tx := tx) (n := n) (sub := altC tx n k) (S := S) (altC_dead tx n k) (by omega)
    refine ⟨mI (wI m Ix14), rfl, (CFr.tr CFr.rf hF14), Or.inr ?_⟩
    rw [e_]
    exact ⟨rfl, rfl, hI14.trans (if_pos hP.2.2.1)⟩

theorem subC_pos {tx : Nat → Int} {n k : Nat} (h : 0 < k) : subC tx n k = altC tx n (k - 1) := by
  cases k with
  | zero => omega
  | succ k => rfl
theorem atoC_no {tx : Nat → Int} {n k : Nat} {S : PS} (h : ¬ isAtk k (cS tx n S)) : atoC tx n k S = (-5, badP S) := by
  have hdp : dpL k = true ↔ 0 < k := by unfold dpL; exact decide_eq_true_iff
  unfold isAtk at h
  unfold atoC atomP
  rw [if_neg (by omega), if_neg (by omega), if_neg (by omega), if_neg (by rintro ⟨h1_, h2_⟩; have h3_ := hdp.mp h2_; omega), if_neg (by rintro ⟨h1_, h2_⟩; have h3_ := hdp.mp h2_; omega)]
theorem atoC_br {tx : Nat → Int} {n k : Nat} {S : PS} (h : cS tx n S = 40) (hk : 0 < k) : atoC tx n k S = ((altC tx n (k - 1) (advP S)).1, takeP tx n (altC tx n (k - 1) (advP S)).2 41) := by
  have hdp : dpL k = true ↔ 0 < k := by unfold dpL; exact decide_eq_true_iff
  unfold atoC atomP
  rw [if_neg (by omega), if_neg (by omega), if_neg (by omega), if_pos ⟨h, hdp.mpr hk⟩, subC_pos hk]
theorem atoC_an {tx : Nat → Int} {n k : Nat} {S : PS} (h : cS tx n S = 37) (hk : 0 < k) : atoC tx n k S = anyP tx n (altC tx n (k - 1)) S := by
  have hdp : dpL k = true ↔ 0 < k := by unfold dpL; exact decide_eq_true_iff
  unfold atoC atomP
  rw [if_neg (by omega), if_neg (by omega), if_neg (by omega), if_neg (by omega), if_pos ⟨h, hdp.mpr hk⟩, subC_pos hk]

set_option maxHeartbeats 8000000 in
theorem c_atom (tx : Nat → Int) (n : Nat) (k : Nat) (S : PS) (m : Mem) (r : Nat) (deep : Int)   (hL : Lay (mT m) (mR m)) (hQ : PLay m r n) (hP : CP (mI m) r tx n S) (hk : deep + (k : Int) = 5) (hsub : ∀ k_ : Nat, k = k_ + 1 → CAlt tx n k_) : Ct μX5_atom (4 + 5 * k) [vr r, vi deep] m (ri fun x_ m' => ∃ I_ : Nat → Nat → Int, wI m I_ = m' ∧ (CFr r (mI m) I_) ∧ COut I_ r tx n (atoC tx n k S) x_) := by
  refine Ct_of_V rfl (by decide) rfl (Nat.le_of_ble_eq_true rfl) ?_
  show V μX5_atom (4 + 5 * k) m _ 0 [(0, vr r), (1, vi deep)] [] m
  refine V_rg (k := 1) (x := deep) rfl fun r_deep => ?_
  obtain ⟨hcr0, hcr1⟩ := hP.cr
  have hn120 := hP.2.2.2.2.2.2.1
  have hb0 := hP.2.2.2.2.1
  have hb1 := hP.2.2.2.2.2.1
  have hr59 := hQ.1
  refine V_ld (pc := 0) dX5_atom_0 (v := vr r) rfl rfl ?_
  refine V_ld (pc := 1) dX5_atom_1 (v := vi deep) rfl rfl ?_
  refine V_callV (pc := 2) dX5_atom_2 (F' := 1) (As := [vi deep]) (st := []) cw_RX5_64 rfl rfl hQ.2.1 (by decide) (Nat.le_of_ble_eq_true rfl) (by omega) (c_atomComes tx n k S m r deep   (by first | assumption | omega) hQ hP hk) ?_
  rintro _ _ ⟨x2, rfl, hx2, rfl⟩ ok2 le2
  refine V_if_ne (pc := 5) dX5_atom_5 (tgt := 17) rfl (fun h5 => ?_) (fun h5 => ?_)
  · skip
    have hlt29 := (cS_lt (tx := tx) (n := n) (S := S) (by unfold isAtk at *; omega)).2
    have hatk : isAtk k (cS tx n S) := by unfold isAtk at *; omega
    unfold isAtk at hatk
    refine V_ld (pc := 17) dX5_atom_17 (v := vr r) rfl rfl ?_
    refine V_getRv (pc := 18) dX5_atom_18 (o' := 13) fw_RX5_15 rfl hQ.2.1 hQ.2.2.1 ?_
    refine V_ld (pc := 21) dX5_atom_21 (v := vr r) rfl rfl ?_
    refine V_getIv (pc := 22) dX5_atom_22 (v := (S.2.1 : Int)) fw_RX5_37 rfl hQ.2.1 hP.2.1 (fun g22 => ?_)
    refine V_callV (pc := 25) dX5_atom_25 (F' := 0) (As := [vi (S.2.1 : Int)]) (st := []) cw_RX5_43 rfl rfl hL.t13 (by decide) (Nat.le_of_ble_eq_true rfl) (by omega) (c_Text_at  m 13 (S.2.1 : Int) 14  hL.t13 hL.r13_0 hL.t14) ?_
    rintro _ _ ⟨x25, rfl, hx25, rfl⟩ ok25 le25
    obtain rfl : x25 = cS tx n S := hx25.trans (CP.at hP rfl)
    obtain ⟨cr250, cr251⟩ := CP.cr hP
    refine V_st (pc := 28) dX5_atom_28 (ls' := [(2, vi (cS tx n S)), (0, vr r), (1, vi deep)]) rfl (Nat.le_of_ble_eq_true rfl) rfl ?_
    refine V_ld (pc := 29) dX5_atom_29 (v := vr r) rfl rfl ?_
    refine V_dup (pc := 30) dX5_atom_30 rfl ?_
    refine V_getIv (pc := 31) dX5_atom_31 (v := (S.2.1 : Int)) fw_RX5_37 rfl hQ.2.1 hP.2.1 (fun g31 => ?_)
    refine V_iconst (pc := 34) dX5_atom_34 (by unfold I32; omega) ?_
    refine V_iadd (pc := 35) dX5_atom_35 (by unfold I32 at *; omega) ?_
    refine V_putI (pc := 36) dX5_atom_36 fw_RX5_37 rfl hQ.2.1 (Or.inl rfl) (Or.inl rfl) ?_
    have hA39 : CP (mI (setI m r 2 ((S.2.1 : Int) + 1))) r tx n (advP S) := CP.adv hP rfl hlt29
    have ehA39 : (advP S).2.1 = S.2.1 + 1 := rfl
    have fhA39 : (advP S).2.2.1 = S.2.2.1 := rfl
    refine V_ld (pc := 39) dX5_atom_39 (v := vi (cS tx n S)) rfl rfl ?_
    by_cases h40_36 : cS tx n S = 36
    · skip
      refine V_lsw (pc := 40) dX5_atom_40 (off := 55) (tgt := 95) (by decide) (by rw [h40_36]; decide) rfl ?_
      refine V_ld (pc := 95) dX5_atom_95 (v := vr r) rfl rfl ?_
      refine V_getRv (pc := 96) dX5_atom_96 (o' := (r + 1)) fw_RX5_29 rfl hQ.2.1 hQ.2.2.2.1 ?_
      refine V_iconst (pc := 99) dX5_atom_99 (by unfold I32; omega) ?_
      refine V_bipush (pc := 100) dX5_atom_100 (by unfold I32; omega) (by decide) ?_
      refine V_callV (pc := 102) dX5_atom_102 (F' := 2) (As := [vi 2, vi (-5)]) (st := []) cw_RX5_79 rfl rfl hQ.2.2.2.2.1 (by decide) (Nat.le_of_ble_eq_true rfl) (by omega) (c_addLeaf (18 * n) ((advP S).2.2.2) ((advP S).2.2.1) (fun w => if w = 11 then 1 else 0) (setI m r 2 ((S.2.1 : Int) + 1)) (r + 1) 2 (-5) (r + 2)  hQ.2.2.2.2.1 hQ.2.2.2.2.2.1 hQ.2.2.2.2.2.2 (by omega) ⟨hA39.2.2.2.1, by have h_ : (advP S).2.2.1 = S.2.2.1 := rfl; omega, by omega⟩ hA39.2.2.2.2.2.2.2.2.1) ?_
      rintro _ _ ⟨x102, rfl, Ix102, rfl, rfl, hT102, hc102, hF102⟩ ok102 le102
      refine V_reti (pc := 105) dX5_atom_105 trivial ?_
      have e_ : atoC tx n k S = leafP S 2 (-5) := (if_neg (by omega)).trans ((if_neg (by omega)).trans (if_pos (by omega)))
      refine ⟨mI (wI (setI m r 2 ((S.2.1 : Int) + 1)) Ix102), rfl, (CFr.tr (CFr.set CFr.rf (by omega)) (CFr.ofA hF102)), Or.inl ?_⟩
      rw [e_]
      exact ⟨hP.2.2.2.2.2.2.2.2.2.1, rfl, CP.mk hA39 (by show S.2.2.1 + 1 ≤ 2 * (S.2.1 + 1); omega) hT102 hc102 hF102⟩
    by_cases h40_37 : cS tx n S = 37
    · skip
      refine V_lsw (pc := 40) dX5_atom_40 (off := 74) (tgt := 114) (by decide) (by rw [h40_37]; decide) rfl ?_
      refine V_ld (pc := 114) dX5_atom_114 (v := vr r) rfl rfl ?_
      refine V_ld (pc := 115) dX5_atom_115 (v := vi deep) rfl rfl ?_
      refine V_iconst (pc := 116) dX5_atom_116 (by unfold I32; omega) ?_
      refine V_iadd (pc := 117) dX5_atom_117 (by unfold I32 at *; omega) ?_
      refine V_callV (pc := 118) dX5_atom_118 (F' := (8 + 5 * (k - 1))) (As := [vi (deep + 1)]) (st := []) cw_RX5_86 rfl rfl hQ.2.1 (by decide) (Nat.le_of_ble_eq_true rfl) (by omega) ((c_anyOrder tx n (k - 1)) S (setI m r 2 ((S.2.1 : Int) + 1)) r (deep + 1)   (by first | assumption | omega) hQ hA39 (by omega) (hsub (k - 1) (by omega)) (by omega)) ?_
      rintro _ _ ⟨x118, rfl, Ix118, rfl, hx118, hO118⟩ ok118 le118
      refine V_reti (pc := 121) dX5_atom_121 trivial ?_
      have e_ := atoC_an (tx := tx) (n := n) (k := k) (S := S) (by omega) (by omega)
      refine ⟨mI (wI (setI m r 2 ((S.2.1 : Int) + 1)) Ix118), rfl, (CFr.tr (CFr.set CFr.rf (by omega)) hx118), ?_⟩
      rw [e_]
      exact hO118
    by_cases h40_40 : cS tx n S = 40
    · skip
      refine V_lsw (pc := 40) dX5_atom_40 (off := 66) (tgt := 106) (by decide) (by rw [h40_40]; decide) rfl ?_
      refine V_ld (pc := 106) dX5_atom_106 (v := vr r) rfl rfl ?_
      refine V_ld (pc := 107) dX5_atom_107 (v := vi deep) rfl rfl ?_
      refine V_iconst (pc := 108) dX5_atom_108 (by unfold I32; omega) ?_
      refine V_iadd (pc := 109) dX5_atom_109 (by unfold I32 at *; omega) ?_
      refine V_callV (pc := 110) dX5_atom_110 (F' := (8 + 5 * (k - 1))) (As := [vi (deep + 1)]) (st := []) cw_RX5_83 rfl rfl hQ.2.1 (by decide) (Nat.le_of_ble_eq_true rfl) (by omega) ((c_bracketed tx n (k - 1)) (advP S) (setI m r 2 ((S.2.1 : Int) + 1)) r (deep + 1)   (by first | assumption | omega) hQ hA39 (by omega) (hsub (k - 1) (by omega))) ?_
      rintro _ _ ⟨x110, rfl, Ix110, rfl, hx110, hO110⟩ ok110 le110
      refine V_reti (pc := 113) dX5_atom_113 trivial ?_
      have e_ := atoC_br (tx := tx) (n := n) (k := k) (S := S) (by omega) (by omega)
      refine ⟨mI (wI (setI m r 2 ((S.2.1 : Int) + 1)) Ix110), rfl, (CFr.tr (CFr.set CFr.rf (by omega)) hx110), ?_⟩
      rw [e_]
      exact hO110
    by_cases h40_94 : cS tx n S = 94
    · skip
      refine V_lsw (pc := 40) dX5_atom_40 (off := 44) (tgt := 84) (by decide) (by rw [h40_94]; decide) rfl ?_
      refine V_ld (pc := 84) dX5_atom_84 (v := vr r) rfl rfl ?_
      refine V_getRv (pc := 85) dX5_atom_85 (o' := (r + 1)) fw_RX5_29 rfl hQ.2.1 hQ.2.2.2.1 ?_
      refine V_iconst (pc := 88) dX5_atom_88 (by unfold I32; omega) ?_
      refine V_bipush (pc := 89) dX5_atom_89 (by unfold I32; omega) (by decide) ?_
      refine V_callV (pc := 91) dX5_atom_91 (F' := 2) (As := [vi 1, vi (-5)]) (st := []) cw_RX5_79 rfl rfl hQ.2.2.2.2.1 (by decide) (Nat.le_of_ble_eq_true rfl) (by omega) (c_addLeaf (18 * n) ((advP S).2.2.2) ((advP S).2.2.1) (fun w => if w = 11 then 1 else 0) (setI m r 2 ((S.2.1 : Int) + 1)) (r + 1) 1 (-5) (r + 2)  hQ.2.2.2.2.1 hQ.2.2.2.2.2.1 hQ.2.2.2.2.2.2 (by omega) ⟨hA39.2.2.2.1, by have h_ : (advP S).2.2.1 = S.2.2.1 := rfl; omega, by omega⟩ hA39.2.2.2.2.2.2.2.2.1) ?_
      rintro _ _ ⟨x91, rfl, Ix91, rfl, rfl, hT91, hc91, hF91⟩ ok91 le91
      refine V_reti (pc := 94) dX5_atom_94 trivial ?_
      have e_ : atoC tx n k S = leafP S 1 (-5) := (if_neg (by omega)).trans (if_pos (by omega))
      refine ⟨mI (wI (setI m r 2 ((S.2.1 : Int) + 1)) Ix91), rfl, (CFr.tr (CFr.set CFr.rf (by omega)) (CFr.ofA hF91)), Or.inl ?_⟩
      rw [e_]
      exact ⟨hP.2.2.2.2.2.2.2.2.2.1, rfl, CP.mk hA39 (by show S.2.2.1 + 1 ≤ 2 * (S.2.1 + 1); omega) hT91 hc91 hF91⟩
    refine V_lsw (pc := 40) dX5_atom_40 (off := 82) (tgt := 122) (by decide) (by simp [Op.lookupswitch.offset, List.find?, Ne.symm h40_36, h40_36, Ne.symm h40_37, h40_37, Ne.symm h40_40, h40_40, Ne.symm h40_94, h40_94]) rfl ?_
    refine V_ld (pc := 122) dX5_atom_122 (v := vr r) rfl rfl ?_
    refine V_getRv (pc := 123) dX5_atom_123 (o' := (r + 1)) fw_RX5_29 rfl hQ.2.1 hQ.2.2.2.1 ?_
    refine V_iconst (pc := 126) dX5_atom_126 (by unfold I32; omega) ?_
    refine V_ld (pc := 127) dX5_atom_127 (v := vi (cS tx n S)) rfl rfl ?_
    refine V_bipush (pc := 128) dX5_atom_128 (by unfold I32; omega) (by decide) ?_
    refine V_isub (pc := 130) dX5_atom_130 (by unfold I32 at *; omega) ?_
    refine V_callV (pc := 131) dX5_atom_131 (F' := 2) (As := [vi 0, vi ((cS tx n S) - 65)]) (st := []) cw_RX5_79 rfl rfl hQ.2.2.2.2.1 (by decide) (Nat.le_of_ble_eq_true rfl) (by omega) (c_addLeaf (18 * n) ((advP S).2.2.2) ((advP S).2.2.1) (fun w => if w = 11 then 1 else 0) (setI m r 2 ((S.2.1 : Int) + 1)) (r + 1) 0 ((cS tx n S) - 65) (r + 2)  hQ.2.2.2.2.1 hQ.2.2.2.2.2.1 hQ.2.2.2.2.2.2 (by omega) ⟨hA39.2.2.2.1, by have h_ : (advP S).2.2.1 = S.2.2.1 := rfl; omega, by omega⟩ hA39.2.2.2.2.2.2.2.2.1) ?_
    rintro _ _ ⟨x131, rfl, Ix131, rfl, rfl, hT131, hc131, hF131⟩ ok131 le131
    refine V_reti (pc := 134) dX5_atom_134 trivial ?_
    have e_ : atoC tx n k S = leafP S 0 (cS tx n S - 65) := if_pos (by omega)
    refine ⟨mI (wI (setI m r 2 ((S.2.1 : Int) + 1)) Ix131), rfl, (CFr.tr (CFr.set CFr.rf (by omega)) (CFr.ofA hF131)), Or.inl ?_⟩
    rw [e_]
    exact ⟨hP.2.2.2.2.2.2.2.2.2.1, rfl, CP.mk hA39 (by show S.2.2.1 + 1 ≤ 2 * (S.2.1 + 1); omega) hT131 hc131 hF131⟩
  · skip
    refine V_ld (pc := 8) dX5_atom_8 (v := vr r) rfl rfl ?_
    refine V_ld (pc := 9) dX5_atom_9 (v := vr r) rfl rfl ?_
    refine V_getIv (pc := 10) dX5_atom_10 (v := (S.2.1 : Int)) fw_RX5_37 rfl hQ.2.1 hP.2.1 (fun g10 => ?_)
    refine V_callV (pc := 13) dX5_atom_13 (F' := 0) (As := [vi (S.2.1 : Int)]) (st := []) cw_RX5_40 rfl rfl hQ.2.1 (by decide) (Nat.le_of_ble_eq_true rfl) (by omega) (c_failed n m r (S.2.1 : Int)   hQ) ?_
    rintro _ _ ⟨x13, rfl, Ix13, rfl, rfl, hI13, hF13⟩ ok13 le13
    refine V_reti (pc := 16) dX5_atom_16 trivial ?_
    have e_ := atoC_no (tx := tx) (n := n) (k := k) (S := S) (by unfold isAtk at *; omega)
    refine ⟨mI (wI m Ix13), rfl, (CFr.tr CFr.rf hF13), Or.inr ?_⟩
    rw [e_]
    exact ⟨rfl, rfl, hI13.trans (if_pos hP.2.2.1)⟩
