/-! the reference reads: series, alternatives, a whole text -/
set_option maxHeartbeats 8000000 in
theorem L_ser {F : Nat} {m0 m : Mem} {post : Option AV → Mem → Prop} {tx : Nat → Int} {n k : Nat} {deep one k0 : Int} {S0 : PS} (hL : Lay (mT m) (mR m)) (hFF : (4 + 5 * k) < F) (hk : deep + (k : Int) = 5) (hsub : ∀ k_ : Nat, k = k_ + 1 → RAlt tx n k_) : ∀ (f q : Nat) (last : Int) (S : PS) (I : Nat → Nat → Int), RP I tx n S → LpI n S0 k0 q last S → 1 ≤ q → q ≤ 200 → (S.1 = true → q ≤ S.2.1) → n + 1 ≤ S.2.1 + f → (∀ last' J, RP J tx n (lpG tx n cSer (repL tx n k) f q last S).2 → RFr I J → V μX11_series F m0 post 49 [(4, vi ((lpG tx n cSer (repL tx n k) f q last S).1 : Int)), (3, vi last'), (0, vr 30), (1, vi deep), (2, vi one)] [] (wI m J)) → V μX11_series F m0 post 11 [(4, vi (q : Int)), (3, vi last), (0, vr 30), (1, vi deep), (2, vi one)] [] (wI m I) := by
  intro f
  induction f with
  | zero =>
    intro q last S I hP hI hq1 hq2 hq3 hf kx
    have hfz := hP.2.2.2.2.1
    omega
  | succ f ih =>
    intro q last S I hP hI hq1 hq2 hq3 hf kx
    have hn120 := hP.2.2.2.2.2.2.1
    have ew : (lpG tx n cSer (repL tx n k) (f + 1) q last S) = (if cSer (cS tx n S) q then (if (repL tx n k S).2.1 = true then (lpG tx n cSer (repL tx n k) f (q + 1) (repL tx n k S).1 (lnkP (repL tx n k S).2 last (repL tx n k S).1)) else (q, (repL tx n k S).2)) else (q, S)) := rfl
    refine V_rg (k := 1) (x := deep) rfl fun rr1 => ?_
    refine V_ld (pc := 11) dX11_series_11 (v := vr 30) rfl rfl ?_
    refine V_callV (pc := 12) dX11_series_12 (F' := 1) (As := []) (st := []) cw_RX11_185 rfl rfl hL.t30 (by decide) (Nat.le_of_ble_eq_true rfl) (by omega) (r_isAtom tx n S (wI m I)    (by first | assumption | omega) hP) ?_
    rintro _ _ ⟨xt, rfl, hxt, rfl⟩ ok12 le12
    refine V_if_eq (pc := 15) dX11_series_15 (tgt := 49) rfl (fun h15 => ?_) (fun h15 => ?_)
    · skip
      unfold isAt1 at hxt
      have hc : ¬ cSer (cS tx n S) q := by unfold cSer isAt1 at *; omega
      have h_ := kx last I (by rw [ew, if_neg hc]; exact hP) RFr.rf
      rw [ew, if_neg hc] at h_
      skip
      exact h_
    · skip
      unfold isAt1 at hxt
      have hc : cSer (cS tx n S) q := by unfold cSer isAt1 at *; omega
      obtain ⟨hS1, hSl⟩ := cS_lt (tx := tx) (n := n) (S := S) (by omega)
      obtain ⟨l1, l2, l3, l4, l5, l6, l7⟩ := hI.2 hS1
      have l8 := Pth.bd l5
      have l9 := RP.c240 hP hS1
      have l10 := hq3 hS1
      refine V_ld (pc := 18) dX11_series_18 (v := vr 30) rfl rfl ?_
      refine V_ld (pc := 19) dX11_series_19 (v := vi deep) rfl rfl ?_
      refine V_callV (pc := 20) dX11_series_20 (F' := (4 + 5 * k)) (As := [vi deep]) (st := []) cw_RX11_182 rfl rfl hL.t30 (by decide) (Nat.le_of_ble_eq_true rfl) (by omega) (r_repeated tx n k S (wI m I) deep   (by first | assumption | omega) hP (by first | assumption | omega) (by first | assumption | omega)) ?_
      rintro _ _ ⟨x20, rfl, Ix20, rfl, rfl, hP20, hF20⟩ ok20 le20
      have hw20 := RP.wl hP20
      have hB20 := hP20.2.2.2.2.1
      refine V_st (pc := 23) dX11_series_23 (ls' := [(5, vi ((repL tx n k S).1)), (4, vi (q : Int)), (3, vi last), (0, vr 30), (1, vi deep), (2, vi one)]) rfl (Nat.le_of_ble_eq_true rfl) rfl ?_
      refine V_ld (pc := 25) dX11_series_25 (v := vr 30) rfl rfl ?_
      refine V_getIv (pc := 26) dX11_series_26 (v := Ix20 30 8) fw_RX11_128 rfl hL.t30 rfl (fun g26 => ?_)
      refine V_if_eq (pc := 29) dX11_series_29 (tgt := 46) rfl (fun h29 => ?_) (fun h29 => ?_)
      · skip
        refine V_goto (pc := 46) dX11_series_46 (tgt := 11) rfl ?_
        have hdead : (repL tx n k S).2.1 = false := (hw20.resolve_left (fun h => by have := h.2; omega)).1
        have hcd := cS_dead (tx := tx) (n := n) hdead
        refine V_ld (pc := 11) dX11_series_11 (v := vr 30) rfl rfl ?_
        refine V_callV (pc := 12) dX11_series_12 (F' := 1) (As := []) (st := []) cw_RX11_185 rfl rfl hL.t30 (by decide) (Nat.le_of_ble_eq_true rfl) (by omega) (r_isAtom tx n ((repL tx n k S).2) (wI (wI m I) Ix20)    (by first | assumption | omega) hP20) ?_
        rintro _ _ ⟨xd, rfl, hxd, rfl⟩ ok12 le12
        refine V_if_eq (pc := 15) dX11_series_15 (tgt := 49) rfl (fun h15 => ?_) (fun h15 => ?_)
        · skip
          unfold isAt1 at hxd
          first
            | (exfalso; omega)
            | (have hnw : ¬ (repL tx n k S).2.1 = true := by rw [hdead]; exact Bool.false_ne_true
               have h_ := kx last Ix20 (by rw [ew, if_pos hc, if_neg hnw]; exact hP20) (RFr.tr RFr.rf hF20)
               rw [ew, if_pos hc, if_neg hnw] at h_
               refine V_ls (ls' := [(4, vi (q : Int)), (3, vi last), (0, vr 30), (1, vi deep), (2, vi one)]) (by intro q_ h_; simp only [List.mem_cons, List.not_mem_nil, or_false] at h_ ⊢; rcases h_ with rfl | rfl | rfl | rfl | rfl <;> simp) ?_
               exact h_)
        · skip
          unfold isAt1 at hxd
          exfalso; omega
      · skip
        have hw : (repL tx n k S).2.1 = true := (hw20.resolve_right (fun h => h29 h.2)).1
        obtain ⟨g1, g2, g3, g4, g5, g6, g7, g8⟩ := (repL_nice tx n k S).2 hw
        skip
        refine V_ld (pc := 32) dX11_series_32 (v := vr 30) rfl rfl ?_
        refine V_getRv (pc := 33) dX11_series_33 (o' := 42) fw_RX11_45 rfl hL.t30 hL.r30_17 ?_
        refine V_ld (pc := 36) dX11_series_36 (v := vi last) rfl rfl ?_
        refine V_ld (pc := 37) dX11_series_37 (v := vi ((repL tx n k S).1)) rfl rfl ?_
        refine V_iast (pc := 39) dX11_series_39 hL.t42 (by omega) ?_
        refine V_ld (pc := 40) dX11_series_40 (v := vi ((repL tx n k S).1)) rfl rfl ?_
        refine V_st (pc := 42) dX11_series_42 (ls' := [(3, vi ((repL tx n k S).1)), (5, vi ((repL tx n k S).1)), (4, vi (q : Int)), (0, vr 30), (1, vi deep), (2, vi one)]) rfl (Nat.le_of_ble_eq_true rfl) rfl ?_
        refine V_iinc (pc := 43) dX11_series_43 (x := (q : Int)) (ls' := [(4, vi ((q : Int) + 1)), (3, vi ((repL tx n k S).1)), (5, vi ((repL tx n k S).1)), (0, vr 30), (1, vi deep), (2, vi one)]) rfl (by unfold I32 at *; omega) (Nat.le_of_ble_eq_true rfl) rfl ?_
        refine V_goto (pc := 46) dX11_series_46 (tgt := 11) rfl ?_
        refine V_ls (ls' := [(4, vi ((q : Int) + 1)), (3, vi ((repL tx n k S).1)), (0, vr 30), (1, vi deep), (2, vi one)]) (by intro q_ h_; simp only [List.mem_cons, List.not_mem_nil, or_false] at h_ ⊢; rcases h_ with rfl | rfl | rfl | rfl | rfl <;> simp) ?_
        refine ih (q + 1) (repL tx n k S).1 (lnkP (repL tx n k S).2 last (repL tx n k S).1) (up2 Ix20 42 last.toNat (repL tx n k S).1) (RP.lnk hP20) (LpI.more (V := S) hI hS1 ⟨Nat.le_refl _, rfl⟩ (Nat.le_of_lt hSl) (repL_nice tx n k S) hw) (by omega) (by omega) (fun _ => ?_) ?_ ?_
        · show q + 1 ≤ (repL tx n k S).2.2.1; omega
        · show n + 1 ≤ (repL tx n k S).2.2.1 + f; omega
        · intro last' J hJ hFJ
          have h_ := kx last' J (by rw [ew, if_pos hc, if_pos hw]; exact hJ) (RFr.tr (RFr.set (RFr.tr RFr.rf hF20) (by omega)) hFJ)
          rw [ew, if_pos hc, if_pos hw] at h_
          exact h_

set_option maxHeartbeats 8000000 in
theorem r_series (tx : Nat → Int) (n : Nat) (k : Nat) (S : PS) (m : Mem) (deep : Int)   (hL : Lay (mT m) (mR m)) (hP : RP (mI m) tx n S) (hk : deep + (k : Int) = 5) (hsub : ∀ k_ : Nat, k = k_ + 1 → RAlt tx n k_) : Ct μX11_series (5 + 5 * k) [vr 30, vi deep] m (ri fun x_ m' => ∃ I_ : Nat → Nat → Int, wI m I_ = m' ∧ (x_ = (serL tx n k S).1) ∧ RP I_ tx n (serL tx n k S).2 ∧ RFr (mI m) I_) := by
  refine Ct_of_V rfl (by decide) rfl (Nat.le_of_ble_eq_true rfl) ?_
  show V μX11_series (5 + 5 * k) m _ 0 [(0, vr 30), (1, vi deep)] [] m
  refine V_rg (k := 1) (x := deep) rfl fun r_deep => ?_
  have hn120 := hP.2.2.2.2.2.2.1
  refine V_ld (pc := 0) dX11_series_0 (v := vr 30) rfl rfl ?_
  refine V_ld (pc := 1) dX11_series_1 (v := vi deep) rfl rfl ?_
  refine V_callV (pc := 2) dX11_series_2 (F' := (4 + 5 * k)) (As := [vi deep]) (st := []) cw_RX11_182 rfl rfl hL.t30 (by decide) (Nat.le_of_ble_eq_true rfl) (by omega) (r_repeated tx n k S m deep   (by first | assumption | omega) hP (by first | assumption | omega) (by first | assumption | omega)) ?_
  rintro _ _ ⟨x2, rfl, Ix2, rfl, rfl, hP2, hF2⟩ ok2 le2
  have hB2 := hP2.2.2.2.2.1
  refine V_st (pc := 5) dX11_series_5 (ls' := [(2, vi ((repL tx n k S).1)), (0, vr 30), (1, vi deep)]) rfl (Nat.le_of_ble_eq_true rfl) rfl ?_
  refine V_ld (pc := 6) dX11_series_6 (v := vi ((repL tx n k S).1)) rfl rfl ?_
  refine V_st (pc := 7) dX11_series_7 (ls' := [(3, vi ((repL tx n k S).1)), (2, vi ((repL tx n k S).1)), (0, vr 30), (1, vi deep)]) rfl (Nat.le_of_ble_eq_true rfl) rfl ?_
  refine V_iconst (pc := 8) dX11_series_8 (by unfold I32; omega) ?_
  refine V_st (pc := 9) dX11_series_9 (ls' := [(4, vi 1), (3, vi ((repL tx n k S).1)), (2, vi ((repL tx n k S).1)), (0, vr 30), (1, vi deep)]) rfl (Nat.le_of_ble_eq_true rfl) rfl ?_
  refine V_ls (ls' := [(4, vi 1), (3, vi ((repL tx n k S).1)), (0, vr 30), (1, vi deep), (2, vi ((repL tx n k S).1))]) (by intro q_ h_; simp only [List.mem_cons, List.not_mem_nil, or_false] at h_ ⊢; rcases h_ with rfl | rfl | rfl | rfl | rfl <;> simp) ?_
  refine V_mem (m' := wI m Ix2) rfl ?_
  refine L_ser (F := 5 + 5 * k) (m := m) (k := k) (deep := deep) (one := (repL tx n k S).1) (k0 := (repL tx n k S).1) (S0 := S) hL (by omega) hk hsub (n + 1) 1 (repL tx n k S).1 (repL tx n k S).2 Ix2 hP2 (LpI.one (repL_nice tx n k S)) (by omega) (by omega) (fun h => ((LpI.one (repL_nice tx n k S)).2 h).2.2.2.1) (by omega) ?_
  intro last' J hJ hFJ
  have hLE : lpG tx n cSer (repL tx n k) (n + 1) 1 (repL tx n k S).1 (repL tx n k S).2 = (lstP tx n cSer (repL tx n k) (repL tx n k S)) := rfl
  rw [hLE] at hJ ⊢
  have hwE := RP.wl hJ
  refine V_ld (pc := 49) dX11_series_49 (v := vr 30) rfl rfl ?_
  refine V_getIv (pc := 50) dX11_series_50 (v := J 30 8) fw_RX11_128 rfl hL.t30 rfl (fun g50 => ?_)
  refine V_if_eq (pc := 53) dX11_series_53 (tgt := 73) rfl (fun h53 => ?_) (fun h53 => ?_)
  · skip
    refine V_ld (pc := 73) dX11_series_73 (v := vi ((repL tx n k S).1)) rfl rfl ?_
    refine V_reti (pc := 74) dX11_series_74 trivial ?_
    have hnw : ¬ ((lstP tx n cSer (repL tx n k) (repL tx n k S)).2.1 = true ∧ 1 < (lstP tx n cSer (repL tx n k) (repL tx n k S)).1) := fun h => by
      rcases hwE with h2 | h2
      · have h3_ := h2.2; omega
      · rw [h2.1] at h; cases h.1
    have eA : serL tx n k S = ((repL tx n k S).1, (lstP tx n cSer (repL tx n k) (repL tx n k S)).2) := by unfold serL serP endP; exact if_neg hnw
    refine ⟨mI (wI m J), rfl, by rw [eA], ?_, (RFr.tr (RFr.tr RFr.rf hF2) hFJ)⟩
    rw [eA]
    exact hJ
  · skip
    refine V_ld (pc := 56) dX11_series_56 (v := vi ((lstP tx n cSer (repL tx n k) (repL tx n k S)).1 : Int)) rfl rfl ?_
    refine V_iconst (pc := 58) dX11_series_58 (by unfold I32; omega) ?_
    refine V_icmp_le (pc := 59) dX11_series_59 (tgt := 73) rfl (fun h59 => ?_) (fun h59 => ?_)
    · skip
      refine V_ld (pc := 73) dX11_series_73 (v := vi ((repL tx n k S).1)) rfl rfl ?_
      refine V_reti (pc := 74) dX11_series_74 trivial ?_
      have hnw : ¬ ((lstP tx n cSer (repL tx n k) (repL tx n k S)).2.1 = true ∧ 1 < (lstP tx n cSer (repL tx n k) (repL tx n k S)).1) := fun h => by
        rcases hwE with h2 | h2
        · have h3_ := h2.2; omega
        · rw [h2.1] at h; cases h.1
      have eA : serL tx n k S = ((repL tx n k S).1, (lstP tx n cSer (repL tx n k) (repL tx n k S)).2) := by unfold serL serP endP; exact if_neg hnw
      refine ⟨mI (wI m J), rfl, by rw [eA], ?_, (RFr.tr (RFr.tr RFr.rf hF2) hFJ)⟩
      rw [eA]
      exact hJ
    · skip
      have hw : (lstP tx n cSer (repL tx n k) (repL tx n k S)).2.1 = true := (hwE.resolve_right (fun h => h53 h.2)).1
      have eA : serL tx n k S = rndP (lstP tx n cSer (repL tx n k) (repL tx n k S)).2 3 (repL tx n k S).1 (lstP tx n cSer (repL tx n k) (repL tx n k S)).1 := by unfold serL serP endP; exact if_pos ⟨hw, by omega⟩
      have hN := (serL_nice tx n k S).2 (by rw [eA]; exact hw)
      rw [eA] at hN
      obtain ⟨n1, n2, n3, n4, n5, n6, n7, n8⟩ := hN
      have n4' : (lstP tx n cSer (repL tx n k) (repL tx n k S)).2.2.2.1 + 1 + 1 + 2 * S.2.1 ≤ S.2.2.1 + 2 * (lstP tx n cSer (repL tx n k) (repL tx n k S)).2.2.1 := n4
      have n9 := hP.2.2.2.2.2.1 n1
      have n10 := hP.2.2.2.2.2.2.1
      have n11 := hJ.2.2.2.2.1
      have hch : chE (lstP tx n cSer (repL tx n k) (repL tx n k S)).2.2.2.2 ((lstP tx n cSer (repL tx n k) (repL tx n k S)).2.2.2.1 : Int) (lstP tx n cSer (repL tx n k) (repL tx n k S)).1 (repL tx n k S).1 := lst_ch (vv := id) (repL_nice tx n k) (cSer_v (tx := tx) (n := n)) (repL_nice tx n k S) hw
      refine V_ld (pc := 62) dX11_series_62 (v := vr 30) rfl rfl ?_
      refine V_iconst (pc := 63) dX11_series_63 (by unfold I32; omega) ?_
      refine V_ld (pc := 64) dX11_series_64 (v := vi ((repL tx n k S).1)) rfl rfl ?_
      refine V_ld (pc := 65) dX11_series_65 (v := vi ((lstP tx n cSer (repL tx n k) (repL tx n k S)).1 : Int)) rfl rfl ?_
      refine V_callV (pc := 67) dX11_series_67 (F' := 1) (As := [vi 3, vi ((repL tx n k S).1), vi ((lstP tx n cSer (repL tx n k) (repL tx n k S)).1 : Int)]) (st := []) cw_RX11_153 rfl rfl hL.t30 (by decide) (Nat.le_of_ble_eq_true rfl) (by omega) (r_round ((lstP tx n cSer (repL tx n k) (repL tx n k S)).2.2.2.2) ((lstP tx n cSer (repL tx n k) (repL tx n k S)).2.2.2.1) ((lstP tx n cSer (repL tx n k) (repL tx n k S)).1) (gT (lstP tx n cSer (repL tx n k) (repL tx n k S)).2.2.2.2 3 (repL tx n k S).1 (lstP tx n cSer (repL tx n k) (repL tx n k S)).1) (wI m J) 3 ((repL tx n k S).1) ((lstP tx n cSer (repL tx n k) (repL tx n k S)).1 : Int)   (by first | assumption | omega) ⟨hJ.2.2.2.1, by omega⟩ hJ.2.2.2.2.2.2.2.2 hch rfl) ?_
      rintro _ _ ⟨x67, rfl, Ix67, rfl, rfl, hT67, hc67, hF67⟩ ok67 le67
      refine V_goto (pc := 70) dX11_series_70 (tgt := 74) rfl ?_
      refine V_reti (pc := 74) dX11_series_74 trivial ?_
      refine ⟨mI (wI (wI m J) Ix67), rfl, by rw [eA]; rfl, ?_, (RFr.tr (RFr.tr (RFr.tr RFr.rf hF2) hFJ) (RFp.r hF67))⟩
      rw [eA]
      exact RP.rnd hJ (fun _ => by omega) hT67 hc67 hF67

set_option maxHeartbeats 8000000 in
theorem L_alt {F : Nat} {m0 m : Mem} {post : Option AV → Mem → Prop} {tx : Nat → Int} {n k : Nat} {deep one k0 : Int} {S0 : PS} (hL : Lay (mT m) (mR m)) (hFF : (5 + 5 * k) < F) (hk : deep + (k : Int) = 5) (hsub : ∀ k_ : Nat, k = k_ + 1 → RAlt tx n k_) : ∀ (f q : Nat) (last : Int) (S : PS) (I : Nat → Nat → Int), RP I tx n S → LpI n S0 k0 q last S → 1 ≤ q → q ≤ 200 → (S.1 = true → q ≤ S.2.1) → n + 1 ≤ S.2.1 + f → (∀ last' J, RP J tx n (lpG tx n cAlt (fun S => serL tx n k (advP S)) f q last S).2 → RFr I J → V μX11_alternatives F m0 post 61 [(4, vi ((lpG tx n cAlt (fun S => serL tx n k (advP S)) f q last S).1 : Int)), (3, vi last'), (0, vr 30), (1, vi deep), (2, vi one)] [] (wI m J)) → V μX11_alternatives F m0 post 11 [(4, vi (q : Int)), (3, vi last), (0, vr 30), (1, vi deep), (2, vi one)] [] (wI m I) := by
  intro f
  induction f with
  | zero =>
    intro q last S I hP hI hq1 hq2 hq3 hf kx
    have hfz := hP.2.2.2.2.1
    omega
  | succ f ih =>
    intro q last S I hP hI hq1 hq2 hq3 hf kx
    have hn120 := hP.2.2.2.2.2.2.1
    have ew : (lpG tx n cAlt (fun S => serL tx n k (advP S)) (f + 1) q last S) = (if cAlt (cS tx n S) q then (if (serL tx n k (advP S)).2.1 = true then (lpG tx n cAlt (fun S => serL tx n k (advP S)) f (q + 1) (serL tx n k (advP S)).1 (lnkP (serL tx n k (advP S)).2 last (serL tx n k (advP S)).1)) else (q, (serL tx n k (advP S)).2)) else (q, S)) := rfl
    refine V_rg (k := 1) (x := deep) rfl fun rr1 => ?_
    refine V_ld (pc := 11) dX11_alternatives_11 (v := vr 30) rfl rfl ?_
    refine V_bipush (pc := 12) dX11_alternatives_12 (by unfold I32; omega) (by decide) ?_
    refine V_callV (pc := 14) dX11_alternatives_14 (F' := 0) (As := [vi 124]) (st := []) cw_RX11_132 rfl rfl hL.t30 (by decide) (Nat.le_of_ble_eq_true rfl) (by omega) (r_isAt tx n S (wI m I) 124   (by first | assumption | omega) hP (by decide)) ?_
    rintro _ _ ⟨xt, rfl, hxt, rfl⟩ ok14 le14
    refine V_if_eq (pc := 17) dX11_alternatives_17 (tgt := 61) rfl (fun h17 => ?_) (fun h17 => ?_)
    · skip
      skip
      have hc : ¬ cAlt (cS tx n S) q := by unfold cAlt at *; omega
      have h_ := kx last I (by rw [ew, if_neg hc]; exact hP) RFr.rf
      rw [ew, if_neg hc] at h_
      skip
      exact h_
    · skip
      skip
      have hc : cAlt (cS tx n S) q := by unfold cAlt at *; omega
      obtain ⟨hS1, hSl⟩ := cS_lt (tx := tx) (n := n) (S := S) (by omega)
      obtain ⟨l1, l2, l3, l4, l5, l6, l7⟩ := hI.2 hS1
      have l8 := Pth.bd l5
      have l9 := RP.c240 hP hS1
      have l10 := hq3 hS1
      refine V_ld (pc := 20) dX11_alternatives_20 (v := vr 30) rfl rfl ?_
      refine V_dup (pc := 21) dX11_alternatives_21 rfl ?_
      refine V_getIv (pc := 22) dX11_alternatives_22 (v := (S.2.1 : Int)) fw_RX11_125 rfl hL.t30 hP.2.1 (fun g22 => ?_)
      refine V_iconst (pc := 25) dX11_alternatives_25 (by unfold I32; omega) ?_
      refine V_iadd (pc := 26) dX11_alternatives_26 (by unfold I32 at *; omega) ?_
      refine V_putI (pc := 27) dX11_alternatives_27 fw_RX11_125 rfl hL.t30 (Or.inl rfl) (Or.inl rfl) ?_
      have hPa : RP (mI (setI (wI m I) 30 7 ((S.2.1 : Int) + 1))) tx n (advP S) := RP.adv hP (congrArg (fun z => z + 1) hP.2.1.symm) (show I 30 7 < I 30 6 from by have h1_ := hP.1; have h2_ := hP.2.1; omega)
      refine V_ld (pc := 30) dX11_alternatives_30 (v := vr 30) rfl rfl ?_
      refine V_ld (pc := 31) dX11_alternatives_31 (v := vi deep) rfl rfl ?_
      refine V_callV (pc := 32) dX11_alternatives_32 (F' := (5 + 5 * k)) (As := [vi deep]) (st := []) cw_RX11_189 rfl rfl hL.t30 (by decide) (Nat.le_of_ble_eq_true rfl) (by omega) (r_series tx n k (advP S) (setI (wI m I) 30 7 ((S.2.1 : Int) + 1)) deep   (by first | assumption | omega) hPa (by first | assumption | omega) (by first | assumption | omega)) ?_
      rintro _ _ ⟨x32, rfl, Ix32, rfl, rfl, hP32, hF32⟩ ok32 le32
      have hw32 := RP.wl hP32
      have hB32 := hP32.2.2.2.2.1
      refine V_st (pc := 35) dX11_alternatives_35 (ls' := [(5, vi ((serL tx n k (advP S)).1)), (4, vi (q : Int)), (3, vi last), (0, vr 30), (1, vi deep), (2, vi one)]) rfl (Nat.le_of_ble_eq_true rfl) rfl ?_
      refine V_ld (pc := 37) dX11_alternatives_37 (v := vr 30) rfl rfl ?_
      refine V_getIv (pc := 38) dX11_alternatives_38 (v := Ix32 30 8) fw_RX11_128 rfl hL.t30 rfl (fun g38 => ?_)
      refine V_if_eq (pc := 41) dX11_alternatives_41 (tgt := 58) rfl (fun h41 => ?_) (fun h41 => ?_)
      · skip
        refine V_goto (pc := 58) dX11_alternatives_58 (tgt := 11) rfl ?_
        have hdead : (serL tx n k (advP S)).2.1 = false := (hw32.resolve_left (fun h => by have := h.2; omega)).1
        have hcd := cS_dead (tx := tx) (n := n) hdead
        refine V_ld (pc := 11) dX11_alternatives_11 (v := vr 30) rfl rfl ?_
        refine V_bipush (pc := 12) dX11_alternatives_12 (by unfold I32; omega) (by decide) ?_
        refine V_callV (pc := 14) dX11_alternatives_14 (F' := 0) (As := [vi 124]) (st := []) cw_RX11_132 rfl rfl hL.t30 (by decide) (Nat.le_of_ble_eq_true rfl) (by omega) (r_isAt tx n ((serL tx n k (advP S)).2) (wI (setI (wI m I) 30 7 ((S.2.1 : Int) + 1)) Ix32) 124   (by first | assumption | omega) hP32 (by decide)) ?_
        rintro _ _ ⟨xd, rfl, hxd, rfl⟩ ok14 le14
        refine V_if_eq (pc := 17) dX11_alternatives_17 (tgt := 61) rfl (fun h17 => ?_) (fun h17 => ?_)
        · skip
          skip
          first
            | (exfalso; omega)
            | (have hnw : ¬ (serL tx n k (advP S)).2.1 = true := by rw [hdead]; exact Bool.false_ne_true
               have h_ := kx last Ix32 (by rw [ew, if_pos hc, if_neg hnw]; exact hP32) (RFr.tr (RFr.set RFr.rf (by omega)) hF32)
               rw [ew, if_pos hc, if_neg hnw] at h_
               refine V_ls (ls' := [(4, vi (q : Int)), (3, vi last), (0, vr 30), (1, vi deep), (2, vi one)]) (by intro q_ h_; simp only [List.mem_cons, List.not_mem_nil, or_false] at h_ ⊢; rcases h_ with rfl | rfl | rfl | rfl | rfl <;> simp) ?_
               exact h_)
        · skip
          exfalso; omega
      · skip
        have hw : (serL tx n k (advP S)).2.1 = true := (hw32.resolve_right (fun h => h41 h.2)).1
        obtain ⟨g1, g2, g3, g4, g5, g6, g7, g8⟩ := (serL_nice tx n k (advP S)).2 hw
        have g9 : (advP S).2.1 = S.2.1 + 1 := rfl
        refine V_ld (pc := 44) dX11_alternatives_44 (v := vr 30) rfl rfl ?_
        refine V_getRv (pc := 45) dX11_alternatives_45 (o' := 42) fw_RX11_45 rfl hL.t30 hL.r30_17 ?_
        refine V_ld (pc := 48) dX11_alternatives_48 (v := vi last) rfl rfl ?_
        refine V_ld (pc := 49) dX11_alternatives_49 (v := vi ((serL tx n k (advP S)).1)) rfl rfl ?_
        refine V_iast (pc := 51) dX11_alternatives_51 hL.t42 (by omega) ?_
        refine V_ld (pc := 52) dX11_alternatives_52 (v := vi ((serL tx n k (advP S)).1)) rfl rfl ?_
        refine V_st (pc := 54) dX11_alternatives_54 (ls' := [(3, vi ((serL tx n k (advP S)).1)), (5, vi ((serL tx n k (advP S)).1)), (4, vi (q : Int)), (0, vr 30), (1, vi deep), (2, vi one)]) rfl (Nat.le_of_ble_eq_true rfl) rfl ?_
        refine V_iinc (pc := 55) dX11_alternatives_55 (x := (q : Int)) (ls' := [(4, vi ((q : Int) + 1)), (3, vi ((serL tx n k (advP S)).1)), (5, vi ((serL tx n k (advP S)).1)), (0, vr 30), (1, vi deep), (2, vi one)]) rfl (by unfold I32 at *; omega) (Nat.le_of_ble_eq_true rfl) rfl ?_
        refine V_goto (pc := 58) dX11_alternatives_58 (tgt := 11) rfl ?_
        refine V_ls (ls' := [(4, vi ((q : Int) + 1)), (3, vi ((serL tx n k (advP S)).1)), (0, vr 30), (1, vi deep), (2, vi one)]) (by intro q_ h_; simp only [List.mem_cons, List.not_mem_nil, or_false] at h_ ⊢; rcases h_ with rfl | rfl | rfl | rfl | rfl <;> simp) ?_
        refine ih (q + 1) (serL tx n k (advP S)).1 (lnkP (serL tx n k (advP S)).2 last (serL tx n k (advP S)).1) (up2 Ix32 42 last.toNat (serL tx n k (advP S)).1) (RP.lnk hP32) (LpI.more (V := advP S) hI hS1 ⟨Nat.le_succ _, rfl⟩ hSl (serL_nice tx n k (advP S)) hw) (by omega) (by omega) (fun _ => ?_) ?_ ?_
        · show q + 1 ≤ (serL tx n k (advP S)).2.2.1; omega
        · show n + 1 ≤ (serL tx n k (advP S)).2.2.1 + f; omega
        · intro last' J hJ hFJ
          have h_ := kx last' J (by rw [ew, if_pos hc, if_pos hw]; exact hJ) (RFr.tr (RFr.set (RFr.tr (RFr.set RFr.rf (by omega)) hF32) (by omega)) hFJ)
          rw [ew, if_pos hc, if_pos hw] at h_
          exact h_

theorem altL_nice' (tx : Nat → Int) (n k : Nat) (S : PS) : Nice n S (altL tx n k S) := altL_nice tx n k S

set_option maxHeartbeats 8000000 in
theorem r_alternatives (tx : Nat → Int) (n : Nat) (k : Nat) (S : PS) (m : Mem) (deep : Int)   (hL : Lay (mT m) (mR m)) (hP : RP (mI m) tx n S) (hk : deep + (k : Int) = 5) (hsub : ∀ k_ : Nat, k = k_ + 1 → RAlt tx n k_) : Ct μX11_alternatives (6 + 5 * k) [vr 30, vi deep] m (ri fun x_ m' => ∃ I_ : Nat → Nat → Int, wI m I_ = m' ∧ (x_ = (altL tx n k S).1) ∧ RP I_ tx n (altL tx n k S).2 ∧ RFr (mI m) I_) := by
  refine Ct_of_V rfl (by decide) rfl (Nat.le_of_ble_eq_true rfl) ?_
  show V μX11_alternatives (6 + 5 * k) m _ 0 [(0, vr 30), (1, vi deep)] [] m
  refine V_rg (k := 1) (x := deep) rfl fun r_deep => ?_
  have hn120 := hP.2.2.2.2.2.2.1
  refine V_ld (pc := 0) dX11_alternatives_0 (v := vr 30) rfl rfl ?_
  refine V_ld (pc := 1) dX11_alternatives_1 (v := vi deep) rfl rfl ?_
  refine V_callV (pc := 2) dX11_alternatives_2 (F' := (5 + 5 * k)) (As := [vi deep]) (st := []) cw_RX11_189 rfl rfl hL.t30 (by decide) (Nat.le_of_ble_eq_true rfl) (by omega) (r_series tx n k S m deep   (by first | assumption | omega) hP (by first | assumption | omega) (by first | assumption | omega)) ?_
  rintro _ _ ⟨x2, rfl, Ix2, rfl, rfl, hP2, hF2⟩ ok2 le2
  have hB2 := hP2.2.2.2.2.1
  refine V_st (pc := 5) dX11_alternatives_5 (ls' := [(2, vi ((serL tx n k S).1)), (0, vr 30), (1, vi deep)]) rfl (Nat.le_of_ble_eq_true rfl) rfl ?_
  refine V_ld (pc := 6) dX11_alternatives_6 (v := vi ((serL tx n k S).1)) rfl rfl ?_
  refine V_st (pc := 7) dX11_alternatives_7 (ls' := [(3, vi ((serL tx n k S).1)), (2, vi ((serL tx n k S).1)), (0, vr 30), (1, vi deep)]) rfl (Nat.le_of_ble_eq_true rfl) rfl ?_
  refine V_iconst (pc := 8) dX11_alternatives_8 (by unfold I32; omega) ?_
  refine V_st (pc := 9) dX11_alternatives_9 (ls' := [(4, vi 1), (3, vi ((serL tx n k S).1)), (2, vi ((serL tx n k S).1)), (0, vr 30), (1, vi deep)]) rfl (Nat.le_of_ble_eq_true rfl) rfl ?_
  refine V_ls (ls' := [(4, vi 1), (3, vi ((serL tx n k S).1)), (0, vr 30), (1, vi deep), (2, vi ((serL tx n k S).1))]) (by intro q_ h_; simp only [List.mem_cons, List.not_mem_nil, or_false] at h_ ⊢; rcases h_ with rfl | rfl | rfl | rfl | rfl <;> simp) ?_
  refine V_mem (m' := wI m Ix2) rfl ?_
  refine L_alt (F := 6 + 5 * k) (m := m) (k := k) (deep := deep) (one := (serL tx n k S).1) (k0 := (serL tx n k S).1) (S0 := S) hL (by omega) hk hsub (n + 1) 1 (serL tx n k S).1 (serL tx n k S).2 Ix2 hP2 (LpI.one (serL_nice tx n k S)) (by omega) (by omega) (fun h => ((LpI.one (serL_nice tx n k S)).2 h).2.2.2.1) (by omega) ?_
  intro last' J hJ hFJ
  have hLE : lpG tx n cAlt (fun S => serL tx n k (advP S)) (n + 1) 1 (serL tx n k S).1 (serL tx n k S).2 = (lstP tx n cAlt (fun S => serL tx n k (advP S)) (serL tx n k S)) := rfl
  rw [hLE] at hJ ⊢
  have hwE := RP.wl hJ
  refine V_ld (pc := 61) dX11_alternatives_61 (v := vr 30) rfl rfl ?_
  refine V_getIv (pc := 62) dX11_alternatives_62 (v := J 30 8) fw_RX11_128 rfl hL.t30 rfl (fun g62 => ?_)
  refine V_if_eq (pc := 65) dX11_alternatives_65 (tgt := 85) rfl (fun h65 => ?_) (fun h65 => ?_)
  · skip
    refine V_ld (pc := 85) dX11_alternatives_85 (v := vi ((serL tx n k S).1)) rfl rfl ?_
    refine V_reti (pc := 86) dX11_alternatives_86 trivial ?_
    have hnw : ¬ ((lstP tx n cAlt (fun S => serL tx n k (advP S)) (serL tx n k S)).2.1 = true ∧ 1 < (lstP tx n cAlt (fun S => serL tx n k (advP S)) (serL tx n k S)).1) := fun h => by
      rcases hwE with h2 | h2
      · have h3_ := h2.2; omega
      · rw [h2.1] at h; cases h.1
    have eA : altL tx n k S = ((serL tx n k S).1, (lstP tx n cAlt (fun S => serL tx n k (advP S)) (serL tx n k S)).2) := by rw [altL_eq]; unfold altP endP; exact if_neg hnw
    refine ⟨mI (wI m J), rfl, by rw [eA], ?_, (RFr.tr (RFr.tr RFr.rf hF2) hFJ)⟩
    rw [eA]
    exact hJ
  · skip
    refine V_ld (pc := 68) dX11_alternatives_68 (v := vi ((lstP tx n cAlt (fun S => serL tx n k (advP S)) (serL tx n k S)).1 : Int)) rfl rfl ?_
    refine V_iconst (pc := 70) dX11_alternatives_70 (by unfold I32; omega) ?_
    refine V_icmp_le (pc := 71) dX11_alternatives_71 (tgt := 85) rfl (fun h71 => ?_) (fun h71 => ?_)
    · skip
      refine V_ld (pc := 85) dX11_alternatives_85 (v := vi ((serL tx n k S).1)) rfl rfl ?_
      refine V_reti (pc := 86) dX11_alternatives_86 trivial ?_
      have hnw : ¬ ((lstP tx n cAlt (fun S => serL tx n k (advP S)) (serL tx n k S)).2.1 = true ∧ 1 < (lstP tx n cAlt (fun S => serL tx n k (advP S)) (serL tx n k S)).1) := fun h => by
        rcases hwE with h2 | h2
        · have h3_ := h2.2; omega
        · rw [h2.1] at h; cases h.1
      have eA : altL tx n k S = ((serL tx n k S).1, (lstP tx n cAlt (fun S => serL tx n k (advP S)) (serL tx n k S)).2) := by rw [altL_eq]; unfold altP endP; exact if_neg hnw
      refine ⟨mI (wI m J), rfl, by rw [eA], ?_, (RFr.tr (RFr.tr RFr.rf hF2) hFJ)⟩
      rw [eA]
      exact hJ
    · skip
      have hw : (lstP tx n cAlt (fun S => serL tx n k (advP S)) (serL tx n k S)).2.1 = true := (hwE.resolve_right (fun h => h65 h.2)).1
      have eA : altL tx n k S = rndP (lstP tx n cAlt (fun S => serL tx n k (advP S)) (serL tx n k S)).2 4 (serL tx n k S).1 (lstP tx n cAlt (fun S => serL tx n k (advP S)) (serL tx n k S)).1 := by rw [altL_eq]; unfold altP endP; exact if_pos ⟨hw, by omega⟩
      have hN := (altL_nice tx n k S).2 (by rw [eA]; exact hw)
      rw [eA] at hN
      obtain ⟨n1, n2, n3, n4, n5, n6, n7, n8⟩ := hN
      have n4' : (lstP tx n cAlt (fun S => serL tx n k (advP S)) (serL tx n k S)).2.2.2.1 + 1 + 1 + 2 * S.2.1 ≤ S.2.2.1 + 2 * (lstP tx n cAlt (fun S => serL tx n k (advP S)) (serL tx n k S)).2.2.1 := n4
      have n9 := hP.2.2.2.2.2.1 n1
      have n10 := hP.2.2.2.2.2.2.1
      have n11 := hJ.2.2.2.2.1
      have hch : chE (lstP tx n cAlt (fun S => serL tx n k (advP S)) (serL tx n k S)).2.2.2.2 ((lstP tx n cAlt (fun S => serL tx n k (advP S)) (serL tx n k S)).2.2.2.1 : Int) (lstP tx n cAlt (fun S => serL tx n k (advP S)) (serL tx n k S)).1 (serL tx n k S).1 := lst_ch (serL_nice tx n k) (cAlt_v (tx := tx) (n := n)) (serL_nice tx n k S) hw
      refine V_ld (pc := 74) dX11_alternatives_74 (v := vr 30) rfl rfl ?_
      refine V_iconst (pc := 75) dX11_alternatives_75 (by unfold I32; omega) ?_
      refine V_ld (pc := 76) dX11_alternatives_76 (v := vi ((serL tx n k S).1)) rfl rfl ?_
      refine V_ld (pc := 77) dX11_alternatives_77 (v := vi ((lstP tx n cAlt (fun S => serL tx n k (advP S)) (serL tx n k S)).1 : Int)) rfl rfl ?_
      refine V_callV (pc := 79) dX11_alternatives_79 (F' := 1) (As := [vi 4, vi ((serL tx n k S).1), vi ((lstP tx n cAlt (fun S => serL tx n k (advP S)) (serL tx n k S)).1 : Int)]) (st := []) cw_RX11_153 rfl rfl hL.t30 (by decide) (Nat.le_of_ble_eq_true rfl) (by omega) (r_round ((lstP tx n cAlt (fun S => serL tx n k (advP S)) (serL tx n k S)).2.2.2.2) ((lstP tx n cAlt (fun S => serL tx n k (advP S)) (serL tx n k S)).2.2.2.1) ((lstP tx n cAlt (fun S => serL tx n k (advP S)) (serL tx n k S)).1) (gT (lstP tx n cAlt (fun S => serL tx n k (advP S)) (serL tx n k S)).2.2.2.2 4 (serL tx n k S).1 (lstP tx n cAlt (fun S => serL tx n k (advP S)) (serL tx n k S)).1) (wI m J) 4 ((serL tx n k S).1) ((lstP tx n cAlt (fun S => serL tx n k (advP S)) (serL tx n k S)).1 : Int)   (by first | assumption | omega) ⟨hJ.2.2.2.1, by omega⟩ hJ.2.2.2.2.2.2.2.2 hch rfl) ?_
      rintro _ _ ⟨x79, rfl, Ix79, rfl, rfl, hT79, hc79, hF79⟩ ok79 le79
      refine V_goto (pc := 82) dX11_alternatives_82 (tgt := 86) rfl ?_
      refine V_reti (pc := 86) dX11_alternatives_86 trivial ?_
      refine ⟨mI (wI (wI m J) Ix79), rfl, by rw [eA]; rfl, ?_, (RFr.tr (RFr.tr (RFr.tr RFr.rf hF2) hFJ) (RFp.r hF79))⟩
      rw [eA]
      exact RP.rnd hJ (fun _ => by omega) hT79 hc79 hF79

theorem RAlt_all (tx : Nat → Int) (n : Nat) : ∀ k, RAlt tx n k
  | 0 => fun S m deep hL hP hk => r_alternatives tx n 0 S m deep hL hP hk (fun k_ h => by omega)
  | k + 1 => fun S m deep hL hP hk => r_alternatives tx n (k + 1) S m deep hL hP hk (fun k_ h => by
      obtain rfl : k = k_ := by omega
      exact RAlt_all tx n k)
