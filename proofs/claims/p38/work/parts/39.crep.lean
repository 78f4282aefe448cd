/-! the class reads: repetitions -/
theorem CP.mk {I J : Nat → Nat → Int} {r : Nat} {tx : Nat → Int} {n : Nat} {S : PS} {G : Tb} (h : CP I r tx n S) (hc : S.2.2.1 + 1 ≤ 2 * S.2.1) (hT : CTab J (r + 2) G (S.2.2.1 + 1)) (hJ : J (r + 1) 1 = (S.2.2.1 : Int) + 1) (hF : ∀ a p, a ≠ r + 2 → ¬ (a = r + 1 ∧ p = 1) → J a p = I a p) : CP J r tx n (S.1, S.2.1, S.2.2.1 + 1, G) := by
  obtain ⟨h1, h2, h3, h4, h5, h6, h7, h8, h9, h10, h11⟩ := h
  exact ⟨(hF _ _ (by omega) (by omega)).trans h1, (hF _ _ (by omega) (by omega)).trans h2, (hF _ _ (by omega) (by omega)).trans h3, hJ, h5, hc, h7, fun k hk => ⟨(hF _ _ (by omega) (by omega)).trans (h8 k hk).1, (h8 k hk).2⟩, hT, h10, h11⟩
theorem CTab.times {J : Nat → Nat → Int} {A c : Nat} {W : Tb} {lo hi mo v : Int} {d : Nat} (h : CTab J A (up2 (up2 (up2 W c 3 lo) c 4 hi) c 5 mo) d) : CTab J A (up2 (up2 (up2 (up2 W c 11 v) c 3 lo) c 4 hi) c 5 mo) d := by
  intro p w hp hw
  have h0 := h p w hp hw
  rw [h0]
  unfold up2
  rw [if_neg (show ¬ (p = c ∧ w = 11) from by omega)]
def tmP (tx : Nat → Int) (n : Nat) (Q : PS) (a lo hi : Int) : Int × PS := if cS tx n Q = 63 then timesP (advP Q) a lo hi 0 else timesP Q a lo hi 1
def mbP (tx : Nat → Int) (n : Nat) (S : PS) (lo : Int) : Int × PS := if cS tx n S = 125 then (100, S) else ((numP tx n S).1, if (numP tx n S).2.1 = true ∧ ((numP tx n S).1 = 0 ∨ (numP tx n S).1 < lo) then badAt (numP tx n S).2 S.2.1 else (numP tx n S).2)
theorem mb_nn (tx : Nat → Int) (n : Nat) (S : PS) (lo : Int) : 0 ≤ (mbP tx n S lo).1 := by
  unfold mbP
  by_cases h : cS tx n S = 125
  · rw [if_pos h]; show (0 : Int) ≤ 100; decide
  · rw [if_neg h]; exact (num_fact tx n S).2.1
theorem mb_fact (tx : Nat → Int) (n : Nat) (S : PS) (lo : Int) : (mbP tx n S lo).2.2.2 = S.2.2 ∧ (S.2.1 ≤ n → (mbP tx n S lo).2.2.1 ≤ n) ∧ ((mbP tx n S lo).2.1 = true → S.2.1 ≤ (mbP tx n S lo).2.2.1 ∧ (mbP tx n S lo).1 ≤ 100) := by
  unfold mbP
  obtain ⟨n1, n2, n3, n4, n5⟩ := num_fact tx n S
  by_cases h : cS tx n S = 125
  · rw [if_pos h]; exact ⟨rfl, fun h => h, fun _ => ⟨Nat.le_refl _, by show (100 : Int) ≤ 100; decide⟩⟩
  · rw [if_neg h]
    by_cases h2 : (numP tx n S).2.1 = true ∧ ((numP tx n S).1 = 0 ∨ (numP tx n S).1 < lo)
    · simp only [if_pos h2]
      unfold badAt
      rw [if_pos h2.1]
      exact ⟨n4, fun h => h, fun h => by cases h⟩
    · simp only [if_neg h2]
      exact ⟨n4, n1, fun h => ⟨Nat.le_of_lt (n5 h).2, by omega⟩⟩
def bndE (tx : Nat → Int) (n : Nat) (Q : PS) (a lo hi : Int) : Int × PS := if cS tx n Q = 125 then tmP tx n (advP Q) a lo hi else (-5, badP Q)
def bndP (tx : Nat → Int) (n : Nat) (S : PS) (a : Int) : Int × PS :=
  if (numP tx n S).2.1 = true then
    (if cS tx n (numP tx n S).2 = 44 then
      (if (mbP tx n (advP (numP tx n S).2) (numP tx n S).1).2.1 = true then bndE tx n (mbP tx n (advP (numP tx n S).2) (numP tx n S).1).2 a (numP tx n S).1 (mbP tx n (advP (numP tx n S).2) (numP tx n S).1).1 else (-5, (mbP tx n (advP (numP tx n S).2) (numP tx n S).1).2))
    else (if (numP tx n S).1 = 0 then (-5, badP (numP tx n S).2) else bndE tx n (numP tx n S).2 a (numP tx n S).1 (numP tx n S).1))
  else (-5, (numP tx n S).2)
theorem COut.Lq {I : Nat → Nat → Int} {r : Nat} {tx : Nat → Int} {n : Nat} {R R' : Int × PS} {x : Int} (h : COut I r tx n R x) (hq : Lq tx n false R R') : COut I r tx n R' x := by
  rcases hq with rfl | hq
  · exact h
  · rcases h with h | h
    · rw [hq.2.2.resolve_right (fun e => by cases e.1)] at h; cases h.1
    · exact Or.inr ⟨hq.1, h.2.1, h.2.2.trans (by rw [hq.2.1])⟩
theorem num_dead {tx : Nat → Int} {n : Nat} {S : PS} (h : S.1 = false) : (numP tx n S).2 = S := by
  rw [num0 (by unfold isDg; rw [cS_dead h]; omega)]; exact bad_dead h
theorem bnd_Lq {tx : Nat → Int} {n : Nat} {A : Int × PS} (h : cS tx n A.2 = 123) : Lq tx n false (bndP tx n (advP A.2) A.1) (repP tx n A) := by
  have e0 : repP tx n A = if (curlP tx n A.2).2.2.1 = true then tmP tx n (curlP tx n A.2).2.2 A.1 (curlP tx n A.2).1 (curlP tx n A.2).2.1 else (-5, (curlP tx n A.2).2.2) := by
    unfold repP quantP tmP
    rw [if_pos (by omega), if_pos h]
  rw [e0]
  have kE : ∀ (Q : PS) (lo hi : Int), Q.1 = true → ∀ C : Int × Int × PS, C = (lo, hi, takeP tx n Q 125) → bndE tx n Q A.1 lo hi = (if C.2.2.1 = true then tmP tx n C.2.2 A.1 C.1 C.2.1 else (-5, C.2.2)) := by
    rintro Q lo hi hw C rfl
    unfold bndE takeP
    by_cases c : cS tx n Q = 125
    · simp only [if_pos c]
      rw [if_pos (show (advP Q).1 = true from hw)]
    · simp only [if_neg c]
      rfl
  have kB : ∀ (X C : PS) (lo hi y : Int), C.1 = false → X.2.1 = C.2.1 → X.1 = false → Lq tx n false ((y, X) : Int × PS) (if C.1 = true then tmP tx n C A.1 lo hi else (-5, C)) := by
    intro X C lo hi y h1 h2 h3
    rw [if_neg (by rw [h1]; exact Bool.false_ne_true)]
    exact Or.inr ⟨h1, h2, Or.inl h3⟩
  unfold bndP
  by_cases w : (numP tx n (advP A.2)).2.1 = true
  · rw [if_pos w]
    by_cases c : cS tx n (numP tx n (advP A.2)).2 = 44
    · rw [if_pos c]
      have hcl : curlP tx n A.2 = if isDg (cS tx n (advP (numP tx n (advP A.2)).2)) then ((numP tx n (advP A.2)).1, (numP tx n (advP (numP tx n (advP A.2)).2)).1, takeP tx n (if (numP tx n (advP (numP tx n (advP A.2)).2)).1 = 0 ∨ (numP tx n (advP (numP tx n (advP A.2)).2)).1 < (numP tx n (advP A.2)).1 then badAt (numP tx n (advP (numP tx n (advP A.2)).2)).2 (advP (numP tx n (advP A.2)).2).2.1 else (numP tx n (advP (numP tx n (advP A.2)).2)).2) 125) else ((numP tx n (advP A.2)).1, 100, takeP tx n (advP (numP tx n (advP A.2)).2) 125) := by
        unfold curlP
        rw [if_pos c]
      have wU : (advP (numP tx n (advP A.2)).2).1 = true := w
      generalize advP (numP tx n (advP A.2)).2 = U at *
      generalize (numP tx n (advP A.2)).1 = lo at *
      unfold mbP
      by_cases d : cS tx n U = 125
      · simp only [if_pos d]
        rw [if_pos wU]
        rw [if_neg (by unfold isDg; omega)] at hcl
        exact Or.inl (kE U lo 100 wU _ hcl)
      · simp only [if_neg d]
        by_cases g : isDg (cS tx n U)
        · rw [if_pos g] at hcl
          have wq : (numP tx n U).2.1 = true := by
            by_cases g2 : isDg (cS tx n (advP U))
            · rw [num2 g g2]; exact wU
            · rw [num1 g g2]; exact wU
          by_cases b : (numP tx n U).1 = 0 ∨ (numP tx n U).1 < lo
          · rw [if_pos b] at hcl
            simp only [if_pos (show (numP tx n U).2.1 = true ∧ ((numP tx n U).1 = 0 ∨ (numP tx n U).1 < lo) from ⟨wq, b⟩)]
            have hb : (badAt (numP tx n U).2 U.2.1).1 = false := by unfold badAt; rw [if_pos wq]
            rw [if_neg (by rw [hb]; exact Bool.false_ne_true), hcl, take_dead (by decide) hb]
            exact kB _ _ _ _ _ hb rfl hb
          · rw [if_neg b] at hcl
            simp only [if_neg (show ¬ ((numP tx n U).2.1 = true ∧ ((numP tx n U).1 = 0 ∨ (numP tx n U).1 < lo)) from fun h => b h.2)]
            rw [if_pos wq]
            exact Or.inl (kE _ _ _ wq _ hcl)
        · rw [if_neg g] at hcl
          have e1 : numP tx n U = (0, badP U) := num0 g
          have e2 : (if (numP tx n U).2.1 = true ∧ ((numP tx n U).1 = 0 ∨ (numP tx n U).1 < lo) then badAt (numP tx n U).2 U.2.1 else (numP tx n U).2) = badP U := by
            rw [if_neg (fun h => by rw [e1] at h; cases h.1), e1]
          rw [e2]
          have hb : (badP U).1 = false := rfl
          rw [if_neg (by rw [hb]; exact Bool.false_ne_true), hcl]
          have ht : takeP tx n U 125 = badP U := by unfold takeP; rw [if_neg d]
          rw [ht]
          exact kB _ _ _ _ _ rfl rfl rfl
    · rw [if_neg c]
      have hcl : curlP tx n A.2 = ((numP tx n (advP A.2)).1, (numP tx n (advP A.2)).1, takeP tx n (if (numP tx n (advP A.2)).1 = 0 then badP (numP tx n (advP A.2)).2 else (numP tx n (advP A.2)).2) 125) := by
        unfold curlP
        rw [if_neg c]
      by_cases z : (numP tx n (advP A.2)).1 = 0
      · rw [if_pos z] at hcl ⊢
        rw [hcl, take_dead (by decide) rfl]
        exact kB _ _ _ _ _ rfl rfl rfl
      · rw [if_neg z] at hcl ⊢
        exact Or.inl (kE _ _ _ w _ hcl)
  · rw [if_neg w]
    have w' : (numP tx n (advP A.2)).2.1 = false := Bool.eq_false_iff.mpr w
    have hcl : curlP tx n A.2 = ((numP tx n (advP A.2)).1, (numP tx n (advP A.2)).1, takeP tx n (if (numP tx n (advP A.2)).1 = 0 then badP (numP tx n (advP A.2)).2 else (numP tx n (advP A.2)).2) 125) := by
      unfold curlP
      rw [if_neg (by rw [cS_dead w']; decide)]
    have e1 : (if (numP tx n (advP A.2)).1 = 0 then badP (numP tx n (advP A.2)).2 else (numP tx n (advP A.2)).2) = (numP tx n (advP A.2)).2 := by
      by_cases z : (numP tx n (advP A.2)).1 = 0
      · rw [if_pos z, bad_dead w']
      · rw [if_neg z]
    rw [e1, take_dead (by decide) w'] at hcl
    rw [hcl]
    exact kB _ _ _ _ _ w' rfl w'

set_option maxHeartbeats 4000000 in
theorem c_mostBehind (tx : Nat → Int) (n : Nat) (S : PS) (m : Mem) (r : Nat) (lo : Int)   (hL : Lay (mT m) (mR m)) (hQ : PLay m r n) (hP : CP (mI m) r tx n S) : Ct μX5_mostBehind 2 [vr r, vi lo] m (ri fun x_ m' => ∃ I_ : Nat → Nat → Int, wI m I_ = m' ∧ (CFr r (mI m) I_) ∧ COut I_ r tx n (mbP tx n S lo) x_) := by
  refine Ct_of_V rfl (by decide) rfl (Nat.le_of_ble_eq_true rfl) ?_
  show V μX5_mostBehind 2 m _ 0 [(0, vr r), (1, vi lo)] [] m
  refine V_rg (k := 1) (x := lo) rfl fun r_lo => ?_
  obtain ⟨hcr0, hcr1⟩ := hP.cr
  have hn120 := hP.2.2.2.2.2.2.1
  have hb0 := hP.2.2.2.2.1
  have hb1 := hP.2.2.2.2.2.1
  have hr59 := hQ.1
  refine V_ld (pc := 0) dX5_mostBehind_0 (v := vr r) rfl rfl ?_
  refine V_bipush (pc := 1) dX5_mostBehind_1 (by unfold I32; omega) (by decide) ?_
  refine V_callV (pc := 3) dX5_mostBehind_3 (F' := 1) (As := [vi 125]) (st := []) cw_RX5_49 rfl rfl hQ.2.1 (by decide) (Nat.le_of_ble_eq_true rfl) (by omega) (c_comes tx n S m r 125   (by first | assumption | omega) hQ hP (by decide)) ?_
  rintro _ _ ⟨x3, rfl, hx3, rfl⟩ ok3 le3
  refine V_if_eq (pc := 6) dX5_mostBehind_6 (tgt := 12) rfl (fun h6 => ?_) (fun h6 => ?_)
  · skip
    refine V_ld (pc := 12) dX5_mostBehind_12 (v := vr r) rfl rfl ?_
    refine V_getIv (pc := 13) dX5_mostBehind_13 (v := (S.2.1 : Int)) fw_RX5_37 rfl hQ.2.1 hP.2.1 (fun g13 => ?_)
    refine V_st (pc := 16) dX5_mostBehind_16 (ls' := [(2, vi (S.2.1 : Int)), (0, vr r), (1, vi lo)]) rfl (Nat.le_of_ble_eq_true rfl) rfl ?_
    refine V_ld (pc := 17) dX5_mostBehind_17 (v := vr r) rfl rfl ?_
    refine V_callV (pc := 18) dX5_mostBehind_18 (F' := 1) (As := []) (st := []) cw_RX5_89 rfl rfl hQ.2.1 (by decide) (Nat.le_of_ble_eq_true rfl) (by omega) (c_pnumber tx n S m r   (by first | assumption | omega) hQ hP) ?_
    rintro _ _ ⟨x18, rfl, Ix18, rfl, hF18, (⟨hw18, rfl, hP18⟩ | ⟨hw18, rfl, hf18⟩)⟩ ok18 le18
    · skip
      have hn18 : 0 ≤ (numP tx n S).1 := (num_fact tx n S).2.1
      have hb18 := hP18.2.2.2.2.1
      refine V_st (pc := 21) dX5_mostBehind_21 (ls' := [(3, vi ((numP tx n S).1)), (2, vi (S.2.1 : Int)), (0, vr r), (1, vi lo)]) rfl (Nat.le_of_ble_eq_true rfl) rfl ?_
      refine V_ld (pc := 22) dX5_mostBehind_22 (v := vi ((numP tx n S).1)) rfl rfl ?_
      refine V_if_lt (pc := 23) dX5_mostBehind_23 (tgt := 43) rfl (fun h23 => ?_) (fun h23 => ?_)
      · skip
        refine V_ld (pc := 43) dX5_mostBehind_43 (v := vi ((numP tx n S).1)) rfl rfl ?_
        refine V_reti (pc := 44) dX5_mostBehind_44 trivial ?_
        first
          | (exfalso; omega)
          | (have e_ : mbP tx n S lo = ((numP tx n S).1, if (numP tx n S).2.1 = true ∧ ((numP tx n S).1 = 0 ∨ (numP tx n S).1 < lo) then badAt (numP tx n S).2 S.2.1 else (numP tx n S).2) := if_neg (by omega)
             rw [if_neg (fun h => by omega)] at e_
             refine ⟨mI (wI m Ix18), rfl, (CFr.tr CFr.rf hF18), Or.inl ?_⟩
             rw [e_]
             exact ⟨hw18, rfl, hP18⟩)
      · skip
        refine V_ld (pc := 26) dX5_mostBehind_26 (v := vi ((numP tx n S).1)) rfl rfl ?_
        refine V_if_eq (pc := 27) dX5_mostBehind_27 (tgt := 35) rfl (fun h27 => ?_) (fun h27 => ?_)
        · skip
          refine V_ld (pc := 35) dX5_mostBehind_35 (v := vr r) rfl rfl ?_
          refine V_ld (pc := 36) dX5_mostBehind_36 (v := vi (S.2.1 : Int)) rfl rfl ?_
          refine V_callV (pc := 37) dX5_mostBehind_37 (F' := 0) (As := [vi (S.2.1 : Int)]) (st := []) cw_RX5_40 rfl rfl hQ.2.1 (by decide) (Nat.le_of_ble_eq_true rfl) (by omega) (c_failed n (wI m Ix18) r (S.2.1 : Int)   hQ) ?_
          rintro _ _ ⟨x37, rfl, Ix37, rfl, rfl, hI37, hF37⟩ ok37 le37
          refine V_goto (pc := 40) dX5_mostBehind_40 (tgt := 44) rfl ?_
          refine V_reti (pc := 44) dX5_mostBehind_44 trivial ?_
          first
            | (exfalso; omega)
            | (have e_ : mbP tx n S lo = ((numP tx n S).1, if (numP tx n S).2.1 = true ∧ ((numP tx n S).1 = 0 ∨ (numP tx n S).1 < lo) then badAt (numP tx n S).2 S.2.1 else (numP tx n S).2) := if_neg (by omega)
               rw [if_pos ⟨hw18, by omega⟩] at e_
               have hb_ : badAt (numP tx n S).2 S.2.1 = (false, S.2.1, (numP tx n S).2.2.2) := by unfold badAt; rw [if_pos hw18]
               rw [hb_] at e_
               refine ⟨mI (wI (wI m Ix18) Ix37), rfl, (CFr.tr (CFr.tr CFr.rf hF18) hF37), Or.inr ?_⟩
               rw [e_]
               exact ⟨rfl, rfl, hI37.trans (if_pos hP18.2.2.1)⟩)
        · skip
          refine V_ld (pc := 30) dX5_mostBehind_30 (v := vi ((numP tx n S).1)) rfl rfl ?_
          refine V_ld (pc := 31) dX5_mostBehind_31 (v := vi lo) rfl rfl ?_
          refine V_icmp_ge (pc := 32) dX5_mostBehind_32 (tgt := 43) rfl (fun h32 => ?_) (fun h32 => ?_)
          · skip
            refine V_ld (pc := 43) dX5_mostBehind_43 (v := vi ((numP tx n S).1)) rfl rfl ?_
            refine V_reti (pc := 44) dX5_mostBehind_44 trivial ?_
            first
              | (exfalso; omega)
              | (have e_ : mbP tx n S lo = ((numP tx n S).1, if (numP tx n S).2.1 = true ∧ ((numP tx n S).1 = 0 ∨ (numP tx n S).1 < lo) then badAt (numP tx n S).2 S.2.1 else (numP tx n S).2) := if_neg (by omega)
                 rw [if_neg (fun h => by omega)] at e_
                 refine ⟨mI (wI m Ix18), rfl, (CFr.tr CFr.rf hF18), Or.inl ?_⟩
                 rw [e_]
                 exact ⟨hw18, rfl, hP18⟩)
          · skip
            refine V_ld (pc := 35) dX5_mostBehind_35 (v := vr r) rfl rfl ?_
            refine V_ld (pc := 36) dX5_mostBehind_36 (v := vi (S.2.1 : Int)) rfl rfl ?_
            refine V_callV (pc := 37) dX5_mostBehind_37 (F' := 0) (As := [vi (S.2.1 : Int)]) (st := []) cw_RX5_40 rfl rfl hQ.2.1 (by decide) (Nat.le_of_ble_eq_true rfl) (by omega) (c_failed n (wI m Ix18) r (S.2.1 : Int)   hQ) ?_
            rintro _ _ ⟨x37, rfl, Ix37, rfl, rfl, hI37, hF37⟩ ok37 le37
            refine V_goto (pc := 40) dX5_mostBehind_40 (tgt := 44) rfl ?_
            refine V_reti (pc := 44) dX5_mostBehind_44 trivial ?_
            first
              | (exfalso; omega)
              | (have e_ : mbP tx n S lo = ((numP tx n S).1, if (numP tx n S).2.1 = true ∧ ((numP tx n S).1 = 0 ∨ (numP tx n S).1 < lo) then badAt (numP tx n S).2 S.2.1 else (numP tx n S).2) := if_neg (by omega)
                 rw [if_pos ⟨hw18, by omega⟩] at e_
                 have hb_ : badAt (numP tx n S).2 S.2.1 = (false, S.2.1, (numP tx n S).2.2.2) := by unfold badAt; rw [if_pos hw18]
                 rw [hb_] at e_
                 refine ⟨mI (wI (wI m Ix18) Ix37), rfl, (CFr.tr (CFr.tr CFr.rf hF18) hF37), Or.inr ?_⟩
                 rw [e_]
                 exact ⟨rfl, rfl, hI37.trans (if_pos hP18.2.2.1)⟩)
    · skip
      refine V_st (pc := 21) dX5_mostBehind_21 (ls' := [(3, vi (-1)), (2, vi (S.2.1 : Int)), (0, vr r), (1, vi lo)]) rfl (Nat.le_of_ble_eq_true rfl) rfl ?_
      refine V_ld (pc := 22) dX5_mostBehind_22 (v := vi (-1)) rfl rfl ?_
      refine V_if_lt (pc := 23) dX5_mostBehind_23 (tgt := 43) rfl (fun _ => ?_) (fun h_ => absurd h_ (by decide))
      refine V_ld (pc := 43) dX5_mostBehind_43 (v := vi (-1)) rfl rfl ?_
      refine V_reti (pc := 44) dX5_mostBehind_44 trivial ?_
      have e_ : mbP tx n S lo = ((numP tx n S).1, if (numP tx n S).2.1 = true ∧ ((numP tx n S).1 = 0 ∨ (numP tx n S).1 < lo) then badAt (numP tx n S).2 S.2.1 else (numP tx n S).2) := if_neg (by omega)
      rw [if_neg (fun h => by rw [hw18] at h; cases h.1)] at e_
      refine ⟨mI (wI m Ix18), rfl, (CFr.tr CFr.rf hF18), Or.inr ?_⟩
      rw [e_]
      exact ⟨hw18, rfl, hf18⟩
  · skip
    refine V_bipush (pc := 9) dX5_mostBehind_9 (by unfold I32; omega) (by decide) ?_
    refine V_reti (pc := 11) dX5_mostBehind_11 trivial ?_
    have e_ : mbP tx n S lo = (100, S) := if_pos (by omega)
    refine ⟨mI m, rfl, CFr.rf, Or.inl ?_⟩
    rw [e_]
    exact ⟨hP.2.2.2.2.2.2.2.2.2.1, rfl, hP⟩

theorem CFr.ofA {r : Nat} {I J : Nat → Nat → Int} (hF : ∀ a p, a ≠ r + 2 → ¬ (a = r + 1 ∧ p = 1) → J a p = I a p) : CFr r I J := fun o k _ b c => hF o k c b

set_option maxHeartbeats 4000000 in
theorem c_repeated (tx : Nat → Int) (n : Nat) (S : PS) (m : Mem) (r : Nat) (a : Int) (lo : Int) (hi : Int)   (hL : Lay (mT m) (mR m)) (hQ : PLay m r n) (hP : CP (mI m) r tx n S) (hch : chE S.2.2.2 (S.2.2.1 : Int) 1 a) (hcn : S.2.2.1 + 1 ≤ 2 * S.2.1) : Ct μX5_repeated 3 [vr r, vi a, vi lo, vi hi] m (ri fun x_ m' => ∃ I_ : Nat → Nat → Int, wI m I_ = m' ∧ (CFr r (mI m) I_) ∧ COut I_ r tx n (tmP tx n S a lo hi) x_) := by
  refine Ct_of_V rfl (by decide) rfl (Nat.le_of_ble_eq_true rfl) ?_
  show V μX5_repeated 3 m _ 0 [(0, vr r), (1, vi a), (2, vi lo), (3, vi hi)] [] m
  refine V_rg (k := 1) (x := a) rfl fun r_a => ?_
  refine V_rg (k := 2) (x := lo) rfl fun r_lo => ?_
  refine V_rg (k := 3) (x := hi) rfl fun r_hi => ?_
  obtain ⟨hcr0, hcr1⟩ := hP.cr
  have hn120 := hP.2.2.2.2.2.2.1
  have hb0 := hP.2.2.2.2.1
  have hb1 := hP.2.2.2.2.2.1
  have hr59 := hQ.1
  refine V_iconst (pc := 0) dX5_repeated_0 (by unfold I32; omega) ?_
  refine V_st (pc := 1) dX5_repeated_1 (ls' := [(4, vi 1), (0, vr r), (1, vi a), (2, vi lo), (3, vi hi)]) rfl (Nat.le_of_ble_eq_true rfl) rfl ?_
  refine V_ld (pc := 3) dX5_repeated_3 (v := vr r) rfl rfl ?_
  refine V_bipush (pc := 4) dX5_repeated_4 (by unfold I32; omega) (by decide) ?_
  refine V_callV (pc := 6) dX5_repeated_6 (F' := 1) (As := [vi 63]) (st := []) cw_RX5_49 rfl rfl hQ.2.1 (by decide) (Nat.le_of_ble_eq_true rfl) (by omega) (c_comes tx n S m r 63   (by first | assumption | omega) hQ hP (by decide)) ?_
  rintro _ _ ⟨x6, rfl, hx6, rfl⟩ ok6 le6
  refine V_if_eq (pc := 9) dX5_repeated_9 (tgt := 25) rfl (fun h9 => ?_) (fun h9 => ?_)
  · skip
    have hcc := hP.2.2.2.2.1
    refine V_ld (pc := 25) dX5_repeated_25 (v := vr r) rfl rfl ?_
    refine V_getRv (pc := 26) dX5_repeated_26 (o' := (r + 1)) fw_RX5_29 rfl hQ.2.1 hQ.2.2.2.1 ?_
    refine V_ld (pc := 29) dX5_repeated_29 (v := vi a) rfl rfl ?_
    refine V_ld (pc := 30) dX5_repeated_30 (v := vi lo) rfl rfl ?_
    refine V_ld (pc := 31) dX5_repeated_31 (v := vi hi) rfl rfl ?_
    refine V_ld (pc := 32) dX5_repeated_32 (v := vi 1) rfl rfl ?_
    refine V_callV (pc := 34) dX5_repeated_34 (F' := 2) (As := [vi a, vi lo, vi hi, vi 1]) (st := []) cw_RX5_96 rfl rfl hQ.2.2.2.2.1 (by decide) (Nat.le_of_ble_eq_true rfl) (by omega) (c_addRep (18 * n) S.2.2.2 S.2.2.1 (gT S.2.2.2 5 a 1) m (r + 1) a lo hi 1 (r + 2)  hQ.2.2.2.2.1 hQ.2.2.2.2.2.1 hQ.2.2.2.2.2.2 (by omega) ⟨hP.2.2.2.1, by omega, by omega⟩ hP.2.2.2.2.2.2.2.2.1 hch) ?_
    rintro _ _ ⟨x34, rfl, Ix34, rfl, rfl, hT34, hc34, hF34⟩ ok34 le34
    refine V_reti (pc := 37) dX5_repeated_37 trivial ?_
    have e_ : tmP tx n S a lo hi = timesP S a lo hi 1 := if_neg (by omega)
    have hS_ : S.1 = true := hP.2.2.2.2.2.2.2.2.2.1
    refine ⟨mI (wI m Ix34), rfl, (CFr.tr CFr.rf (CFr.ofA hF34)), Or.inl ?_⟩
    rw [e_]
    exact ⟨hS_, rfl, CP.mk hP (by omega) (CTab.times hT34) hc34 hF34⟩
  · skip
    refine V_ld (pc := 12) dX5_repeated_12 (v := vr r) rfl rfl ?_
    refine V_dup (pc := 13) dX5_repeated_13 rfl ?_
    refine V_getIv (pc := 14) dX5_repeated_14 (v := (S.2.1 : Int)) fw_RX5_37 rfl hQ.2.1 hP.2.1 (fun g14 => ?_)
    refine V_iconst (pc := 17) dX5_repeated_17 (by unfold I32; omega) ?_
    refine V_iadd (pc := 18) dX5_repeated_18 (by unfold I32 at *; omega) ?_
    refine V_putI (pc := 19) dX5_repeated_19 fw_RX5_37 rfl hQ.2.1 (Or.inl rfl) (Or.inl rfl) ?_
    have hA22 : CP (mI (setI m r 2 ((S.2.1 : Int) + 1))) r tx n (advP S) := CP.adv hP rfl (cS_lt (tx := tx) (n := n) (S := S) (by omega)).2
    have ehA22 : (advP S).2.1 = S.2.1 + 1 := rfl
    have fhA22 : (advP S).2.2.1 = S.2.2.1 := rfl
    refine V_iconst (pc := 22) dX5_repeated_22 (by unfold I32; omega) ?_
    refine V_st (pc := 23) dX5_repeated_23 (ls' := [(4, vi 0), (0, vr r), (1, vi a), (2, vi lo), (3, vi hi)]) rfl (Nat.le_of_ble_eq_true rfl) rfl ?_
    have hcc := hA22.2.2.2.2.1
    refine V_ld (pc := 25) dX5_repeated_25 (v := vr r) rfl rfl ?_
    refine V_getRv (pc := 26) dX5_repeated_26 (o' := (r + 1)) fw_RX5_29 rfl hQ.2.1 hQ.2.2.2.1 ?_
    refine V_ld (pc := 29) dX5_repeated_29 (v := vi a) rfl rfl ?_
    refine V_ld (pc := 30) dX5_repeated_30 (v := vi lo) rfl rfl ?_
    refine V_ld (pc := 31) dX5_repeated_31 (v := vi hi) rfl rfl ?_
    refine V_ld (pc := 32) dX5_repeated_32 (v := vi 0) rfl rfl ?_
    refine V_callV (pc := 34) dX5_repeated_34 (F' := 2) (As := [vi a, vi lo, vi hi, vi 0]) (st := []) cw_RX5_96 rfl rfl hQ.2.2.2.2.1 (by decide) (Nat.le_of_ble_eq_true rfl) (by omega) (c_addRep (18 * n) ((advP S).2.2.2) ((advP S).2.2.1) (gT (advP S).2.2.2 5 a 1) (setI m r 2 ((S.2.1 : Int) + 1)) (r + 1) a lo hi 0 (r + 2)  hQ.2.2.2.2.1 hQ.2.2.2.2.2.1 hQ.2.2.2.2.2.2 (by omega) ⟨hA22.2.2.2.1, by omega, by omega⟩ hA22.2.2.2.2.2.2.2.2.1 hch) ?_
    rintro _ _ ⟨x34, rfl, Ix34, rfl, rfl, hT34, hc34, hF34⟩ ok34 le34
    refine V_reti (pc := 37) dX5_repeated_37 trivial ?_
    have e_ : tmP tx n S a lo hi = timesP (advP S) a lo hi 0 := if_pos (by omega)
    have hS_ : (advP S).1 = true := hA22.2.2.2.2.2.2.2.2.2.1
    refine ⟨mI (wI (setI m r 2 ((S.2.1 : Int) + 1)) Ix34), rfl, (CFr.tr (CFr.set CFr.rf (by omega)) (CFr.ofA hF34)), Or.inl ?_⟩
    rw [e_]
    exact ⟨hS_, rfl, CP.mk hA22 (by omega) (CTab.times hT34) hc34 hF34⟩

set_option maxHeartbeats 4000000 in
theorem c_bounded (tx : Nat → Int) (n : Nat) (S : PS) (m : Mem) (r : Nat) (a : Int)   (hL : Lay (mT m) (mR m)) (hQ : PLay m r n) (hP : CP (mI m) r tx n S) (hch : chE S.2.2.2 (S.2.2.1 : Int) 1 a) (hcn : S.2.2.1 + 1 ≤ 2 * S.2.1) : Ct μX5_bounded 4 [vr r, vi a] m (ri fun x_ m' => ∃ I_ : Nat → Nat → Int, wI m I_ = m' ∧ (CFr r (mI m) I_) ∧ COut I_ r tx n (bndP tx n S a) x_) := by
  refine Ct_of_V rfl (by decide) rfl (Nat.le_of_ble_eq_true rfl) ?_
  show V μX5_bounded 4 m _ 0 [(0, vr r), (1, vi a)] [] m
  refine V_rg (k := 1) (x := a) rfl fun r_a => ?_
  obtain ⟨hcr0, hcr1⟩ := hP.cr
  have hn120 := hP.2.2.2.2.2.2.1
  have hb0 := hP.2.2.2.2.1
  have hb1 := hP.2.2.2.2.2.1
  have hr59 := hQ.1
  refine V_ld (pc := 0) dX5_bounded_0 (v := vr r) rfl rfl ?_
  refine V_callV (pc := 1) dX5_bounded_1 (F' := 1) (As := []) (st := []) cw_RX5_89 rfl rfl hQ.2.1 (by decide) (Nat.le_of_ble_eq_true rfl) (by omega) (c_pnumber tx n S m r   (by first | assumption | omega) hQ hP) ?_
  rintro _ _ ⟨x1, rfl, Ix1, rfl, hF1, (⟨hw1, rfl, hP1⟩ | ⟨hw1, rfl, hf1⟩)⟩ ok1 le1
  · skip
    have hn1 : 0 ≤ (numP tx n S).1 := (num_fact tx n S).2.1
    have hb1 := hP1.2.2.2.2.1
    refine V_st (pc := 4) dX5_bounded_4 (ls' := [(2, vi ((numP tx n S).1)), (0, vr r), (1, vi a)]) rfl (Nat.le_of_ble_eq_true rfl) rfl ?_
    refine V_ld (pc := 5) dX5_bounded_5 (v := vi ((numP tx n S).1)) rfl rfl ?_
    refine V_if_ge (pc := 6) dX5_bounded_6 (tgt := 11) rfl (fun h6 => ?_) (fun h6 => ?_)
    · skip
      have nf1 := num_fact tx n S
      have nf2 := (nf1.2.2.2.2 hw1).2
      have nf3 := nf1.2.2.2.1
      refine V_ld (pc := 11) dX5_bounded_11 (v := vi ((numP tx n S).1)) rfl rfl ?_
      refine V_st (pc := 12) dX5_bounded_12 (ls' := [(3, vi ((numP tx n S).1)), (2, vi ((numP tx n S).1)), (0, vr r), (1, vi a)]) rfl (Nat.le_of_ble_eq_true rfl) rfl ?_
      refine V_ld (pc := 13) dX5_bounded_13 (v := vr r) rfl rfl ?_
      refine V_bipush (pc := 14) dX5_bounded_14 (by unfold I32; omega) (by decide) ?_
      refine V_callV (pc := 16) dX5_bounded_16 (F' := 1) (As := [vi 44]) (st := []) cw_RX5_49 rfl rfl hQ.2.1 (by decide) (Nat.le_of_ble_eq_true rfl) (by omega) (c_comes tx n ((numP tx n S).2) (wI m Ix1) r 44   (by first | assumption | omega) hQ hP1 (by decide)) ?_
      rintro _ _ ⟨x16, rfl, hx16, rfl⟩ ok16 le16
      refine V_if_eq (pc := 19) dX5_bounded_19 (tgt := 41) rfl (fun h19 => ?_) (fun h19 => ?_)
      · skip
        refine V_ld (pc := 41) dX5_bounded_41 (v := vi ((numP tx n S).1)) rfl rfl ?_
        refine V_if_ne (pc := 42) dX5_bounded_42 (tgt := 54) rfl (fun h42 => ?_) (fun h42 => ?_)
        · skip
          refine V_ld (pc := 54) dX5_bounded_54 (v := vi ((numP tx n S).1)) rfl rfl ?_
          refine V_if_lt (pc := 55) dX5_bounded_55 (tgt := 67) rfl (fun h55 => ?_) (fun h55 => ?_)
          · skip
            refine V_ld (pc := 67) dX5_bounded_67 (v := vr r) rfl rfl ?_
            refine V_ld (pc := 68) dX5_bounded_68 (v := vr r) rfl rfl ?_
            refine V_getIv (pc := 69) dX5_bounded_69 (v := ((numP tx n S).2.2.1 : Int)) fw_RX5_37 rfl hQ.2.1 hP1.2.1 (fun g69 => ?_)
            refine V_callV (pc := 72) dX5_bounded_72 (F' := 0) (As := [vi ((numP tx n S).2.2.1 : Int)]) (st := []) cw_RX5_40 rfl rfl hQ.2.1 (by decide) (Nat.le_of_ble_eq_true rfl) (by omega) (c_failed n (wI m Ix1) r ((numP tx n S).2.2.1 : Int)   hQ) ?_
            rintro _ _ ⟨x72, rfl, Ix72, rfl, rfl, hI72, hF72⟩ ok72 le72
            refine V_reti (pc := 75) dX5_bounded_75 trivial ?_
            first
              | (exfalso; omega)
              | (have e1_ : bndP tx n S a = if cS tx n (numP tx n S).2 = 44 then (if (mbP tx n (advP (numP tx n S).2) (numP tx n S).1).2.1 = true then bndE tx n (mbP tx n (advP (numP tx n S).2) (numP tx n S).1).2 a (numP tx n S).1 (mbP tx n (advP (numP tx n S).2) (numP tx n S).1).1 else (-5, (mbP tx n (advP (numP tx n S).2) (numP tx n S).1).2)) else (if (numP tx n S).1 = 0 then (-5, badP (numP tx n S).2) else bndE tx n (numP tx n S).2 a (numP tx n S).1 (numP tx n S).1) := if_pos hw1
                 rw [if_neg (by omega), if_neg (by omega)] at e1_
                 have e2_ : bndE tx n (numP tx n S).2 a (numP tx n S).1 (numP tx n S).1 = (-5, badP (numP tx n S).2) := if_neg (by omega)
                 rw [e2_] at e1_
                 refine ⟨mI (wI (wI m Ix1) Ix72), rfl, (CFr.tr (CFr.tr CFr.rf hF1) hF72), Or.inr ?_⟩
                 rw [e1_]
                 exact ⟨rfl, rfl, hI72.trans (if_pos hP1.2.2.1)⟩)
          · skip
            refine V_ld (pc := 58) dX5_bounded_58 (v := vr r) rfl rfl ?_
            refine V_bipush (pc := 59) dX5_bounded_59 (by unfold I32; omega) (by decide) ?_
            refine V_callV (pc := 61) dX5_bounded_61 (F' := 1) (As := [vi 125]) (st := []) cw_RX5_49 rfl rfl hQ.2.1 (by decide) (Nat.le_of_ble_eq_true rfl) (by omega) (c_comes tx n ((numP tx n S).2) (wI m Ix1) r 125   (by first | assumption | omega) hQ hP1 (by decide)) ?_
            rintro _ _ ⟨x61, rfl, hx61, rfl⟩ ok61 le61
            refine V_if_ne (pc := 64) dX5_bounded_64 (tgt := 76) rfl (fun h64 => ?_) (fun h64 => ?_)
            · skip
              refine V_ld (pc := 76) dX5_bounded_76 (v := vr r) rfl rfl ?_
              refine V_dup (pc := 77) dX5_bounded_77 rfl ?_
              refine V_getIv (pc := 78) dX5_bounded_78 (v := ((numP tx n S).2.2.1 : Int)) fw_RX5_37 rfl hQ.2.1 hP1.2.1 (fun g78 => ?_)
              refine V_iconst (pc := 81) dX5_bounded_81 (by unfold I32; omega) ?_
              refine V_iadd (pc := 82) dX5_bounded_82 (by unfold I32 at *; omega) ?_
              refine V_putI (pc := 83) dX5_bounded_83 fw_RX5_37 rfl hQ.2.1 (Or.inl rfl) (Or.inl rfl) ?_
              have hA86 : CP (mI (setI (wI m Ix1) r 2 (((numP tx n S).2.2.1 : Int) + 1))) r tx n (advP ((numP tx n S).2)) := CP.adv hP1 rfl (cS_lt (tx := tx) (n := n) (S := ((numP tx n S).2)) (by omega)).2
              have ehA86 : (advP ((numP tx n S).2)).2.1 = ((numP tx n S).2).2.1 + 1 := rfl
              have fhA86 : (advP ((numP tx n S).2)).2.2.1 = ((numP tx n S).2).2.2.1 := rfl
              refine V_ld (pc := 86) dX5_bounded_86 (v := vr r) rfl rfl ?_
              refine V_ld (pc := 87) dX5_bounded_87 (v := vi a) rfl rfl ?_
              refine V_ld (pc := 88) dX5_bounded_88 (v := vi ((numP tx n S).1)) rfl rfl ?_
              refine V_ld (pc := 89) dX5_bounded_89 (v := vi ((numP tx n S).1)) rfl rfl ?_
              refine V_callV (pc := 90) dX5_bounded_90 (F' := 3) (As := [vi a, vi ((numP tx n S).1), vi ((numP tx n S).1)]) (st := []) cw_RX5_73 rfl rfl hQ.2.1 (by decide) (Nat.le_of_ble_eq_true rfl) (by omega) (c_repeated tx n (advP ((numP tx n S).2)) (setI (wI m Ix1) r 2 (((numP tx n S).2.2.1 : Int) + 1)) r a ((numP tx n S).1) ((numP tx n S).1)   (by first | assumption | omega) hQ hA86 (by show chE (numP tx n S).2.2.2.2 ((numP tx n S).2.2.2.1 : Int) 1 a; rw [nf3]; exact hch) (by show (numP tx n S).2.2.2.1 + 1 ≤ 2 * ((numP tx n S).2.2.1 + 1); rw [nf3]; omega)) ?_
              rintro _ _ ⟨x90, rfl, Ix90, rfl, hx90, hO90⟩ ok90 le90
              refine V_reti (pc := 93) dX5_bounded_93 trivial ?_
              first
                | (exfalso; omega)
                | (have e1_ : bndP tx n S a = if cS tx n (numP tx n S).2 = 44 then (if (mbP tx n (advP (numP tx n S).2) (numP tx n S).1).2.1 = true then bndE tx n (mbP tx n (advP (numP tx n S).2) (numP tx n S).1).2 a (numP tx n S).1 (mbP tx n (advP (numP tx n S).2) (numP tx n S).1).1 else (-5, (mbP tx n (advP (numP tx n S).2) (numP tx n S).1).2)) else (if (numP tx n S).1 = 0 then (-5, badP (numP tx n S).2) else bndE tx n (numP tx n S).2 a (numP tx n S).1 (numP tx n S).1) := if_pos hw1
                   rw [if_neg (by omega), if_neg (by omega)] at e1_
                   have e2_ : bndE tx n (numP tx n S).2 a (numP tx n S).1 (numP tx n S).1 = tmP tx n (advP (numP tx n S).2) a (numP tx n S).1 (numP tx n S).1 := if_pos (by omega)
                   rw [e2_] at e1_
                   refine ⟨mI (wI (setI (wI m Ix1) r 2 (((numP tx n S).2.2.1 : Int) + 1)) Ix90), rfl, (CFr.tr (CFr.set (CFr.tr CFr.rf hF1) (by omega)) hx90), ?_⟩
                   rw [e1_]
                   exact hO90)
            · skip
              refine V_ld (pc := 67) dX5_bounded_67 (v := vr r) rfl rfl ?_
              refine V_ld (pc := 68) dX5_bounded_68 (v := vr r) rfl rfl ?_
              refine V_getIv (pc := 69) dX5_bounded_69 (v := ((numP tx n S).2.2.1 : Int)) fw_RX5_37 rfl hQ.2.1 hP1.2.1 (fun g69 => ?_)
              refine V_callV (pc := 72) dX5_bounded_72 (F' := 0) (As := [vi ((numP tx n S).2.2.1 : Int)]) (st := []) cw_RX5_40 rfl rfl hQ.2.1 (by decide) (Nat.le_of_ble_eq_true rfl) (by omega) (c_failed n (wI m Ix1) r ((numP tx n S).2.2.1 : Int)   hQ) ?_
              rintro _ _ ⟨x72, rfl, Ix72, rfl, rfl, hI72, hF72⟩ ok72 le72
              refine V_reti (pc := 75) dX5_bounded_75 trivial ?_
              first
                | (exfalso; omega)
                | (have e1_ : bndP tx n S a = if cS tx n (numP tx n S).2 = 44 then (if (mbP tx n (advP (numP tx n S).2) (numP tx n S).1).2.1 = true then bndE tx n (mbP tx n (advP (numP tx n S).2) (numP tx n S).1).2 a (numP tx n S).1 (mbP tx n (advP (numP tx n S).2) (numP tx n S).1).1 else (-5, (mbP tx n (advP (numP tx n S).2) (numP tx n S).1).2)) else (if (numP tx n S).1 = 0 then (-5, badP (numP tx n S).2) else bndE tx n (numP tx n S).2 a (numP tx n S).1 (numP tx n S).1) := if_pos hw1
                   rw [if_neg (by omega), if_neg (by omega)] at e1_
                   have e2_ : bndE tx n (numP tx n S).2 a (numP tx n S).1 (numP tx n S).1 = (-5, badP (numP tx n S).2) := if_neg (by omega)
                   rw [e2_] at e1_
                   refine ⟨mI (wI (wI m Ix1) Ix72), rfl, (CFr.tr (CFr.tr CFr.rf hF1) hF72), Or.inr ?_⟩
                   rw [e1_]
                   exact ⟨rfl, rfl, hI72.trans (if_pos hP1.2.2.1)⟩)
        · skip
          refine V_ld (pc := 45) dX5_bounded_45 (v := vr r) rfl rfl ?_
          refine V_ld (pc := 46) dX5_bounded_46 (v := vr r) rfl rfl ?_
          refine V_getIv (pc := 47) dX5_bounded_47 (v := ((numP tx n S).2.2.1 : Int)) fw_RX5_37 rfl hQ.2.1 hP1.2.1 (fun g47 => ?_)
          refine V_callV (pc := 50) dX5_bounded_50 (F' := 0) (As := [vi ((numP tx n S).2.2.1 : Int)]) (st := []) cw_RX5_40 rfl rfl hQ.2.1 (by decide) (Nat.le_of_ble_eq_true rfl) (by omega) (c_failed n (wI m Ix1) r ((numP tx n S).2.2.1 : Int)   hQ) ?_
          rintro _ _ ⟨x50, rfl, Ix50, rfl, rfl, hI50, hF50⟩ ok50 le50
          refine V_reti (pc := 53) dX5_bounded_53 trivial ?_
          first
            | (exfalso; omega)
            | (have e1_ : bndP tx n S a = if cS tx n (numP tx n S).2 = 44 then (if (mbP tx n (advP (numP tx n S).2) (numP tx n S).1).2.1 = true then bndE tx n (mbP tx n (advP (numP tx n S).2) (numP tx n S).1).2 a (numP tx n S).1 (mbP tx n (advP (numP tx n S).2) (numP tx n S).1).1 else (-5, (mbP tx n (advP (numP tx n S).2) (numP tx n S).1).2)) else (if (numP tx n S).1 = 0 then (-5, badP (numP tx n S).2) else bndE tx n (numP tx n S).2 a (numP tx n S).1 (numP tx n S).1) := if_pos hw1
               rw [if_neg (by omega), if_pos (by omega)] at e1_
               refine ⟨mI (wI (wI m Ix1) Ix50), rfl, (CFr.tr (CFr.tr CFr.rf hF1) hF50), Or.inr ?_⟩
               rw [e1_]
               exact ⟨rfl, rfl, hI50.trans (if_pos hP1.2.2.1)⟩)
      · skip
        skip
        refine V_ld (pc := 22) dX5_bounded_22 (v := vr r) rfl rfl ?_
        refine V_dup (pc := 23) dX5_bounded_23 rfl ?_
        refine V_getIv (pc := 24) dX5_bounded_24 (v := ((numP tx n S).2.2.1 : Int)) fw_RX5_37 rfl hQ.2.1 hP1.2.1 (fun g24 => ?_)
        refine V_iconst (pc := 27) dX5_bounded_27 (by unfold I32; omega) ?_
        refine V_iadd (pc := 28) dX5_bounded_28 (by unfold I32 at *; omega) ?_
        refine V_putI (pc := 29) dX5_bounded_29 fw_RX5_37 rfl hQ.2.1 (Or.inl rfl) (Or.inl rfl) ?_
        have hA32 : CP (mI (setI (wI m Ix1) r 2 (((numP tx n S).2.2.1 : Int) + 1))) r tx n (advP ((numP tx n S).2)) := CP.adv hP1 rfl (cS_lt (tx := tx) (n := n) (S := ((numP tx n S).2)) (by omega)).2
        have ehA32 : (advP ((numP tx n S).2)).2.1 = ((numP tx n S).2).2.1 + 1 := rfl
        have fhA32 : (advP ((numP tx n S).2)).2.2.1 = ((numP tx n S).2).2.2.1 := rfl
        refine V_ld (pc := 32) dX5_bounded_32 (v := vr r) rfl rfl ?_
        refine V_ld (pc := 33) dX5_bounded_33 (v := vi ((numP tx n S).1)) rfl rfl ?_
        refine V_callV (pc := 34) dX5_bounded_34 (F' := 2) (As := [vi ((numP tx n S).1)]) (st := []) cw_RX5_93 rfl rfl hQ.2.1 (by decide) (Nat.le_of_ble_eq_true rfl) (by omega) (c_mostBehind tx n (advP ((numP tx n S).2)) (setI (wI m Ix1) r 2 (((numP tx n S).2.2.1 : Int) + 1)) r ((numP tx n S).1)   (by first | assumption | omega) hQ hA32) ?_
        rintro _ _ ⟨x34, rfl, Ix34, rfl, hF34, (⟨hw34, rfl, hP34⟩ | ⟨hw34, rfl, hf34⟩)⟩ ok34 le34
        · skip
          have hn34 : 0 ≤ (mbP tx n (advP ((numP tx n S).2)) ((numP tx n S).1)).1 := mb_nn tx n (advP ((numP tx n S).2)) ((numP tx n S).1)
          have hb34 := hP34.2.2.2.2.1
          refine V_st (pc := 37) dX5_bounded_37 (ls' := [(3, vi ((mbP tx n (advP ((numP tx n S).2)) ((numP tx n S).1)).1)), (2, vi ((numP tx n S).1)), (0, vr r), (1, vi a)]) rfl (Nat.le_of_ble_eq_true rfl) rfl ?_
          refine V_goto (pc := 38) dX5_bounded_38 (tgt := 54) rfl ?_
          refine V_ld (pc := 54) dX5_bounded_54 (v := vi ((mbP tx n (advP ((numP tx n S).2)) ((numP tx n S).1)).1)) rfl rfl ?_
          refine V_if_lt (pc := 55) dX5_bounded_55 (tgt := 67) rfl (fun h55 => ?_) (fun h55 => ?_)
          · skip
            refine V_ld (pc := 67) dX5_bounded_67 (v := vr r) rfl rfl ?_
            refine V_ld (pc := 68) dX5_bounded_68 (v := vr r) rfl rfl ?_
            refine V_getIv (pc := 69) dX5_bounded_69 (v := ((mbP tx n (advP ((numP tx n S).2)) ((numP tx n S).1)).2.2.1 : Int)) fw_RX5_37 rfl hQ.2.1 hP34.2.1 (fun g69 => ?_)
            refine V_callV (pc := 72) dX5_bounded_72 (F' := 0) (As := [vi ((mbP tx n (advP ((numP tx n S).2)) ((numP tx n S).1)).2.2.1 : Int)]) (st := []) cw_RX5_40 rfl rfl hQ.2.1 (by decide) (Nat.le_of_ble_eq_true rfl) (by omega) (c_failed n (wI (setI (wI m Ix1) r 2 (((numP tx n S).2.2.1 : Int) + 1)) Ix34) r ((mbP tx n (advP ((numP tx n S).2)) ((numP tx n S).1)).2.2.1 : Int)   hQ) ?_
            rintro _ _ ⟨x72, rfl, Ix72, rfl, rfl, hI72, hF72⟩ ok72 le72
            refine V_reti (pc := 75) dX5_bounded_75 trivial ?_
            first
              | (exfalso; omega)
              | (have e1_ : bndP tx n S a = if cS tx n (numP tx n S).2 = 44 then (if (mbP tx n (advP (numP tx n S).2) (numP tx n S).1).2.1 = true then bndE tx n (mbP tx n (advP (numP tx n S).2) (numP tx n S).1).2 a (numP tx n S).1 (mbP tx n (advP (numP tx n S).2) (numP tx n S).1).1 else (-5, (mbP tx n (advP (numP tx n S).2) (numP tx n S).1).2)) else (if (numP tx n S).1 = 0 then (-5, badP (numP tx n S).2) else bndE tx n (numP tx n S).2 a (numP tx n S).1 (numP tx n S).1) := if_pos hw1
                 rw [if_pos (by omega), if_pos hw34] at e1_
                 have e2_ : bndE tx n (mbP tx n (advP (numP tx n S).2) (numP tx n S).1).2 a (numP tx n S).1 (mbP tx n (advP (numP tx n S).2) (numP tx n S).1).1 = (-5, badP (mbP tx n (advP (numP tx n S).2) (numP tx n S).1).2) := if_neg (by omega)
                 rw [e2_] at e1_
                 refine ⟨mI (wI (wI (setI (wI m Ix1) r 2 (((numP tx n S).2.2.1 : Int) + 1)) Ix34) Ix72), rfl, (CFr.tr (CFr.tr (CFr.set (CFr.tr CFr.rf hF1) (by omega)) hF34) hF72), Or.inr ?_⟩
                 rw [e1_]
                 exact ⟨rfl, rfl, hI72.trans (if_pos hP34.2.2.1)⟩)
          · skip
            refine V_ld (pc := 58) dX5_bounded_58 (v := vr r) rfl rfl ?_
            refine V_bipush (pc := 59) dX5_bounded_59 (by unfold I32; omega) (by decide) ?_
            refine V_callV (pc := 61) dX5_bounded_61 (F' := 1) (As := [vi 125]) (st := []) cw_RX5_49 rfl rfl hQ.2.1 (by decide) (Nat.le_of_ble_eq_true rfl) (by omega) (c_comes tx n ((mbP tx n (advP ((numP tx n S).2)) ((numP tx n S).1)).2) (wI (setI (wI m Ix1) r 2 (((numP tx n S).2.2.1 : Int) + 1)) Ix34) r 125   (by first | assumption | omega) hQ hP34 (by decide)) ?_
            rintro _ _ ⟨x61, rfl, hx61, rfl⟩ ok61 le61
            refine V_if_ne (pc := 64) dX5_bounded_64 (tgt := 76) rfl (fun h64 => ?_) (fun h64 => ?_)
            · skip
              refine V_ld (pc := 76) dX5_bounded_76 (v := vr r) rfl rfl ?_
              refine V_dup (pc := 77) dX5_bounded_77 rfl ?_
              refine V_getIv (pc := 78) dX5_bounded_78 (v := ((mbP tx n (advP ((numP tx n S).2)) ((numP tx n S).1)).2.2.1 : Int)) fw_RX5_37 rfl hQ.2.1 hP34.2.1 (fun g78 => ?_)
              refine V_iconst (pc := 81) dX5_bounded_81 (by unfold I32; omega) ?_
              refine V_iadd (pc := 82) dX5_bounded_82 (by unfold I32 at *; omega) ?_
              refine V_putI (pc := 83) dX5_bounded_83 fw_RX5_37 rfl hQ.2.1 (Or.inl rfl) (Or.inl rfl) ?_
              have hA86 : CP (mI (setI (wI (setI (wI m Ix1) r 2 (((numP tx n S).2.2.1 : Int) + 1)) Ix34) r 2 (((mbP tx n (advP ((numP tx n S).2)) ((numP tx n S).1)).2.2.1 : Int) + 1))) r tx n (advP ((mbP tx n (advP ((numP tx n S).2)) ((numP tx n S).1)).2)) := CP.adv hP34 rfl (cS_lt (tx := tx) (n := n) (S := ((mbP tx n (advP ((numP tx n S).2)) ((numP tx n S).1)).2)) (by omega)).2
              have ehA86 : (advP ((mbP tx n (advP ((numP tx n S).2)) ((numP tx n S).1)).2)).2.1 = ((mbP tx n (advP ((numP tx n S).2)) ((numP tx n S).1)).2).2.1 + 1 := rfl
              have fhA86 : (advP ((mbP tx n (advP ((numP tx n S).2)) ((numP tx n S).1)).2)).2.2.1 = ((mbP tx n (advP ((numP tx n S).2)) ((numP tx n S).1)).2).2.2.1 := rfl
              refine V_ld (pc := 86) dX5_bounded_86 (v := vr r) rfl rfl ?_
              refine V_ld (pc := 87) dX5_bounded_87 (v := vi a) rfl rfl ?_
              refine V_ld (pc := 88) dX5_bounded_88 (v := vi ((numP tx n S).1)) rfl rfl ?_
              refine V_ld (pc := 89) dX5_bounded_89 (v := vi ((mbP tx n (advP ((numP tx n S).2)) ((numP tx n S).1)).1)) rfl rfl ?_
              refine V_callV (pc := 90) dX5_bounded_90 (F' := 3) (As := [vi a, vi ((numP tx n S).1), vi ((mbP tx n (advP ((numP tx n S).2)) ((numP tx n S).1)).1)]) (st := []) cw_RX5_73 rfl rfl hQ.2.1 (by decide) (Nat.le_of_ble_eq_true rfl) (by omega) (c_repeated tx n (advP ((mbP tx n (advP ((numP tx n S).2)) ((numP tx n S).1)).2)) (setI (wI (setI (wI m Ix1) r 2 (((numP tx n S).2.2.1 : Int) + 1)) Ix34) r 2 (((mbP tx n (advP ((numP tx n S).2)) ((numP tx n S).1)).2.2.1 : Int) + 1)) r a ((numP tx n S).1) ((mbP tx n (advP ((numP tx n S).2)) ((numP tx n S).1)).1)   (by first | assumption | omega) hQ hA86 (by show chE (mbP tx n (advP (numP tx n S).2) (numP tx n S).1).2.2.2.2 ((mbP tx n (advP (numP tx n S).2) (numP tx n S).1).2.2.2.1 : Int) 1 a; rw [show (mbP tx n (advP (numP tx n S).2) (numP tx n S).1).2.2.2 = S.2.2 from (mb_fact tx n _ _).1.trans nf3]; exact hch) (by have h1_ := ((mb_fact tx n (advP (numP tx n S).2) (numP tx n S).1).2.2 hw34).1; have h2_ : (advP (numP tx n S).2).2.1 = (numP tx n S).2.2.1 + 1 := rfl; show (mbP tx n (advP (numP tx n S).2) (numP tx n S).1).2.2.2.1 + 1 ≤ 2 * ((mbP tx n (advP (numP tx n S).2) (numP tx n S).1).2.2.1 + 1); rw [show (mbP tx n (advP (numP tx n S).2) (numP tx n S).1).2.2.2 = S.2.2 from (mb_fact tx n _ _).1.trans nf3]; omega)) ?_
              rintro _ _ ⟨x90, rfl, Ix90, rfl, hx90, hO90⟩ ok90 le90
              refine V_reti (pc := 93) dX5_bounded_93 trivial ?_
              first
                | (exfalso; omega)
                | (have e1_ : bndP tx n S a = if cS tx n (numP tx n S).2 = 44 then (if (mbP tx n (advP (numP tx n S).2) (numP tx n S).1).2.1 = true then bndE tx n (mbP tx n (advP (numP tx n S).2) (numP tx n S).1).2 a (numP tx n S).1 (mbP tx n (advP (numP tx n S).2) (numP tx n S).1).1 else (-5, (mbP tx n (advP (numP tx n S).2) (numP tx n S).1).2)) else (if (numP tx n S).1 = 0 then (-5, badP (numP tx n S).2) else bndE tx n (numP tx n S).2 a (numP tx n S).1 (numP tx n S).1) := if_pos hw1
                   rw [if_pos (by omega), if_pos hw34] at e1_
                   have e2_ : bndE tx n (mbP tx n (advP (numP tx n S).2) (numP tx n S).1).2 a (numP tx n S).1 (mbP tx n (advP (numP tx n S).2) (numP tx n S).1).1 = tmP tx n (advP (mbP tx n (advP (numP tx n S).2) (numP tx n S).1).2) a (numP tx n S).1 (mbP tx n (advP (numP tx n S).2) (numP tx n S).1).1 := if_pos (by omega)
                   rw [e2_] at e1_
                   refine ⟨mI (wI (setI (wI (setI (wI m Ix1) r 2 (((numP tx n S).2.2.1 : Int) + 1)) Ix34) r 2 (((mbP tx n (advP ((numP tx n S).2)) ((numP tx n S).1)).2.2.1 : Int) + 1)) Ix90), rfl, (CFr.tr (CFr.set (CFr.tr (CFr.set (CFr.tr CFr.rf hF1) (by omega)) hF34) (by omega)) hx90), ?_⟩
                   rw [e1_]
                   exact hO90)
            · skip
              refine V_ld (pc := 67) dX5_bounded_67 (v := vr r) rfl rfl ?_
              refine V_ld (pc := 68) dX5_bounded_68 (v := vr r) rfl rfl ?_
              refine V_getIv (pc := 69) dX5_bounded_69 (v := ((mbP tx n (advP ((numP tx n S).2)) ((numP tx n S).1)).2.2.1 : Int)) fw_RX5_37 rfl hQ.2.1 hP34.2.1 (fun g69 => ?_)
              refine V_callV (pc := 72) dX5_bounded_72 (F' := 0) (As := [vi ((mbP tx n (advP ((numP tx n S).2)) ((numP tx n S).1)).2.2.1 : Int)]) (st := []) cw_RX5_40 rfl rfl hQ.2.1 (by decide) (Nat.le_of_ble_eq_true rfl) (by omega) (c_failed n (wI (setI (wI m Ix1) r 2 (((numP tx n S).2.2.1 : Int) + 1)) Ix34) r ((mbP tx n (advP ((numP tx n S).2)) ((numP tx n S).1)).2.2.1 : Int)   hQ) ?_
              rintro _ _ ⟨x72, rfl, Ix72, rfl, rfl, hI72, hF72⟩ ok72 le72
              refine V_reti (pc := 75) dX5_bounded_75 trivial ?_
              first
                | (exfalso; omega)
                | (have e1_ : bndP tx n S a = if cS tx n (numP tx n S).2 = 44 then (if (mbP tx n (advP (numP tx n S).2) (numP tx n S).1).2.1 = true then bndE tx n (mbP tx n (advP (numP tx n S).2) (numP tx n S).1).2 a (numP tx n S).1 (mbP tx n (advP (numP tx n S).2) (numP tx n S).1).1 else (-5, (mbP tx n (advP (numP tx n S).2) (numP tx n S).1).2)) else (if (numP tx n S).1 = 0 then (-5, badP (numP tx n S).2) else bndE tx n (numP tx n S).2 a (numP tx n S).1 (numP tx n S).1) := if_pos hw1
                   rw [if_pos (by omega), if_pos hw34] at e1_
                   have e2_ : bndE tx n (mbP tx n (advP (numP tx n S).2) (numP tx n S).1).2 a (numP tx n S).1 (mbP tx n (advP (numP tx n S).2) (numP tx n S).1).1 = (-5, badP (mbP tx n (advP (numP tx n S).2) (numP tx n S).1).2) := if_neg (by omega)
                   rw [e2_] at e1_
                   refine ⟨mI (wI (wI (setI (wI m Ix1) r 2 (((numP tx n S).2.2.1 : Int) + 1)) Ix34) Ix72), rfl, (CFr.tr (CFr.tr (CFr.set (CFr.tr CFr.rf hF1) (by omega)) hF34) hF72), Or.inr ?_⟩
                   rw [e1_]
                   exact ⟨rfl, rfl, hI72.trans (if_pos hP34.2.2.1)⟩)
        · skip
          refine V_st (pc := 37) dX5_bounded_37 (ls' := [(3, vi (-1)), (2, vi ((numP tx n S).1)), (0, vr r), (1, vi a)]) rfl (Nat.le_of_ble_eq_true rfl) rfl ?_
          refine V_goto (pc := 38) dX5_bounded_38 (tgt := 54) rfl ?_
          refine V_ld (pc := 54) dX5_bounded_54 (v := vi (-1)) rfl rfl ?_
          refine V_if_lt (pc := 55) dX5_bounded_55 (tgt := 67) rfl (fun _ => ?_) (fun h_ => absurd h_ (by decide))
          refine V_ld (pc := 67) dX5_bounded_67 (v := vr r) rfl rfl ?_
          refine V_ld (pc := 68) dX5_bounded_68 (v := vr r) rfl rfl ?_
          refine V_getIv (pc := 69) dX5_bounded_69 (v := mI (wI (setI (wI m Ix1) r 2 (((numP tx n S).2.2.1 : Int) + 1)) Ix34) r 2) fw_RX5_37 rfl hQ.2.1 rfl (fun g69 => ?_)
          refine V_callV (pc := 72) dX5_bounded_72 (F' := 0) (As := [vi (mI (wI (setI (wI m Ix1) r 2 (((numP tx n S).2.2.1 : Int) + 1)) Ix34) r 2)]) (st := []) cw_RX5_40 rfl rfl hQ.2.1 (by decide) (Nat.le_of_ble_eq_true rfl) (by omega) (c_failed n (wI (setI (wI m Ix1) r 2 (((numP tx n S).2.2.1 : Int) + 1)) Ix34) r (mI (wI (setI (wI m Ix1) r 2 (((numP tx n S).2.2.1 : Int) + 1)) Ix34) r 2)   hQ) ?_
          rintro _ _ ⟨x72, rfl, Ix72, rfl, rfl, hI72, hF72⟩ ok72 le72
          refine V_reti (pc := 75) dX5_bounded_75 trivial ?_
          have e1_ : bndP tx n S a = if cS tx n (numP tx n S).2 = 44 then (if (mbP tx n (advP (numP tx n S).2) (numP tx n S).1).2.1 = true then bndE tx n (mbP tx n (advP (numP tx n S).2) (numP tx n S).1).2 a (numP tx n S).1 (mbP tx n (advP (numP tx n S).2) (numP tx n S).1).1 else (-5, (mbP tx n (advP (numP tx n S).2) (numP tx n S).1).2)) else (if (numP tx n S).1 = 0 then (-5, badP (numP tx n S).2) else bndE tx n (numP tx n S).2 a (numP tx n S).1 (numP tx n S).1) := if_pos hw1
          rw [if_pos (by omega), if_neg (by rw [hw34]; exact Bool.false_ne_true)] at e1_
          refine ⟨mI (wI (wI (setI (wI m Ix1) r 2 (((numP tx n S).2.2.1 : Int) + 1)) Ix34) Ix72), rfl, (CFr.tr (CFr.tr (CFr.set (CFr.tr CFr.rf hF1) (by omega)) hF34) hF72), Or.inr ?_⟩
          rw [e1_]
          exact ⟨hw34, rfl, hI72.trans ((if_neg (fun h_ => by have h1_ : Ix34 r 3 = -1 := h_; omega)).trans hf34)⟩
    · skip
      refine V_iconst (pc := 9) dX5_bounded_9 (by unfold I32; omega) ?_
      refine V_reti (pc := 10) dX5_bounded_10 trivial ?_
      exfalso; omega
  · skip
    refine V_st (pc := 4) dX5_bounded_4 (ls' := [(2, vi (-1)), (0, vr r), (1, vi a)]) rfl (Nat.le_of_ble_eq_true rfl) rfl ?_
    refine V_ld (pc := 5) dX5_bounded_5 (v := vi (-1)) rfl rfl ?_
    refine V_if_ge (pc := 6) dX5_bounded_6 (tgt := 11) rfl (fun h_ => absurd h_ (by decide)) (fun _ => ?_)
    refine V_iconst (pc := 9) dX5_bounded_9 (by unfold I32; omega) ?_
    refine V_reti (pc := 10) dX5_bounded_10 trivial ?_
    have e_ : bndP tx n S a = (-5, (numP tx n S).2) := if_neg (by rw [hw1]; exact Bool.false_ne_true)
    refine ⟨mI (wI m Ix1), rfl, (CFr.tr CFr.rf hF1), Or.inr ?_⟩
    rw [e_]
    exact ⟨hw1, rfl, hf1⟩
