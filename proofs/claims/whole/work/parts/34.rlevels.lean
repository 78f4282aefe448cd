/-! the reference reads: the levels of a pattern -/
theorem RP.leaf {I J : Nat → Nat → Int} {tx : Nat → Int} {n : Nat} {S : PS} {so le v : Int} (h : RP I tx n S) (h1 : S.1 = true) (hlt : S.2.1 < n) (hk : MkP I J S.2.2.1 so) (hv : v = (S.2.1 : Int) + 1) : RP (up2 (up2 J 36 S.2.2.1 le) 30 7 v) tx n (leafP S so le).2 := by
  obtain ⟨a1, a2, a3, a4, a5, a6, a7, a8, a9⟩ := h
  obtain ⟨h1', e0, e1, e3, e4, e5, e2, e7, e8, e6, e9⟩ := hk
  have a6' := a6 h1
  refine ⟨?_, ?_, ?_, ?_, ?_, fun _ => ?_, a7, fun k hk => ?_, ?_⟩
  · exact (h1' 30 6 (by omega) (by omega)).trans a1
  · show v = ((S.2.1 + 1 : Nat) : Int); omega
  · exact (h1' 30 8 (by omega) (by omega)).trans a3
  · show J 30 9 = ((S.2.2.1 + 1 : Nat) : Int); rw [e9]; rfl
  · show S.2.1 + 1 ≤ n; omega
  · show S.2.2.1 + 1 ≤ 2 * (S.2.1 + 1); omega
  · exact ⟨(h1' 34 k (by omega) (by omega)).trans (a8 k hk).1, (a8 k hk).2⟩
  · refine RTab.mk a9 (fun a p _ _ hp => ?_) ?_ ?_ ?_ ?_ ?_ ?_ ?_ ?_ ?_
    · rw [up2_no (by omega), up2_nk (by omega)]; exact h1' a p (by omega) (by omega)
    · rw [up2_no (by decide), up2_no (by decide)]; exact e0
    · rw [up2_no (by decide), up2_s]
    · rw [up2_no (by decide), up2_no (by decide)]; exact e2
    · rw [up2_no (by decide), up2_no (by decide)]; exact e3
    · rw [up2_no (by decide), up2_no (by decide)]; exact e4
    · rw [up2_no (by decide), up2_no (by decide)]; exact e5
    · rw [up2_no (by decide), up2_no (by decide)]; exact e6
    · rw [up2_no (by decide), up2_no (by decide)]; exact e7
    · rw [up2_no (by decide), up2_no (by decide)]; exact e8
theorem up2_id {I : Nat → Nat → Int} {o k : Nat} {v : Int} (h : I o k = v) : up2 I o k v = I := by
  funext a b
  unfold up2
  by_cases e : a = o ∧ b = k
  · obtain ⟨rfl, rfl⟩ := e; rw [if_pos ⟨rfl, rfl⟩, h]
  · rw [if_neg e]
theorem RP.leaf5 {I J : Nat → Nat → Int} {tx : Nat → Int} {n : Nat} {S : PS} {so v : Int} (h : RP I tx n S) (h1 : S.1 = true) (hlt : S.2.1 < n) (hk : MkP I J S.2.2.1 so) (hv : v = (S.2.1 : Int) + 1) : RP (up2 J 30 7 v) tx n (leafP S so (-5)).2 := by
  have := RP.leaf (le := -5) h h1 hlt hk hv
  rw [up2_id hk.2.2.1] at this
  exact this
theorem RP.lnk {I : Nat → Nat → Int} {tx : Nat → Int} {n : Nat} {S : PS} {l x : Int} (h : RP I tx n S) : RP (up2 I 42 l.toNat x) tx n (lnkP S l x) := by
  obtain ⟨a1, a2, a3, a4, a5, a6, a7, a8, a9⟩ := h
  exact ⟨a1, a2, a3, a4, a5, a6, a7, a8, RTab.wr (w := 8) a9 (by decide)⟩
theorem RP.rnd {I J : Nat → Nat → Int} {tx : Nat → Int} {n : Nat} {S : PS} {so k : Int} {q : Nat} (h : RP I tx n S) (hc : S.1 = true → S.2.2.1 + 1 ≤ 2 * S.2.1) (hT : RTab J (wiT q k S.2.2.1 (mkT S.2.2.2 S.2.2.1 so (-5) (q : Int) k (gT S.2.2.2 so k q))) (S.2.2.1 + 1)) (h9 : J 30 9 = (S.2.2.1 : Int) + 1) (hF : RFp I J) : RP J tx n (rndP S so k q).2 := by
  obtain ⟨a1, a2, a3, a4, a5, a6, a7, a8, a9⟩ := h
  exact ⟨(hF 30 6 (by omega) (by omega)).trans a1, (hF 30 7 (by omega) (by omega)).trans a2, (hF 30 8 (by omega) (by omega)).trans a3, h9, a5, hc, a7, fun k hk => ⟨(hF 34 k (by omega) (by omega)).trans (a8 k hk).1, (a8 k hk).2⟩, hT⟩
theorem RP.c240 {I : Nat → Nat → Int} {tx : Nat → Int} {n : Nat} {S : PS} (h : RP I tx n S) (h1 : S.1 = true) : S.2.2.1 ≤ 240 := by
  obtain ⟨a1, a2, a3, a4, a5, a6, a7, a8, a9⟩ := h
  have := a6 h1
  omega
theorem RP.wl {I : Nat → Nat → Int} {tx : Nat → Int} {n : Nat} {S : PS} (h : RP I tx n S) : (S.1 = true ∧ I 30 8 = 1) ∨ (S.1 = false ∧ I 30 8 = 0) := by
  have := h.2.2.1
  cases hS : S.1 with
  | true => rw [hS] at this; exact Or.inl ⟨rfl, this⟩
  | false => rw [hS] at this; exact Or.inr ⟨rfl, this⟩

def RAlt (tx : Nat → Int) (n k : Nat) : Prop := ∀ (S : PS) (m : Mem) (deep : Int)   (hL : Lay (mT m) (mR m)) (hP : RP (mI m) tx n S) (hk : deep + (k : Int) = 5), Ct μX11_alternatives (6 + 5 * k) [vr 30, vi deep] m (ri fun x_ m' => ∃ I_ : Nat → Nat → Int, wI m I_ = m' ∧ (x_ = (altL tx n k S).1) ∧ RP I_ tx n (altL tx n k S).2 ∧ RFr (mI m) I_)

theorem lst_ch {tx : Nat → Int} {n : Nat} {cond : Int → Nat → Prop} [∀ x q, Decidable (cond x q)] {g : PS → Int × PS} {vv : PS → PS} (hg : ∀ S, Nice n S (g S)) (hv : ∀ (U : PS) (q : Nat), cond (cS tx n U) q → U.1 = true ∧ U.2.1 ≤ (vv U).2.1 ∧ (vv U).2.1 ≤ n ∧ (vv U).2.2 = U.2.2) {S : PS} {R : Int × PS} (hR : Nice n S R) (hw : (lstP tx n cond (fun S => g (vv S)) R).2.1 = true) : chE (lstP tx n cond (fun S => g (vv S)) R).2.2.2.2 ((lstP tx n cond (fun S => g (vv S)) R).2.2.2.1 : Int) (lstP tx n cond (fun S => g (vv S)) R).1 R.1 := by
  obtain ⟨l', hl⟩ := (lpG_nice (tx := tx) (cond := cond) (g := g) (vv := vv) hg hv (n + 1) 1 _ _ (LpI.one hR)).2 hw
  obtain ⟨h1, h2, h3, h4, h5, h6, h7⟩ := hl.2 hw
  exact Pth.chE (by omega) h5 h6
theorem cAny_v {tx : Nat → Int} {n : Nat} (U : PS) (q : Nat) (hc : cAny (cS tx n U) q) : U.1 = true ∧ U.2.1 ≤ (advP U).2.1 ∧ (advP U).2.1 ≤ n ∧ (advP U).2.2 = U.2.2 := by
  have := cS_lt (tx := tx) (n := n) (S := U) (by unfold cAny at hc; omega)
  exact ⟨this.1, Nat.le_succ _, this.2, rfl⟩
theorem cAlt_v {tx : Nat → Int} {n : Nat} (U : PS) (q : Nat) (hc : cAlt (cS tx n U) q) : U.1 = true ∧ U.2.1 ≤ (advP U).2.1 ∧ (advP U).2.1 ≤ n ∧ (advP U).2.2 = U.2.2 := by
  have := cS_lt (tx := tx) (n := n) (S := U) (by unfold cAlt at hc; omega)
  exact ⟨this.1, Nat.le_succ _, this.2, rfl⟩
theorem cSer_v {tx : Nat → Int} {n : Nat} (U : PS) (q : Nat) (hc : cSer (cS tx n U) q) : U.1 = true ∧ U.2.1 ≤ (id U).2.1 ∧ (id U).2.1 ≤ n ∧ (id U).2.2 = U.2.2 := by
  have := cS_lt (tx := tx) (n := n) (S := U) (by unfold cSer isAt1 at hc; omega)
  exact ⟨this.1, Nat.le_refl _, Nat.le_of_lt this.2, rfl⟩

set_option maxHeartbeats 8000000 in
theorem L_any {F : Nat} {m0 m : Mem} {post : Option AV → Mem → Prop} {tx : Nat → Int} {n k : Nat} {deep one k0 : Int} {S0 : PS} (hL : Lay (mT m) (mR m)) (hFF : (6 + 5 * k) < F) (hk : deep + 1 + (k : Int) = 5) (hsub : RAlt tx n k) : ∀ (f q : Nat) (last : Int) (S : PS) (I : Nat → Nat → Int), RP I tx n S → LpI n S0 k0 q last S → 1 ≤ q → q ≤ 200 → (S.1 = true → q ≤ S.2.1) → n + 1 ≤ S.2.1 + f → (∀ last' J, RP J tx n (lpG tx n cAny (fun S => altL tx n k (advP S)) f q last S).2 → RFr I J → V μX11_anyParts F m0 post 87 [(4, vi ((lpG tx n cAny (fun S => altL tx n k (advP S)) f q last S).1 : Int)), (3, vi last'), (0, vr 30), (1, vi deep), (2, vi one)] [] (wI m J)) → V μX11_anyParts F m0 post 29 [(4, vi (q : Int)), (3, vi last), (0, vr 30), (1, vi deep), (2, vi one)] [] (wI m I) := by
  intro f
  induction f with
  | zero =>
    intro q last S I hP hI hq1 hq2 hq3 hf kx
    have hfz := hP.2.2.2.2.1
    omega
  | succ f ih =>
    intro q last S I hP hI hq1 hq2 hq3 hf kx
    have hn120 := hP.2.2.2.2.2.2.1
    have ew : (lpG tx n cAny (fun S => altL tx n k (advP S)) (f + 1) q last S) = (if cAny (cS tx n S) q then (if (altL tx n k (advP S)).2.1 = true then (lpG tx n cAny (fun S => altL tx n k (advP S)) f (q + 1) (altL tx n k (advP S)).1 (lnkP (altL tx n k (advP S)).2 last (altL tx n k (advP S)).1)) else (q, (altL tx n k (advP S)).2)) else (q, S)) := rfl
    refine V_rg (k := 1) (x := deep) rfl fun rr1 => ?_
    refine V_ld (pc := 29) dX11_anyParts_29 (v := vi (q : Int)) rfl rfl ?_
    refine V_iconst (pc := 31) dX11_anyParts_31 (by unfold I32; omega) ?_
    refine V_icmp_ge (pc := 32) dX11_anyParts_32 (tgt := 87) rfl (fun h32 => ?_) (fun h32 => ?_)
    · skip
      skip
      have hc : ¬ cAny (cS tx n S) q := by unfold cAny at *; omega
      have h_ := kx last I (by rw [ew, if_neg hc]; exact hP) RFr.rf
      rw [ew, if_neg hc] at h_
      skip
      exact h_
    · skip
      refine V_ld (pc := 35) dX11_anyParts_35 (v := vr 30) rfl rfl ?_
      refine V_bipush (pc := 36) dX11_anyParts_36 (by unfold I32; omega) (by decide) ?_
      refine V_callV (pc := 38) dX11_anyParts_38 (F' := 0) (As := [vi 44]) (st := []) cw_RX11_132 rfl rfl hL.t30 (by decide) (Nat.le_of_ble_eq_true rfl) (by omega) (r_isAt tx n S (wI m I) 44   (by first | assumption | omega) hP (by decide)) ?_
      rintro _ _ ⟨xt, rfl, hxt, rfl⟩ ok38 le38
      refine V_if_eq (pc := 41) dX11_anyParts_41 (tgt := 87) rfl (fun h41 => ?_) (fun h41 => ?_)
      · skip
        skip
        have hc : ¬ cAny (cS tx n S) q := by unfold cAny at *; omega
        have h_ := kx last I (by rw [ew, if_neg hc]; exact hP) RFr.rf
        rw [ew, if_neg hc] at h_
        skip
        exact h_
      · skip
        skip
        have hc : cAny (cS tx n S) q := by unfold cAny at *; omega
        obtain ⟨hS1, hSl⟩ := cS_lt (tx := tx) (n := n) (S := S) (by omega)
        obtain ⟨l1, l2, l3, l4, l5, l6, l7⟩ := hI.2 hS1
        have l8 := Pth.bd l5
        have l9 := RP.c240 hP hS1
        have l10 := hq3 hS1
        refine V_ld (pc := 44) dX11_anyParts_44 (v := vr 30) rfl rfl ?_
        refine V_dup (pc := 45) dX11_anyParts_45 rfl ?_
        refine V_getIv (pc := 46) dX11_anyParts_46 (v := (S.2.1 : Int)) fw_RX11_125 rfl hL.t30 hP.2.1 (fun g46 => ?_)
        refine V_iconst (pc := 49) dX11_anyParts_49 (by unfold I32; omega) ?_
        refine V_iadd (pc := 50) dX11_anyParts_50 (by unfold I32 at *; omega) ?_
        refine V_putI (pc := 51) dX11_anyParts_51 fw_RX11_125 rfl hL.t30 (Or.inl rfl) (Or.inl rfl) ?_
        have hPa : RP (mI (setI (wI m I) 30 7 ((S.2.1 : Int) + 1))) tx n (advP S) := RP.adv hP (congrArg (fun z => z + 1) hP.2.1.symm) (show I 30 7 < I 30 6 from by have h1_ := hP.1; have h2_ := hP.2.1; omega)
        refine V_ld (pc := 54) dX11_anyParts_54 (v := vr 30) rfl rfl ?_
        refine V_ld (pc := 55) dX11_anyParts_55 (v := vi deep) rfl rfl ?_
        refine V_iconst (pc := 56) dX11_anyParts_56 (by unfold I32; omega) ?_
        refine V_iadd (pc := 57) dX11_anyParts_57 (by unfold I32 at *; omega) ?_
        refine V_callV (pc := 58) dX11_anyParts_58 (F' := (6 + 5 * k)) (As := [vi (deep + 1)]) (st := []) cw_RX11_150 rfl rfl hL.t30 (by decide) (Nat.le_of_ble_eq_true rfl) (by omega) (hsub (advP S) (setI (wI m I) 30 7 ((S.2.1 : Int) + 1)) (deep + 1)   (by first | assumption | omega) hPa (by omega)) ?_
        rintro _ _ ⟨x58, rfl, Ix58, rfl, rfl, hP58, hF58⟩ ok58 le58
        have hw58 := RP.wl hP58
        have hB58 := hP58.2.2.2.2.1
        refine V_st (pc := 61) dX11_anyParts_61 (ls' := [(5, vi ((altL tx n k (advP S)).1)), (4, vi (q : Int)), (3, vi last), (0, vr 30), (1, vi deep), (2, vi one)]) rfl (Nat.le_of_ble_eq_true rfl) rfl ?_
        refine V_ld (pc := 63) dX11_anyParts_63 (v := vr 30) rfl rfl ?_
        refine V_getIv (pc := 64) dX11_anyParts_64 (v := Ix58 30 8) fw_RX11_128 rfl hL.t30 rfl (fun g64 => ?_)
        refine V_if_eq (pc := 67) dX11_anyParts_67 (tgt := 84) rfl (fun h67 => ?_) (fun h67 => ?_)
        · skip
          refine V_goto (pc := 84) dX11_anyParts_84 (tgt := 29) rfl ?_
          have hdead : (altL tx n k (advP S)).2.1 = false := (hw58.resolve_left (fun h => by have := h.2; omega)).1
          have hcd := cS_dead (tx := tx) (n := n) hdead
          refine V_ld (pc := 29) dX11_anyParts_29 (v := vi (q : Int)) rfl rfl ?_
          refine V_iconst (pc := 31) dX11_anyParts_31 (by unfold I32; omega) ?_
          refine V_icmp_ge (pc := 32) dX11_anyParts_32 (tgt := 87) rfl (fun h32 => ?_) (fun h32 => ?_)
          · skip
            skip
            first
              | (exfalso; omega)
              | (have hnw : ¬ (altL tx n k (advP S)).2.1 = true := by rw [hdead]; exact Bool.false_ne_true
                 have h_ := kx last Ix58 (by rw [ew, if_pos hc, if_neg hnw]; exact hP58) (RFr.tr (RFr.set RFr.rf (by omega)) hF58)
                 rw [ew, if_pos hc, if_neg hnw] at h_
                 refine V_ls (ls' := [(4, vi (q : Int)), (3, vi last), (0, vr 30), (1, vi deep), (2, vi one)]) (by intro q_ h_; simp only [List.mem_cons, List.not_mem_nil, or_false] at h_ ⊢; rcases h_ with rfl | rfl | rfl | rfl | rfl <;> simp) ?_
                 exact h_)
          · skip
            refine V_ld (pc := 35) dX11_anyParts_35 (v := vr 30) rfl rfl ?_
            refine V_bipush (pc := 36) dX11_anyParts_36 (by unfold I32; omega) (by decide) ?_
            refine V_callV (pc := 38) dX11_anyParts_38 (F' := 0) (As := [vi 44]) (st := []) cw_RX11_132 rfl rfl hL.t30 (by decide) (Nat.le_of_ble_eq_true rfl) (by omega) (r_isAt tx n ((altL tx n k (advP S)).2) (wI (setI (wI m I) 30 7 ((S.2.1 : Int) + 1)) Ix58) 44   (by first | assumption | omega) hP58 (by decide)) ?_
            rintro _ _ ⟨xd, rfl, hxd, rfl⟩ ok38 le38
            refine V_if_eq (pc := 41) dX11_anyParts_41 (tgt := 87) rfl (fun h41 => ?_) (fun h41 => ?_)
            · skip
              skip
              first
                | (exfalso; omega)
                | (have hnw : ¬ (altL tx n k (advP S)).2.1 = true := by rw [hdead]; exact Bool.false_ne_true
                   have h_ := kx last Ix58 (by rw [ew, if_pos hc, if_neg hnw]; exact hP58) (RFr.tr (RFr.set RFr.rf (by omega)) hF58)
                   rw [ew, if_pos hc, if_neg hnw] at h_
                   refine V_ls (ls' := [(4, vi (q : Int)), (3, vi last), (0, vr 30), (1, vi deep), (2, vi one)]) (by intro q_ h_; simp only [List.mem_cons, List.not_mem_nil, or_false] at h_ ⊢; rcases h_ with rfl | rfl | rfl | rfl | rfl <;> simp) ?_
                   exact h_)
            · skip
              exfalso; omega
        · skip
          have hw : (altL tx n k (advP S)).2.1 = true := (hw58.resolve_right (fun h => h67 h.2)).1
          obtain ⟨g1, g2, g3, g4, g5, g6, g7, g8⟩ := (altL_nice tx n k (advP S)).2 hw
          have g9 : (advP S).2.1 = S.2.1 + 1 := rfl
          refine V_ld (pc := 70) dX11_anyParts_70 (v := vr 30) rfl rfl ?_
          refine V_getRv (pc := 71) dX11_anyParts_71 (o' := 42) fw_RX11_45 rfl hL.t30 hL.r30_17 ?_
          refine V_ld (pc := 74) dX11_anyParts_74 (v := vi last) rfl rfl ?_
          refine V_ld (pc := 75) dX11_anyParts_75 (v := vi ((altL tx n k (advP S)).1)) rfl rfl ?_
          refine V_iast (pc := 77) dX11_anyParts_77 hL.t42 (by omega) ?_
          refine V_ld (pc := 78) dX11_anyParts_78 (v := vi ((altL tx n k (advP S)).1)) rfl rfl ?_
          refine V_st (pc := 80) dX11_anyParts_80 (ls' := [(3, vi ((altL tx n k (advP S)).1)), (5, vi ((altL tx n k (advP S)).1)), (4, vi (q : Int)), (0, vr 30), (1, vi deep), (2, vi one)]) rfl (Nat.le_of_ble_eq_true rfl) rfl ?_
          refine V_iinc (pc := 81) dX11_anyParts_81 (x := (q : Int)) (ls' := [(4, vi ((q : Int) + 1)), (3, vi ((altL tx n k (advP S)).1)), (5, vi ((altL tx n k (advP S)).1)), (0, vr 30), (1, vi deep), (2, vi one)]) rfl (by unfold I32 at *; omega) (Nat.le_of_ble_eq_true rfl) rfl ?_
          refine V_goto (pc := 84) dX11_anyParts_84 (tgt := 29) rfl ?_
          refine V_ls (ls' := [(4, vi ((q : Int) + 1)), (3, vi ((altL tx n k (advP S)).1)), (0, vr 30), (1, vi deep), (2, vi one)]) (by intro q_ h_; simp only [List.mem_cons, List.not_mem_nil, or_false] at h_ ⊢; rcases h_ with rfl | rfl | rfl | rfl | rfl <;> simp) ?_
          refine ih (q + 1) (altL tx n k (advP S)).1 (lnkP (altL tx n k (advP S)).2 last (altL tx n k (advP S)).1) (up2 Ix58 42 last.toNat (altL tx n k (advP S)).1) (RP.lnk hP58) (LpI.more (V := advP S) hI hS1 ⟨Nat.le_succ _, rfl⟩ hSl (altL_nice tx n k (advP S)) hw) (by omega) (by omega) (fun _ => ?_) ?_ ?_
          · show q + 1 ≤ (altL tx n k (advP S)).2.2.1; omega
          · show n + 1 ≤ (altL tx n k (advP S)).2.2.1 + f; omega
          · intro last' J hJ hFJ
            have h_ := kx last' J (by rw [ew, if_pos hc, if_pos hw]; exact hJ) (RFr.tr (RFr.set (RFr.tr (RFr.set RFr.rf (by omega)) hF58) (by omega)) hFJ)
            rw [ew, if_pos hc, if_pos hw] at h_
            exact h_

set_option maxHeartbeats 4000000 in
theorem r_anyParts (tx : Nat → Int) (n : Nat) (k : Nat) (S : PS) (m : Mem) (deep : Int)   (hL : Lay (mT m) (mR m)) (hP : RP (mI m) tx n S) (hk : deep + 1 + (k : Int) = 5) (hsub : RAlt tx n k) (h37 : cS tx n S = 37) : Ct μX11_anyParts (7 + 5 * k) [vr 30, vi deep] m (ri fun x_ m' => ∃ I_ : Nat → Nat → Int, wI m I_ = m' ∧ (x_ = (anyP tx n (altL tx n k) S).1) ∧ RP I_ tx n (anyP tx n (altL tx n k) S).2 ∧ RFr (mI m) I_) := by
  refine Ct_of_V rfl (by decide) rfl (Nat.le_of_ble_eq_true rfl) ?_
  show V μX11_anyParts (7 + 5 * k) m _ 0 [(0, vr 30), (1, vi deep)] [] m
  refine V_rg (k := 1) (x := deep) rfl fun r_deep => ?_
  obtain ⟨hS1, hSl⟩ := cS_lt (tx := tx) (n := n) (S := S) (by omega)
  have hn120 := hP.2.2.2.2.2.2.1
  refine V_ld (pc := 0) dX11_anyParts_0 (v := vr 30) rfl rfl ?_
  refine V_dup (pc := 1) dX11_anyParts_1 rfl ?_
  refine V_getIv (pc := 2) dX11_anyParts_2 (v := (S.2.1 : Int)) fw_RX11_125 rfl hL.t30 hP.2.1 (fun g2 => ?_)
  refine V_iconst (pc := 5) dX11_anyParts_5 (by unfold I32; omega) ?_
  refine V_iadd (pc := 6) dX11_anyParts_6 (by unfold I32 at *; omega) ?_
  refine V_putI (pc := 7) dX11_anyParts_7 fw_RX11_125 rfl hL.t30 (Or.inl rfl) (Or.inl rfl) ?_
  have hP1 : RP (mI (setI m 30 7 ((S.2.1 : Int) + 1))) tx n (advP S) := RP.adv hP (congrArg (fun z => z + 1) hP.2.1.symm) (show mI m 30 7 < mI m 30 6 from by have h1_ := hP.1; have h2_ := hP.2.1; omega)
  refine V_ld (pc := 10) dX11_anyParts_10 (v := vr 30) rfl rfl ?_
  refine V_bipush (pc := 11) dX11_anyParts_11 (by unfold I32; omega) (by decide) ?_
  refine V_callV (pc := 13) dX11_anyParts_13 (F' := 1) (As := [vi 40]) (st := []) cw_RX11_146 rfl rfl hL.t30 (by decide) (Nat.le_of_ble_eq_true rfl) (by omega) (r_takes tx n (advP S) (setI m 30 7 ((S.2.1 : Int) + 1)) 40   (by first | assumption | omega) hP1 (by decide)) ?_
  rintro _ _ ⟨rfl, Ix13, rfl, hP13, hF13⟩ ok13 le13
  have hB13 := hP13.2.2.2.2.1
  refine V_ld (pc := 16) dX11_anyParts_16 (v := vr 30) rfl rfl ?_
  refine V_ld (pc := 17) dX11_anyParts_17 (v := vi deep) rfl rfl ?_
  refine V_iconst (pc := 18) dX11_anyParts_18 (by unfold I32; omega) ?_
  refine V_iadd (pc := 19) dX11_anyParts_19 (by unfold I32 at *; omega) ?_
  refine V_callV (pc := 20) dX11_anyParts_20 (F' := (6 + 5 * k)) (As := [vi (deep + 1)]) (st := []) cw_RX11_150 rfl rfl hL.t30 (by decide) (Nat.le_of_ble_eq_true rfl) (by omega) (hsub (takeP tx n (advP S) 40) (wI (setI m 30 7 ((S.2.1 : Int) + 1)) Ix13) (deep + 1)   (by first | assumption | omega) hP13 (by omega)) ?_
  rintro _ _ ⟨x20, rfl, Ix20, rfl, rfl, hP20, hF20⟩ ok20 le20
  have hB20 := hP20.2.2.2.2.1
  refine V_st (pc := 23) dX11_anyParts_23 (ls' := [(2, vi ((altL tx n k (takeP tx n (advP S) 40)).1)), (0, vr 30), (1, vi deep)]) rfl (Nat.le_of_ble_eq_true rfl) rfl ?_
  refine V_ld (pc := 24) dX11_anyParts_24 (v := vi ((altL tx n k (takeP tx n (advP S) 40)).1)) rfl rfl ?_
  refine V_st (pc := 25) dX11_anyParts_25 (ls' := [(3, vi ((altL tx n k (takeP tx n (advP S) 40)).1)), (2, vi ((altL tx n k (takeP tx n (advP S) 40)).1)), (0, vr 30), (1, vi deep)]) rfl (Nat.le_of_ble_eq_true rfl) rfl ?_
  refine V_iconst (pc := 26) dX11_anyParts_26 (by unfold I32; omega) ?_
  refine V_st (pc := 27) dX11_anyParts_27 (ls' := [(4, vi 1), (3, vi ((altL tx n k (takeP tx n (advP S) 40)).1)), (2, vi ((altL tx n k (takeP tx n (advP S) 40)).1)), (0, vr 30), (1, vi deep)]) rfl (Nat.le_of_ble_eq_true rfl) rfl ?_
  refine V_ls (ls' := [(4, vi 1), (3, vi ((altL tx n k (takeP tx n (advP S) 40)).1)), (0, vr 30), (1, vi deep), (2, vi ((altL tx n k (takeP tx n (advP S) 40)).1))]) (by intro q_ h_; simp only [List.mem_cons, List.not_mem_nil, or_false] at h_ ⊢; rcases h_ with rfl | rfl | rfl | rfl | rfl <;> simp) ?_
  refine V_mem (m' := wI m Ix20) rfl ?_
  refine L_any (F := 7 + 5 * k) (m := m) (k := k) (deep := deep) (one := (altL tx n k (takeP tx n (advP S) 40)).1) (k0 := (altL tx n k (takeP tx n (advP S) 40)).1) (S0 := (takeP tx n (advP S) 40)) hL (by omega) hk hsub (n + 1) 1 (altL tx n k (takeP tx n (advP S) 40)).1 (altL tx n k (takeP tx n (advP S) 40)).2 Ix20 hP20 (LpI.one (altL_nice tx n k (takeP tx n (advP S) 40))) (by omega) (by omega) (fun h => ((LpI.one (altL_nice tx n k (takeP tx n (advP S) 40))).2 h).2.2.2.1) (by omega) ?_
  intro last' J hJ hFJ
  have hLE : lpG tx n cAny (fun S => altL tx n k (advP S)) (n + 1) 1 (altL tx n k (takeP tx n (advP S) 40)).1 (altL tx n k (takeP tx n (advP S) 40)).2 = (anyL tx n (altL tx n k) S) := rfl
  rw [hLE] at hJ ⊢
  have hq2 := hJ.2.2.2.2.1
  refine V_ld (pc := 87) dX11_anyParts_87 (v := vi ((anyL tx n (altL tx n k) S).1 : Int)) rfl rfl ?_
  refine V_iconst (pc := 89) dX11_anyParts_89 (by unfold I32; omega) ?_
  refine V_icmp_ge (pc := 90) dX11_anyParts_90 (tgt := 98) rfl (fun h90 => ?_) (fun h90 => ?_)
  · skip
    skip
    refine V_ld (pc := 98) dX11_anyParts_98 (v := vr 30) rfl rfl ?_
    refine V_bipush (pc := 99) dX11_anyParts_99 (by unfold I32; omega) (by decide) ?_
    refine V_callV (pc := 101) dX11_anyParts_101 (F' := 1) (As := [vi 41]) (st := []) cw_RX11_146 rfl rfl hL.t30 (by decide) (Nat.le_of_ble_eq_true rfl) (by omega) (r_takes tx n ((anyL tx n (altL tx n k) S).2) (wI m J) 41   (by first | assumption | omega) hJ (by decide)) ?_
    rintro _ _ ⟨rfl, Ix101, rfl, hP101, hF101⟩ ok101 le101
    have hB101 := hP101.2.2.2.2.1
    have hEE : (anyE tx n (anyL tx n (altL tx n k) S)) = takeP tx n ((anyL tx n (altL tx n k) S).2) 41 := by unfold anyE; rw [if_neg (by omega)]
    rw [← hEE] at hP101
    have hE := hP101
    have hwE := RP.wl hE
    refine V_ld (pc := 104) dX11_anyParts_104 (v := vr 30) rfl rfl ?_
    refine V_getIv (pc := 105) dX11_anyParts_105 (v := Ix101 30 8) fw_RX11_128 rfl hL.t30 rfl (fun g105 => ?_)
    refine V_if_eq (pc := 108) dX11_anyParts_108 (tgt := 123) rfl (fun h108 => ?_) (fun h108 => ?_)
    · skip
      refine V_bipush (pc := 123) dX11_anyParts_123 (by unfold I32; omega) (by decide) ?_
      refine V_reti (pc := 125) dX11_anyParts_125 trivial ?_
      have hnw : ¬ ((anyE tx n (anyL tx n (altL tx n k) S))).1 = true := fun h => by have h_ := (hwE.resolve_left (fun h2 => by have := h2.2; omega)).1; rw [h] at h_; cases h_
      have eA : anyP tx n (altL tx n k) S = (-5, (anyE tx n (anyL tx n (altL tx n k) S))) := by unfold anyP; rw [if_neg hnw]
      refine ⟨mI (wI (wI m J) Ix101), rfl, by rw [eA], ?_, (RFr.tr (RFr.tr (RFr.tr (RFr.tr (RFr.set RFr.rf (by omega)) (RFs.r hF13)) hF20) hFJ) (RFs.r hF101))⟩
      rw [eA]
      exact hE
    · skip
      have hw : ((anyE tx n (anyL tx n (altL tx n k) S))).1 = true := (hwE.resolve_right (fun h => h108 h.2)).1
      have hN := (any_nice (altL_nice tx n k) S h37).2 (by unfold anyP; rw [if_pos hw]; exact hw)
      have eA : anyP tx n (altL tx n k) S = rndP (anyE tx n (anyL tx n (altL tx n k) S)) 6 (altL tx n k (takeP tx n (advP S) 40)).1 (anyL tx n (altL tx n k) S).1 := by unfold anyP; rw [if_pos hw]
      rw [eA] at hN
      obtain ⟨n1, n2, n3, n4, n5, n6, n7, n8⟩ := hN
      have n4' : ((anyE tx n (anyL tx n (altL tx n k) S))).2.2.1 + 1 + 1 + 2 * S.2.1 ≤ S.2.2.1 + 2 * ((anyE tx n (anyL tx n (altL tx n k) S))).2.1 := n4
      have n9 := hP.2.2.2.2.2.1 n1
      have n10 := hP.2.2.2.2.2.2.1
      have n11 := hE.2.2.2.2.1
      have hch : chE ((anyE tx n (anyL tx n (altL tx n k) S))).2.2.2 (((anyE tx n (anyL tx n (altL tx n k) S))).2.2.1 : Int) (anyL tx n (altL tx n k) S).1 (altL tx n k (takeP tx n (advP S) 40)).1 := by
        have h2 : ¬ (anyL tx n (altL tx n k) S).1 < 2 := fun h2 => by
          have : (anyE tx n (anyL tx n (altL tx n k) S)) = takeP tx n (badP (anyL tx n (altL tx n k) S).2) 41 := by unfold anyE; rw [if_pos h2]
          rw [this, take_dead (by decide) rfl] at hw
          cases hw
        have h3 : (anyE tx n (anyL tx n (altL tx n k) S)) = takeP tx n (anyL tx n (altL tx n k) S).2 41 := by unfold anyE; rw [if_neg h2]
        have h4 := (take_fact (tx := tx) (n := n) (S := (anyL tx n (altL tx n k) S).2) (c := 41) (by decide)).2 (by rw [← h3]; exact hw)
        rw [h3, h4.2.2]
        exact lst_ch (altL_nice tx n k) (cAny_v (tx := tx) (n := n)) (altL_nice tx n k (takeP tx n (advP S) 40)) h4.1
      refine V_ld (pc := 111) dX11_anyParts_111 (v := vr 30) rfl rfl ?_
      refine V_bipush (pc := 112) dX11_anyParts_112 (by unfold I32; omega) (by decide) ?_
      refine V_ld (pc := 114) dX11_anyParts_114 (v := vi ((altL tx n k (takeP tx n (advP S) 40)).1)) rfl rfl ?_
      refine V_ld (pc := 115) dX11_anyParts_115 (v := vi ((anyL tx n (altL tx n k) S).1 : Int)) rfl rfl ?_
      refine V_callV (pc := 117) dX11_anyParts_117 (F' := 1) (As := [vi 6, vi ((altL tx n k (takeP tx n (advP S) 40)).1), vi ((anyL tx n (altL tx n k) S).1 : Int)]) (st := []) cw_RX11_153 rfl rfl hL.t30 (by decide) (Nat.le_of_ble_eq_true rfl) (by omega) (r_round (((anyE tx n (anyL tx n (altL tx n k) S))).2.2.2) (((anyE tx n (anyL tx n (altL tx n k) S))).2.2.1) ((anyL tx n (altL tx n k) S).1) (gT ((anyE tx n (anyL tx n (altL tx n k) S))).2.2.2 6 (altL tx n k (takeP tx n (advP S) 40)).1 (anyL tx n (altL tx n k) S).1) (wI (wI m J) Ix101) 6 ((altL tx n k (takeP tx n (advP S) 40)).1) ((anyL tx n (altL tx n k) S).1 : Int)   (by first | assumption | omega) ⟨hE.2.2.2.1, by omega⟩ hE.2.2.2.2.2.2.2.2 hch rfl) ?_
      rintro _ _ ⟨x117, rfl, Ix117, rfl, rfl, hT117, hc117, hF117⟩ ok117 le117
      refine V_goto (pc := 120) dX11_anyParts_120 (tgt := 125) rfl ?_
      refine V_reti (pc := 125) dX11_anyParts_125 trivial ?_
      refine ⟨mI (wI (wI (wI m J) Ix101) Ix117), rfl, by rw [eA]; rfl, ?_, (RFr.tr (RFr.tr (RFr.tr (RFr.tr (RFr.tr (RFr.set RFr.rf (by omega)) (RFs.r hF13)) hF20) hFJ) (RFs.r hF101)) (RFp.r hF117))⟩
      rw [eA]
      exact RP.rnd hE (fun _ => by omega) hT117 hc117 hF117
  · skip
    skip
    refine V_ld (pc := 93) dX11_anyParts_93 (v := vr 30) rfl rfl ?_
    refine V_iconst (pc := 94) dX11_anyParts_94 (by unfold I32; omega) ?_
    refine V_putI (pc := 95) dX11_anyParts_95 fw_RX11_128 rfl hL.t30 (Or.inl rfl) (Or.inr ⟨rfl, by first | exact Or.inl rfl | exact Or.inr rfl | omega⟩) ?_
    have hJb : RP (mI (setI (wI m J) 30 8 0)) tx n (badP (anyL tx n (altL tx n k) S).2) := RP.bad hJ
    refine V_ld (pc := 98) dX11_anyParts_98 (v := vr 30) rfl rfl ?_
    refine V_bipush (pc := 99) dX11_anyParts_99 (by unfold I32; omega) (by decide) ?_
    refine V_callV (pc := 101) dX11_anyParts_101 (F' := 1) (As := [vi 41]) (st := []) cw_RX11_146 rfl rfl hL.t30 (by decide) (Nat.le_of_ble_eq_true rfl) (by omega) (r_takes tx n (badP (anyL tx n (altL tx n k) S).2) (setI (wI m J) 30 8 0) 41   (by first | assumption | omega) hJb (by decide)) ?_
    rintro _ _ ⟨rfl, Ix101, rfl, hP101, hF101⟩ ok101 le101
    have hB101 := hP101.2.2.2.2.1
    have hEE : (anyE tx n (anyL tx n (altL tx n k) S)) = takeP tx n (badP (anyL tx n (altL tx n k) S).2) 41 := by unfold anyE; rw [if_pos (by omega)]
    rw [← hEE] at hP101
    have hE := hP101
    have hwE := RP.wl hE
    refine V_ld (pc := 104) dX11_anyParts_104 (v := vr 30) rfl rfl ?_
    refine V_getIv (pc := 105) dX11_anyParts_105 (v := Ix101 30 8) fw_RX11_128 rfl hL.t30 rfl (fun g105 => ?_)
    refine V_if_eq (pc := 108) dX11_anyParts_108 (tgt := 123) rfl (fun h108 => ?_) (fun h108 => ?_)
    · skip
      refine V_bipush (pc := 123) dX11_anyParts_123 (by unfold I32; omega) (by decide) ?_
      refine V_reti (pc := 125) dX11_anyParts_125 trivial ?_
      have hnw : ¬ ((anyE tx n (anyL tx n (altL tx n k) S))).1 = true := fun h => by have h_ := (hwE.resolve_left (fun h2 => by have := h2.2; omega)).1; rw [h] at h_; cases h_
      have eA : anyP tx n (altL tx n k) S = (-5, (anyE tx n (anyL tx n (altL tx n k) S))) := by unfold anyP; rw [if_neg hnw]
      refine ⟨mI (wI (setI (wI m J) 30 8 0) Ix101), rfl, by rw [eA], ?_, (RFr.tr (RFr.set (RFr.tr (RFr.tr (RFr.tr (RFr.set RFr.rf (by omega)) (RFs.r hF13)) hF20) hFJ) (by omega)) (RFs.r hF101))⟩
      rw [eA]
      exact hE
    · skip
      have hw : ((anyE tx n (anyL tx n (altL tx n k) S))).1 = true := (hwE.resolve_right (fun h => h108 h.2)).1
      have hN := (any_nice (altL_nice tx n k) S h37).2 (by unfold anyP; rw [if_pos hw]; exact hw)
      have eA : anyP tx n (altL tx n k) S = rndP (anyE tx n (anyL tx n (altL tx n k) S)) 6 (altL tx n k (takeP tx n (advP S) 40)).1 (anyL tx n (altL tx n k) S).1 := by unfold anyP; rw [if_pos hw]
      rw [eA] at hN
      obtain ⟨n1, n2, n3, n4, n5, n6, n7, n8⟩ := hN
      have n4' : ((anyE tx n (anyL tx n (altL tx n k) S))).2.2.1 + 1 + 1 + 2 * S.2.1 ≤ S.2.2.1 + 2 * ((anyE tx n (anyL tx n (altL tx n k) S))).2.1 := n4
      have n9 := hP.2.2.2.2.2.1 n1
      have n10 := hP.2.2.2.2.2.2.1
      have n11 := hE.2.2.2.2.1
      have hch : chE ((anyE tx n (anyL tx n (altL tx n k) S))).2.2.2 (((anyE tx n (anyL tx n (altL tx n k) S))).2.2.1 : Int) (anyL tx n (altL tx n k) S).1 (altL tx n k (takeP tx n (advP S) 40)).1 := by
        have h2 : ¬ (anyL tx n (altL tx n k) S).1 < 2 := fun h2 => by
          have : (anyE tx n (anyL tx n (altL tx n k) S)) = takeP tx n (badP (anyL tx n (altL tx n k) S).2) 41 := by unfold anyE; rw [if_pos h2]
          rw [this, take_dead (by decide) rfl] at hw
          cases hw
        have h3 : (anyE tx n (anyL tx n (altL tx n k) S)) = takeP tx n (anyL tx n (altL tx n k) S).2 41 := by unfold anyE; rw [if_neg h2]
        have h4 := (take_fact (tx := tx) (n := n) (S := (anyL tx n (altL tx n k) S).2) (c := 41) (by decide)).2 (by rw [← h3]; exact hw)
        rw [h3, h4.2.2]
        exact lst_ch (altL_nice tx n k) (cAny_v (tx := tx) (n := n)) (altL_nice tx n k (takeP tx n (advP S) 40)) h4.1
      refine V_ld (pc := 111) dX11_anyParts_111 (v := vr 30) rfl rfl ?_
      refine V_bipush (pc := 112) dX11_anyParts_112 (by unfold I32; omega) (by decide) ?_
      refine V_ld (pc := 114) dX11_anyParts_114 (v := vi ((altL tx n k (takeP tx n (advP S) 40)).1)) rfl rfl ?_
      refine V_ld (pc := 115) dX11_anyParts_115 (v := vi ((anyL tx n (altL tx n k) S).1 : Int)) rfl rfl ?_
      refine V_callV (pc := 117) dX11_anyParts_117 (F' := 1) (As := [vi 6, vi ((altL tx n k (takeP tx n (advP S) 40)).1), vi ((anyL tx n (altL tx n k) S).1 : Int)]) (st := []) cw_RX11_153 rfl rfl hL.t30 (by decide) (Nat.le_of_ble_eq_true rfl) (by omega) (r_round (((anyE tx n (anyL tx n (altL tx n k) S))).2.2.2) (((anyE tx n (anyL tx n (altL tx n k) S))).2.2.1) ((anyL tx n (altL tx n k) S).1) (gT ((anyE tx n (anyL tx n (altL tx n k) S))).2.2.2 6 (altL tx n k (takeP tx n (advP S) 40)).1 (anyL tx n (altL tx n k) S).1) (wI (setI (wI m J) 30 8 0) Ix101) 6 ((altL tx n k (takeP tx n (advP S) 40)).1) ((anyL tx n (altL tx n k) S).1 : Int)   (by first | assumption | omega) ⟨hE.2.2.2.1, by omega⟩ hE.2.2.2.2.2.2.2.2 hch rfl) ?_
      rintro _ _ ⟨x117, rfl, Ix117, rfl, rfl, hT117, hc117, hF117⟩ ok117 le117
      refine V_goto (pc := 120) dX11_anyParts_120 (tgt := 125) rfl ?_
      refine V_reti (pc := 125) dX11_anyParts_125 trivial ?_
      refine ⟨mI (wI (wI (setI (wI m J) 30 8 0) Ix101) Ix117), rfl, by rw [eA]; rfl, ?_, (RFr.tr (RFr.tr (RFr.set (RFr.tr (RFr.tr (RFr.tr (RFr.set RFr.rf (by omega)) (RFs.r hF13)) hF20) hFJ) (by omega)) (RFs.r hF101)) (RFp.r hF117))⟩
      rw [eA]
      exact RP.rnd hE (fun _ => by omega) hT117 hc117 hF117

theorem RPrd {I : Nat → Nat → Int} {tx : Nat → Int} {n : Nat} {S : PS} (h : RP I tx n S) (h1 : S.1 = true) (h2 : S.2.1 < n) : I 34 S.2.1 = cS tx n S := by
  have := (h.2.2.2.2.2.2.2.1 _ h2).1
  rw [this]
  unfold cS chT
  rw [if_pos h1, if_pos h2]
theorem subL_pos {tx : Nat → Int} {n k : Nat} (h : 0 < k) : subL tx n k = altL tx n (k - 1) := by
  cases k with
  | zero => omega
  | succ k => rfl

set_option maxHeartbeats 4000000 in
theorem r_atom (tx : Nat → Int) (n : Nat) (k : Nat) (S : PS) (m : Mem) (deep : Int)   (hL : Lay (mT m) (mR m)) (hP : RP (mI m) tx n S) (hk : deep + (k : Int) = 5) (hsub : ∀ k_ : Nat, k = k_ + 1 → RAlt tx n k_) : Ct μX11_atom (3 + 5 * k) [vr 30, vi deep] m (ri fun x_ m' => ∃ I_ : Nat → Nat → Int, wI m I_ = m' ∧ (x_ = (atoL tx n k S).1) ∧ RP I_ tx n (atoL tx n k S).2 ∧ RFr (mI m) I_) := by
  refine Ct_of_V rfl (by decide) rfl (Nat.le_of_ble_eq_true rfl) ?_
  show V μX11_atom (3 + 5 * k) m _ 0 [(0, vr 30), (1, vi deep)] [] m
  refine V_rg (k := 1) (x := deep) rfl fun r_deep => ?_
  have hdp : dpL k = true ↔ 0 < k := by unfold dpL; exact decide_eq_true_iff
  have hn120 := hP.2.2.2.2.2.2.1
  refine V_ld (pc := 0) dX11_atom_0 (v := vr 30) rfl rfl ?_
  refine V_bipush (pc := 1) dX11_atom_1 (by unfold I32; omega) (by decide) ?_
  refine V_bipush (pc := 3) dX11_atom_3 (by unfold I32; omega) (by decide) ?_
  refine V_callV (pc := 5) dX11_atom_5 (F' := 1) (As := [vi 65, vi 90]) (st := []) cw_RX11_135 rfl rfl hL.t30 (by decide) (Nat.le_of_ble_eq_true rfl) (by omega) (r_isAmong tx n S m 65 90   (by first | assumption | omega) hP (by decide)) ?_
  rintro _ _ ⟨x5, rfl, hx5, rfl⟩ ok5 le5
  refine V_if_eq (pc := 8) dX11_atom_8 (tgt := 47) rfl (fun h8 => ?_) (fun h8 => ?_)
  · skip
    refine V_ld (pc := 47) dX11_atom_47 (v := vr 30) rfl rfl ?_
    refine V_bipush (pc := 48) dX11_atom_48 (by unfold I32; omega) (by decide) ?_
    refine V_callV (pc := 50) dX11_atom_50 (F' := 0) (As := [vi 94]) (st := []) cw_RX11_132 rfl rfl hL.t30 (by decide) (Nat.le_of_ble_eq_true rfl) (by omega) (r_isAt tx n S m 94   (by first | assumption | omega) hP (by decide)) ?_
    rintro _ _ ⟨x50, rfl, hx50, rfl⟩ ok50 le50
    refine V_if_ne (pc := 53) dX11_atom_53 (tgt := 65) rfl (fun h53 => ?_) (fun h53 => ?_)
    · skip
      obtain ⟨hS1, hSl⟩ := cS_lt (tx := tx) (n := n) (S := S) (by omega)
      have hc2 := RP.c240 hP hS1
      refine V_ld (pc := 65) dX11_atom_65 (v := vr 30) rfl rfl ?_
      refine V_ld (pc := 66) dX11_atom_66 (v := vr 30) rfl rfl ?_
      refine V_getRv (pc := 67) dX11_atom_67 (o' := 34) fw_RX11_21 rfl hL.t30 hL.r30_5 ?_
      refine V_ld (pc := 70) dX11_atom_70 (v := vr 30) rfl rfl ?_
      refine V_getIv (pc := 71) dX11_atom_71 (v := (S.2.1 : Int)) fw_RX11_125 rfl hL.t30 hP.2.1 (fun g71 => ?_)
      refine V_ialdv (pc := 74) dX11_atom_74 (v := (cS tx n S)) hL.t34 (by omega) (RPrd hP hS1 hSl) (fun g74 => ?_)
      refine V_bipush (pc := 75) dX11_atom_75 (by unfold I32; omega) (by decide) ?_
      refine V_icmp_ne (pc := 77) dX11_atom_77 (tgt := 84) rfl (fun h77 => ?_) (fun h77 => ?_)
      · skip
        refine V_iconst (pc := 84) dX11_atom_84 (by unfold I32; omega) ?_
        refine V_callV (pc := 85) dX11_atom_85 (F' := 0) (As := [vi 2]) (st := []) cw_RX11_142 rfl rfl hL.t30 (by decide) (Nat.le_of_ble_eq_true rfl) (by omega) (r_makes S.2.2.1 m 2   (by first | assumption | omega) ⟨hP.2.2.2.1, by omega⟩) ?_
        rintro _ _ ⟨x85, rfl, Ix85, rfl, rfl, hK85⟩ ok85 le85
        refine V_st (pc := 88) dX11_atom_88 (ls' := [(2, vi (S.2.2.1 : Int)), (0, vr 30), (1, vi deep)]) rfl (Nat.le_of_ble_eq_true rfl) rfl ?_
        refine V_ld (pc := 89) dX11_atom_89 (v := vr 30) rfl rfl ?_
        refine V_dup (pc := 90) dX11_atom_90 rfl ?_
        refine V_getIv (pc := 91) dX11_atom_91 (v := (S.2.1 : Int)) fw_RX11_125 rfl hL.t30 ((hK85.1 30 7 (by omega) (by omega)).trans hP.2.1) (fun g91 => ?_)
        refine V_iconst (pc := 94) dX11_atom_94 (by unfold I32; omega) ?_
        refine V_iadd (pc := 95) dX11_atom_95 (by unfold I32 at *; omega) ?_
        refine V_putI (pc := 96) dX11_atom_96 fw_RX11_125 rfl hL.t30 (Or.inl rfl) (Or.inl rfl) ?_
        refine V_ld (pc := 99) dX11_atom_99 (v := vi (S.2.2.1 : Int)) rfl rfl ?_
        refine V_reti (pc := 100) dX11_atom_100 trivial ?_
        first
          | (exfalso; omega)
          | (have eA : atoL tx n k S = leafP S 1 (-5) := by unfold atoL atomP; rw [if_neg (by omega), if_pos (by omega)]
             refine ⟨mI (setI (wI m Ix85) 30 7 ((S.2.1 : Int) + 1)), rfl, by rw [eA]; rfl, ?_, RFr.set (MkP.r hK85) (by omega)⟩
             rw [eA]
             exact RP.leaf5 hP hS1 hSl hK85 rfl)
          | (have eA : atoL tx n k S = leafP S 2 (-5) := by unfold atoL atomP; rw [if_neg (by omega), if_neg (by omega), if_pos (by omega)]
             refine ⟨mI (setI (wI m Ix85) 30 7 ((S.2.1 : Int) + 1)), rfl, by rw [eA]; rfl, ?_, RFr.set (MkP.r hK85) (by omega)⟩
             rw [eA]
             exact RP.leaf5 hP hS1 hSl hK85 rfl)
      · skip
        refine V_iconst (pc := 80) dX11_atom_80 (by unfold I32; omega) ?_
        refine V_goto (pc := 81) dX11_atom_81 (tgt := 85) rfl ?_
        refine V_callV (pc := 85) dX11_atom_85 (F' := 0) (As := [vi 1]) (st := []) cw_RX11_142 rfl rfl hL.t30 (by decide) (Nat.le_of_ble_eq_true rfl) (by omega) (r_makes S.2.2.1 m 1   (by first | assumption | omega) ⟨hP.2.2.2.1, by omega⟩) ?_
        rintro _ _ ⟨x85, rfl, Ix85, rfl, rfl, hK85⟩ ok85 le85
        refine V_st (pc := 88) dX11_atom_88 (ls' := [(2, vi (S.2.2.1 : Int)), (0, vr 30), (1, vi deep)]) rfl (Nat.le_of_ble_eq_true rfl) rfl ?_
        refine V_ld (pc := 89) dX11_atom_89 (v := vr 30) rfl rfl ?_
        refine V_dup (pc := 90) dX11_atom_90 rfl ?_
        refine V_getIv (pc := 91) dX11_atom_91 (v := (S.2.1 : Int)) fw_RX11_125 rfl hL.t30 ((hK85.1 30 7 (by omega) (by omega)).trans hP.2.1) (fun g91 => ?_)
        refine V_iconst (pc := 94) dX11_atom_94 (by unfold I32; omega) ?_
        refine V_iadd (pc := 95) dX11_atom_95 (by unfold I32 at *; omega) ?_
        refine V_putI (pc := 96) dX11_atom_96 fw_RX11_125 rfl hL.t30 (Or.inl rfl) (Or.inl rfl) ?_
        refine V_ld (pc := 99) dX11_atom_99 (v := vi (S.2.2.1 : Int)) rfl rfl ?_
        refine V_reti (pc := 100) dX11_atom_100 trivial ?_
        first
          | (exfalso; omega)
          | (have eA : atoL tx n k S = leafP S 1 (-5) := by unfold atoL atomP; rw [if_neg (by omega), if_pos (by omega)]
             refine ⟨mI (setI (wI m Ix85) 30 7 ((S.2.1 : Int) + 1)), rfl, by rw [eA]; rfl, ?_, RFr.set (MkP.r hK85) (by omega)⟩
             rw [eA]
             exact RP.leaf5 hP hS1 hSl hK85 rfl)
          | (have eA : atoL tx n k S = leafP S 2 (-5) := by unfold atoL atomP; rw [if_neg (by omega), if_neg (by omega), if_pos (by omega)]
             refine ⟨mI (setI (wI m Ix85) 30 7 ((S.2.1 : Int) + 1)), rfl, by rw [eA]; rfl, ?_, RFr.set (MkP.r hK85) (by omega)⟩
             rw [eA]
             exact RP.leaf5 hP hS1 hSl hK85 rfl)
    · skip
      refine V_ld (pc := 56) dX11_atom_56 (v := vr 30) rfl rfl ?_
      refine V_bipush (pc := 57) dX11_atom_57 (by unfold I32; omega) (by decide) ?_
      refine V_callV (pc := 59) dX11_atom_59 (F' := 0) (As := [vi 36]) (st := []) cw_RX11_132 rfl rfl hL.t30 (by decide) (Nat.le_of_ble_eq_true rfl) (by omega) (r_isAt tx n S m 36   (by first | assumption | omega) hP (by decide)) ?_
      rintro _ _ ⟨x59, rfl, hx59, rfl⟩ ok59 le59
      refine V_if_eq (pc := 62) dX11_atom_62 (tgt := 101) rfl (fun h62 => ?_) (fun h62 => ?_)
      · skip
        refine V_ld (pc := 101) dX11_atom_101 (v := vr 30) rfl rfl ?_
        refine V_bipush (pc := 102) dX11_atom_102 (by unfold I32; omega) (by decide) ?_
        refine V_callV (pc := 104) dX11_atom_104 (F' := 0) (As := [vi 40]) (st := []) cw_RX11_132 rfl rfl hL.t30 (by decide) (Nat.le_of_ble_eq_true rfl) (by omega) (r_isAt tx n S m 40   (by first | assumption | omega) hP (by decide)) ?_
        rintro _ _ ⟨x104, rfl, hx104, rfl⟩ ok104 le104
        refine V_if_eq (pc := 107) dX11_atom_107 (tgt := 141) rfl (fun h107 => ?_) (fun h107 => ?_)
        · skip
          refine V_ld (pc := 141) dX11_atom_141 (v := vr 30) rfl rfl ?_
          refine V_bipush (pc := 142) dX11_atom_142 (by unfold I32; omega) (by decide) ?_
          refine V_callV (pc := 144) dX11_atom_144 (F' := 0) (As := [vi 37]) (st := []) cw_RX11_132 rfl rfl hL.t30 (by decide) (Nat.le_of_ble_eq_true rfl) (by omega) (r_isAt tx n S m 37   (by first | assumption | omega) hP (by decide)) ?_
          rintro _ _ ⟨x144, rfl, hx144, rfl⟩ ok144 le144
          refine V_if_eq (pc := 147) dX11_atom_147 (tgt := 161) rfl (fun h147 => ?_) (fun h147 => ?_)
          · skip
            refine V_ld (pc := 161) dX11_atom_161 (v := vr 30) rfl rfl ?_
            refine V_iconst (pc := 162) dX11_atom_162 (by unfold I32; omega) ?_
            refine V_putI (pc := 163) dX11_atom_163 fw_RX11_128 rfl hL.t30 (Or.inl rfl) (Or.inr ⟨rfl, by first | exact Or.inl rfl | exact Or.inr rfl | omega⟩) ?_
            refine V_bipush (pc := 166) dX11_atom_166 (by unfold I32; omega) (by decide) ?_
            refine V_reti (pc := 168) dX11_atom_168 trivial ?_
            have eA : atoL tx n k S = (-5, badP S) := by unfold atoL atomP; rw [if_neg (by omega), if_neg (by omega), if_neg (by omega), if_neg (by rintro ⟨h1_, h2_⟩; have h3_ := hdp.mp h2_; omega), if_neg (by rintro ⟨h1_, h2_⟩; have h3_ := hdp.mp h2_; omega)]
            refine ⟨mI (setI m 30 8 0), rfl, by rw [eA], ?_, RFr.set RFr.rf (by omega)⟩
            rw [eA]
            exact RP.bad hP
          · skip
            refine V_ld (pc := 150) dX11_atom_150 (v := vi deep) rfl rfl ?_
            refine V_iconst (pc := 151) dX11_atom_151 (by unfold I32; omega) ?_
            refine V_icmp_ge (pc := 152) dX11_atom_152 (tgt := 161) rfl (fun h152 => ?_) (fun h152 => ?_)
            · skip
              refine V_ld (pc := 161) dX11_atom_161 (v := vr 30) rfl rfl ?_
              refine V_iconst (pc := 162) dX11_atom_162 (by unfold I32; omega) ?_
              refine V_putI (pc := 163) dX11_atom_163 fw_RX11_128 rfl hL.t30 (Or.inl rfl) (Or.inr ⟨rfl, by first | exact Or.inl rfl | exact Or.inr rfl | omega⟩) ?_
              refine V_bipush (pc := 166) dX11_atom_166 (by unfold I32; omega) (by decide) ?_
              refine V_reti (pc := 168) dX11_atom_168 trivial ?_
              have eA : atoL tx n k S = (-5, badP S) := by unfold atoL atomP; rw [if_neg (by omega), if_neg (by omega), if_neg (by omega), if_neg (by rintro ⟨h1_, h2_⟩; have h3_ := hdp.mp h2_; omega), if_neg (by rintro ⟨h1_, h2_⟩; have h3_ := hdp.mp h2_; omega)]
              refine ⟨mI (setI m 30 8 0), rfl, by rw [eA], ?_, RFr.set RFr.rf (by omega)⟩
              rw [eA]
              exact RP.bad hP
            · skip
              refine V_ld (pc := 155) dX11_atom_155 (v := vr 30) rfl rfl ?_
              refine V_ld (pc := 156) dX11_atom_156 (v := vi deep) rfl rfl ?_
              refine V_callV (pc := 157) dX11_atom_157 (F' := (7 + 5 * (k - 1))) (As := [vi deep]) (st := []) cw_RX11_157 rfl rfl hL.t30 (by decide) (Nat.le_of_ble_eq_true rfl) (by omega) (r_anyParts tx n (k - 1) S m deep   (by first | assumption | omega) hP (by omega) (hsub (k - 1) (by omega)) (by omega)) ?_
              rintro _ _ ⟨x157, rfl, Ix157, rfl, rfl, hP157, hF157⟩ ok157 le157
              have hB157 := hP157.2.2.2.2.1
              refine V_reti (pc := 160) dX11_atom_160 trivial ?_
              have eA : atoL tx n k S = anyP tx n (altL tx n (k - 1)) S := by unfold atoL atomP; rw [if_neg (by omega), if_neg (by omega), if_neg (by omega), if_neg (by omega), if_pos ⟨by omega, hdp.mpr (by omega)⟩, subL_pos (by omega)]
              refine ⟨mI (wI m Ix157), rfl, by rw [eA], ?_, hF157⟩
              rw [eA]
              exact hP157
        · skip
          refine V_ld (pc := 110) dX11_atom_110 (v := vi deep) rfl rfl ?_
          refine V_iconst (pc := 111) dX11_atom_111 (by unfold I32; omega) ?_
          refine V_icmp_ge (pc := 112) dX11_atom_112 (tgt := 141) rfl (fun h112 => ?_) (fun h112 => ?_)
          · skip
            refine V_ld (pc := 141) dX11_atom_141 (v := vr 30) rfl rfl ?_
            refine V_bipush (pc := 142) dX11_atom_142 (by unfold I32; omega) (by decide) ?_
            refine V_callV (pc := 144) dX11_atom_144 (F' := 0) (As := [vi 37]) (st := []) cw_RX11_132 rfl rfl hL.t30 (by decide) (Nat.le_of_ble_eq_true rfl) (by omega) (r_isAt tx n S m 37   (by first | assumption | omega) hP (by decide)) ?_
            rintro _ _ ⟨x144, rfl, hx144, rfl⟩ ok144 le144
            refine V_if_eq (pc := 147) dX11_atom_147 (tgt := 161) rfl (fun h147 => ?_) (fun h147 => ?_)
            · skip
              refine V_ld (pc := 161) dX11_atom_161 (v := vr 30) rfl rfl ?_
              refine V_iconst (pc := 162) dX11_atom_162 (by unfold I32; omega) ?_
              refine V_putI (pc := 163) dX11_atom_163 fw_RX11_128 rfl hL.t30 (Or.inl rfl) (Or.inr ⟨rfl, by first | exact Or.inl rfl | exact Or.inr rfl | omega⟩) ?_
              refine V_bipush (pc := 166) dX11_atom_166 (by unfold I32; omega) (by decide) ?_
              refine V_reti (pc := 168) dX11_atom_168 trivial ?_
              have eA : atoL tx n k S = (-5, badP S) := by unfold atoL atomP; rw [if_neg (by omega), if_neg (by omega), if_neg (by omega), if_neg (by rintro ⟨h1_, h2_⟩; have h3_ := hdp.mp h2_; omega), if_neg (by rintro ⟨h1_, h2_⟩; have h3_ := hdp.mp h2_; omega)]
              refine ⟨mI (setI m 30 8 0), rfl, by rw [eA], ?_, RFr.set RFr.rf (by omega)⟩
              rw [eA]
              exact RP.bad hP
            · skip
              refine V_ld (pc := 150) dX11_atom_150 (v := vi deep) rfl rfl ?_
              refine V_iconst (pc := 151) dX11_atom_151 (by unfold I32; omega) ?_
              refine V_icmp_ge (pc := 152) dX11_atom_152 (tgt := 161) rfl (fun h152 => ?_) (fun h152 => ?_)
              · skip
                refine V_ld (pc := 161) dX11_atom_161 (v := vr 30) rfl rfl ?_
                refine V_iconst (pc := 162) dX11_atom_162 (by unfold I32; omega) ?_
                refine V_putI (pc := 163) dX11_atom_163 fw_RX11_128 rfl hL.t30 (Or.inl rfl) (Or.inr ⟨rfl, by first | exact Or.inl rfl | exact Or.inr rfl | omega⟩) ?_
                refine V_bipush (pc := 166) dX11_atom_166 (by unfold I32; omega) (by decide) ?_
                refine V_reti (pc := 168) dX11_atom_168 trivial ?_
                have eA : atoL tx n k S = (-5, badP S) := by unfold atoL atomP; rw [if_neg (by omega), if_neg (by omega), if_neg (by omega), if_neg (by rintro ⟨h1_, h2_⟩; have h3_ := hdp.mp h2_; omega), if_neg (by rintro ⟨h1_, h2_⟩; have h3_ := hdp.mp h2_; omega)]
                refine ⟨mI (setI m 30 8 0), rfl, by rw [eA], ?_, RFr.set RFr.rf (by omega)⟩
                rw [eA]
                exact RP.bad hP
              · skip
                refine V_ld (pc := 155) dX11_atom_155 (v := vr 30) rfl rfl ?_
                refine V_ld (pc := 156) dX11_atom_156 (v := vi deep) rfl rfl ?_
                refine V_callV (pc := 157) dX11_atom_157 (F' := (7 + 5 * (k - 1))) (As := [vi deep]) (st := []) cw_RX11_157 rfl rfl hL.t30 (by decide) (Nat.le_of_ble_eq_true rfl) (by omega) (r_anyParts tx n (k - 1) S m deep   (by first | assumption | omega) hP (by omega) (hsub (k - 1) (by omega)) (by omega)) ?_
                rintro _ _ ⟨x157, rfl, Ix157, rfl, rfl, hP157, hF157⟩ ok157 le157
                have hB157 := hP157.2.2.2.2.1
                refine V_reti (pc := 160) dX11_atom_160 trivial ?_
                have eA : atoL tx n k S = anyP tx n (altL tx n (k - 1)) S := by unfold atoL atomP; rw [if_neg (by omega), if_neg (by omega), if_neg (by omega), if_neg (by omega), if_pos ⟨by omega, hdp.mpr (by omega)⟩, subL_pos (by omega)]
                refine ⟨mI (wI m Ix157), rfl, by rw [eA], ?_, hF157⟩
                rw [eA]
                exact hP157
          · skip
            obtain ⟨hS1, hSl⟩ := cS_lt (tx := tx) (n := n) (S := S) (by omega)
            have hc2 := RP.c240 hP hS1
            refine V_ld (pc := 115) dX11_atom_115 (v := vr 30) rfl rfl ?_
            refine V_dup (pc := 116) dX11_atom_116 rfl ?_
            refine V_getIv (pc := 117) dX11_atom_117 (v := (S.2.1 : Int)) fw_RX11_125 rfl hL.t30 hP.2.1 (fun g117 => ?_)
            refine V_iconst (pc := 120) dX11_atom_120 (by unfold I32; omega) ?_
            refine V_iadd (pc := 121) dX11_atom_121 (by unfold I32 at *; omega) ?_
            refine V_putI (pc := 122) dX11_atom_122 fw_RX11_125 rfl hL.t30 (Or.inl rfl) (Or.inl rfl) ?_
            have hPa : RP (mI (setI m 30 7 ((S.2.1 : Int) + 1))) tx n (advP S) := RP.adv hP (congrArg (fun z => z + 1) hP.2.1.symm) (show mI m 30 7 < mI m 30 6 from by have h1_ := hP.1; have h2_ := hP.2.1; omega)
            refine V_ld (pc := 125) dX11_atom_125 (v := vr 30) rfl rfl ?_
            refine V_ld (pc := 126) dX11_atom_126 (v := vi deep) rfl rfl ?_
            refine V_iconst (pc := 127) dX11_atom_127 (by unfold I32; omega) ?_
            refine V_iadd (pc := 128) dX11_atom_128 (by unfold I32 at *; omega) ?_
            refine V_callV (pc := 129) dX11_atom_129 (F' := (6 + 5 * (k - 1))) (As := [vi (deep + 1)]) (st := []) cw_RX11_150 rfl rfl hL.t30 (by decide) (Nat.le_of_ble_eq_true rfl) (by omega) ((hsub (k - 1) (by omega)) (advP S) (setI m 30 7 ((S.2.1 : Int) + 1)) (deep + 1)   (by first | assumption | omega) hPa (by omega)) ?_
            rintro _ _ ⟨x129, rfl, Ix129, rfl, rfl, hP129, hF129⟩ ok129 le129
            have hB129 := hP129.2.2.2.2.1
            refine V_st (pc := 132) dX11_atom_132 (ls' := [(2, vi ((altL tx n (k - 1) (advP S)).1)), (0, vr 30), (1, vi deep)]) rfl (Nat.le_of_ble_eq_true rfl) rfl ?_
            refine V_ld (pc := 133) dX11_atom_133 (v := vr 30) rfl rfl ?_
            refine V_bipush (pc := 134) dX11_atom_134 (by unfold I32; omega) (by decide) ?_
            refine V_callV (pc := 136) dX11_atom_136 (F' := 1) (As := [vi 41]) (st := []) cw_RX11_146 rfl rfl hL.t30 (by decide) (Nat.le_of_ble_eq_true rfl) (by omega) (r_takes tx n ((altL tx n (k - 1) (advP S)).2) (wI (setI m 30 7 ((S.2.1 : Int) + 1)) Ix129) 41   (by first | assumption | omega) hP129 (by decide)) ?_
            rintro _ _ ⟨rfl, Ix136, rfl, hP136, hF136⟩ ok136 le136
            have hB136 := hP136.2.2.2.2.1
            refine V_ld (pc := 139) dX11_atom_139 (v := vi ((altL tx n (k - 1) (advP S)).1)) rfl rfl ?_
            refine V_reti (pc := 140) dX11_atom_140 trivial ?_
            have eA : atoL tx n k S = ((altL tx n (k - 1) (advP S)).1, takeP tx n (altL tx n (k - 1) (advP S)).2 41) := by unfold atoL atomP; rw [if_neg (by omega), if_neg (by omega), if_neg (by omega), if_pos ⟨by omega, hdp.mpr (by omega)⟩, subL_pos (by omega)]
            refine ⟨mI (wI (wI (setI m 30 7 ((S.2.1 : Int) + 1)) Ix129) Ix136), rfl, by rw [eA], ?_, (RFr.tr (RFr.tr (RFr.set RFr.rf (by omega)) hF129) (RFs.r hF136))⟩
            rw [eA]
            exact hP136
      · skip
        obtain ⟨hS1, hSl⟩ := cS_lt (tx := tx) (n := n) (S := S) (by omega)
        have hc2 := RP.c240 hP hS1
        refine V_ld (pc := 65) dX11_atom_65 (v := vr 30) rfl rfl ?_
        refine V_ld (pc := 66) dX11_atom_66 (v := vr 30) rfl rfl ?_
        refine V_getRv (pc := 67) dX11_atom_67 (o' := 34) fw_RX11_21 rfl hL.t30 hL.r30_5 ?_
        refine V_ld (pc := 70) dX11_atom_70 (v := vr 30) rfl rfl ?_
        refine V_getIv (pc := 71) dX11_atom_71 (v := (S.2.1 : Int)) fw_RX11_125 rfl hL.t30 hP.2.1 (fun g71 => ?_)
        refine V_ialdv (pc := 74) dX11_atom_74 (v := (cS tx n S)) hL.t34 (by omega) (RPrd hP hS1 hSl) (fun g74 => ?_)
        refine V_bipush (pc := 75) dX11_atom_75 (by unfold I32; omega) (by decide) ?_
        refine V_icmp_ne (pc := 77) dX11_atom_77 (tgt := 84) rfl (fun h77 => ?_) (fun h77 => ?_)
        · skip
          refine V_iconst (pc := 84) dX11_atom_84 (by unfold I32; omega) ?_
          refine V_callV (pc := 85) dX11_atom_85 (F' := 0) (As := [vi 2]) (st := []) cw_RX11_142 rfl rfl hL.t30 (by decide) (Nat.le_of_ble_eq_true rfl) (by omega) (r_makes S.2.2.1 m 2   (by first | assumption | omega) ⟨hP.2.2.2.1, by omega⟩) ?_
          rintro _ _ ⟨x85, rfl, Ix85, rfl, rfl, hK85⟩ ok85 le85
          refine V_st (pc := 88) dX11_atom_88 (ls' := [(2, vi (S.2.2.1 : Int)), (0, vr 30), (1, vi deep)]) rfl (Nat.le_of_ble_eq_true rfl) rfl ?_
          refine V_ld (pc := 89) dX11_atom_89 (v := vr 30) rfl rfl ?_
          refine V_dup (pc := 90) dX11_atom_90 rfl ?_
          refine V_getIv (pc := 91) dX11_atom_91 (v := (S.2.1 : Int)) fw_RX11_125 rfl hL.t30 ((hK85.1 30 7 (by omega) (by omega)).trans hP.2.1) (fun g91 => ?_)
          refine V_iconst (pc := 94) dX11_atom_94 (by unfold I32; omega) ?_
          refine V_iadd (pc := 95) dX11_atom_95 (by unfold I32 at *; omega) ?_
          refine V_putI (pc := 96) dX11_atom_96 fw_RX11_125 rfl hL.t30 (Or.inl rfl) (Or.inl rfl) ?_
          refine V_ld (pc := 99) dX11_atom_99 (v := vi (S.2.2.1 : Int)) rfl rfl ?_
          refine V_reti (pc := 100) dX11_atom_100 trivial ?_
          first
            | (exfalso; omega)
            | (have eA : atoL tx n k S = leafP S 1 (-5) := by unfold atoL atomP; rw [if_neg (by omega), if_pos (by omega)]
               refine ⟨mI (setI (wI m Ix85) 30 7 ((S.2.1 : Int) + 1)), rfl, by rw [eA]; rfl, ?_, RFr.set (MkP.r hK85) (by omega)⟩
               rw [eA]
               exact RP.leaf5 hP hS1 hSl hK85 rfl)
            | (have eA : atoL tx n k S = leafP S 2 (-5) := by unfold atoL atomP; rw [if_neg (by omega), if_neg (by omega), if_pos (by omega)]
               refine ⟨mI (setI (wI m Ix85) 30 7 ((S.2.1 : Int) + 1)), rfl, by rw [eA]; rfl, ?_, RFr.set (MkP.r hK85) (by omega)⟩
               rw [eA]
               exact RP.leaf5 hP hS1 hSl hK85 rfl)
        · skip
          refine V_iconst (pc := 80) dX11_atom_80 (by unfold I32; omega) ?_
          refine V_goto (pc := 81) dX11_atom_81 (tgt := 85) rfl ?_
          refine V_callV (pc := 85) dX11_atom_85 (F' := 0) (As := [vi 1]) (st := []) cw_RX11_142 rfl rfl hL.t30 (by decide) (Nat.le_of_ble_eq_true rfl) (by omega) (r_makes S.2.2.1 m 1   (by first | assumption | omega) ⟨hP.2.2.2.1, by omega⟩) ?_
          rintro _ _ ⟨x85, rfl, Ix85, rfl, rfl, hK85⟩ ok85 le85
          refine V_st (pc := 88) dX11_atom_88 (ls' := [(2, vi (S.2.2.1 : Int)), (0, vr 30), (1, vi deep)]) rfl (Nat.le_of_ble_eq_true rfl) rfl ?_
          refine V_ld (pc := 89) dX11_atom_89 (v := vr 30) rfl rfl ?_
          refine V_dup (pc := 90) dX11_atom_90 rfl ?_
          refine V_getIv (pc := 91) dX11_atom_91 (v := (S.2.1 : Int)) fw_RX11_125 rfl hL.t30 ((hK85.1 30 7 (by omega) (by omega)).trans hP.2.1) (fun g91 => ?_)
          refine V_iconst (pc := 94) dX11_atom_94 (by unfold I32; omega) ?_
          refine V_iadd (pc := 95) dX11_atom_95 (by unfold I32 at *; omega) ?_
          refine V_putI (pc := 96) dX11_atom_96 fw_RX11_125 rfl hL.t30 (Or.inl rfl) (Or.inl rfl) ?_
          refine V_ld (pc := 99) dX11_atom_99 (v := vi (S.2.2.1 : Int)) rfl rfl ?_
          refine V_reti (pc := 100) dX11_atom_100 trivial ?_
          first
            | (exfalso; omega)
            | (have eA : atoL tx n k S = leafP S 1 (-5) := by unfold atoL atomP; rw [if_neg (by omega), if_pos (by omega)]
               refine ⟨mI (setI (wI m Ix85) 30 7 ((S.2.1 : Int) + 1)), rfl, by rw [eA]; rfl, ?_, RFr.set (MkP.r hK85) (by omega)⟩
               rw [eA]
               exact RP.leaf5 hP hS1 hSl hK85 rfl)
            | (have eA : atoL tx n k S = leafP S 2 (-5) := by unfold atoL atomP; rw [if_neg (by omega), if_neg (by omega), if_pos (by omega)]
               refine ⟨mI (setI (wI m Ix85) 30 7 ((S.2.1 : Int) + 1)), rfl, by rw [eA]; rfl, ?_, RFr.set (MkP.r hK85) (by omega)⟩
               rw [eA]
               exact RP.leaf5 hP hS1 hSl hK85 rfl)
  · skip
    obtain ⟨hS1, hSl⟩ := cS_lt (tx := tx) (n := n) (S := S) (by omega)
    have hc2 := RP.c240 hP hS1
    refine V_ld (pc := 11) dX11_atom_11 (v := vr 30) rfl rfl ?_
    refine V_iconst (pc := 12) dX11_atom_12 (by unfold I32; omega) ?_
    refine V_callV (pc := 13) dX11_atom_13 (F' := 0) (As := [vi 0]) (st := []) cw_RX11_142 rfl rfl hL.t30 (by decide) (Nat.le_of_ble_eq_true rfl) (by omega) (r_makes S.2.2.1 m 0   (by first | assumption | omega) ⟨hP.2.2.2.1, by omega⟩) ?_
    rintro _ _ ⟨x13, rfl, Ix13, rfl, rfl, hK13⟩ ok13 le13
    refine V_st (pc := 16) dX11_atom_16 (ls' := [(2, vi (S.2.2.1 : Int)), (0, vr 30), (1, vi deep)]) rfl (Nat.le_of_ble_eq_true rfl) rfl ?_
    refine V_ld (pc := 17) dX11_atom_17 (v := vr 30) rfl rfl ?_
    refine V_getRv (pc := 18) dX11_atom_18 (o' := 36) fw_RX11_27 rfl hL.t30 hL.r30_11 ?_
    refine V_ld (pc := 21) dX11_atom_21 (v := vi (S.2.2.1 : Int)) rfl rfl ?_
    refine V_ld (pc := 22) dX11_atom_22 (v := vr 30) rfl rfl ?_
    refine V_getRv (pc := 23) dX11_atom_23 (o' := 34) fw_RX11_21 rfl hL.t30 hL.r30_5 ?_
    refine V_ld (pc := 26) dX11_atom_26 (v := vr 30) rfl rfl ?_
    refine V_getIv (pc := 27) dX11_atom_27 (v := (S.2.1 : Int)) fw_RX11_125 rfl hL.t30 ((hK13.1 30 7 (by omega) (by omega)).trans hP.2.1) (fun g27 => ?_)
    refine V_ialdv (pc := 30) dX11_atom_30 (v := (cS tx n S)) hL.t34 (by omega) ((hK13.1 34 S.2.1 (by omega) (by omega)).trans (RPrd hP hS1 hSl)) (fun g30 => ?_)
    refine V_bipush (pc := 31) dX11_atom_31 (by unfold I32; omega) (by decide) ?_
    refine V_isub (pc := 33) dX11_atom_33 (by unfold I32 at *; omega) ?_
    refine V_iast (pc := 34) dX11_atom_34 hL.t36 (by omega) ?_
    refine V_ld (pc := 35) dX11_atom_35 (v := vr 30) rfl rfl ?_
    refine V_dup (pc := 36) dX11_atom_36 rfl ?_
    refine V_getIv (pc := 37) dX11_atom_37 (v := (S.2.1 : Int)) fw_RX11_125 rfl hL.t30 (by first | exact ((hK13.1 30 7 (by omega) (by omega)).trans hP.2.1) | (simp only [mI_setI, up2]; repeat (first | exact ((hK13.1 30 7 (by omega) (by omega)).trans hP.2.1) | rw [if_neg (by omega)]))) (fun g37 => ?_)
    refine V_iconst (pc := 40) dX11_atom_40 (by unfold I32; omega) ?_
    refine V_iadd (pc := 41) dX11_atom_41 (by unfold I32 at *; omega) ?_
    refine V_putI (pc := 42) dX11_atom_42 fw_RX11_125 rfl hL.t30 (Or.inl rfl) (Or.inl rfl) ?_
    refine V_ld (pc := 45) dX11_atom_45 (v := vi (S.2.2.1 : Int)) rfl rfl ?_
    refine V_reti (pc := 46) dX11_atom_46 trivial ?_
    have eA : atoL tx n k S = leafP S 0 (cS tx n S - 65) := by unfold atoL atomP; rw [if_pos (by omega)]
    refine ⟨mI (setI (setI (wI m Ix13) 36 ((S.2.2.1 : Int).toNat) ((cS tx n S) - 65)) 30 7 ((S.2.1 : Int) + 1)), rfl, by rw [eA]; rfl, ?_, RFr.set (RFr.set (MkP.r hK13) (by omega)) (by omega)⟩
    rw [eA]
    exact RP.leaf hP hS1 hSl hK13 rfl

theorem RP.same {I : Nat → Nat → Int} {tx : Nat → Int} {n : Nat} {S : PS} {v : Int} (h : RP I tx n S) (hv : v = (S.2.1 : Int)) : RP (up2 I 30 7 v) tx n S := by
  rw [up2_id (h.2.1.trans hv.symm)]; exact h
theorem RP.times {I : Nat → Nat → Int} {tx : Nat → Int} {n : Nat} {S : PS} {a lo hi mo : Int} (h : RP I tx n (rndP S 5 a 1).2) : RP (up2 (up2 (up2 I 37 S.2.2.1 lo) 38 S.2.2.1 hi) 39 S.2.2.1 mo) tx n (timesP S a lo hi mo).2 := by
  obtain ⟨a1, a2, a3, a4, a5, a6, a7, a8, a9⟩ := h
  refine ⟨a1, a2, a3, a4, a5, a6, a7, a8, ?_⟩
  have w11 : ∀ v, RTab I (up2 (rndP S 5 a 1).2.2.2.2 S.2.2.1 11 v) (rndP S 5 a 1).2.2.2.1 := fun v => by
    apply RTab.of
    intro p w hp hw
    rw [up2_nk (by omega)]
    exact a9.at hp hw
  exact RTab.wr (w := 5) (RTab.wr (w := 4) (RTab.wr (w := 3) (w11 _) (by decide)) (by decide)) (by decide)

set_option maxHeartbeats 8000000 in
theorem L_rep42 {tx : Nat → Int} {n k : Nat} {S : PS} {m : Mem} {deep : Int} {I : Nat → Nat → Int} (hL : Lay (mT m) (mR m)) (hP : RP I tx n (atoL tx n k S).2) (hF : RFr (mI m) I) (hcc : cS tx n (atoL tx n k S).2 = 42) : V μX11_repeated (4 + 5 * k) m (ri fun x_ m' => ∃ I_ : Nat → Nat → Int, wI m I_ = m' ∧ (x_ = (repL tx n k S).1) ∧ RP I_ tx n (repL tx n k S).2 ∧ RFr (mI m) I_) 44 [(2, vi ((atoL tx n k S).1)), (0, vr 30), (1, vi deep)] [] (wI m I) := by
  obtain ⟨hS1, hSl⟩ := cS_lt (tx := tx) (n := n) (S := (atoL tx n k S).2) (by omega)
  have hn120 := hP.2.2.2.2.2.2.1
  obtain ⟨n1, n2, n3, n4, n5, n6, n7, n8⟩ := (atoL_nice tx n k S).2 hS1
  have n9 := RP.c240 hP hS1
  have n10 := hP.2.2.2.2.2.1 hS1
  have hQ : quantP tx n (atoL tx n k S).2 = ((0, 100, (advP (atoL tx n k S).2)) : Int × Int × PS) := by unfold quantP; rw [if_neg (by omega)]; simp [hcc]
  refine V_ld (pc := 44) dX11_repeated_44 (v := vr 30) rfl rfl ?_
  refine V_getRv (pc := 45) dX11_repeated_45 (o' := 34) fw_RX11_21 rfl hL.t30 hL.r30_5 ?_
  refine V_ld (pc := 48) dX11_repeated_48 (v := vr 30) rfl rfl ?_
  refine V_getIv (pc := 49) dX11_repeated_49 (v := ((atoL tx n k S).2.2.1 : Int)) fw_RX11_125 rfl hL.t30 hP.2.1 (fun g49 => ?_)
  refine V_ialdv (pc := 52) dX11_repeated_52 (v := 42) hL.t34 (by omega) ((RPrd hP hS1 hSl).trans hcc) (fun g52 => ?_)
  refine V_st (pc := 53) dX11_repeated_53 (ls' := [(3, vi 42), (2, vi ((atoL tx n k S).1)), (0, vr 30), (1, vi deep)]) rfl (Nat.le_of_ble_eq_true rfl) rfl ?_
  refine V_ld (pc := 54) dX11_repeated_54 (v := vr 30) rfl rfl ?_
  refine V_ld (pc := 55) dX11_repeated_55 (v := vi 42) rfl rfl ?_
  refine V_bipush (pc := 56) dX11_repeated_56 (by unfold I32; omega) (by decide) ?_
  refine V_icmp_ne (pc := 58) dX11_repeated_58 (tgt := 65) rfl (fun _ => ?_) (fun h_ => absurd h_ (by decide))
  refine V_iconst (pc := 65) dX11_repeated_65 (by unfold I32; omega) ?_
  refine V_putI (pc := 66) dX11_repeated_66 fw_RX11_163 rfl hL.t30 (Or.inl rfl) (Or.inl rfl) ?_
  refine V_ld (pc := 69) dX11_repeated_69 (v := vr 30) rfl rfl ?_
  refine V_ld (pc := 70) dX11_repeated_70 (v := vi 42) rfl rfl ?_
  refine V_bipush (pc := 71) dX11_repeated_71 (by unfold I32; omega) (by decide) ?_
  refine V_icmp_ne (pc := 73) dX11_repeated_73 (tgt := 80) rfl (fun _ => ?_) (fun h_ => absurd h_ (by decide))
  refine V_bipush (pc := 80) dX11_repeated_80 (by unfold I32; omega) (by decide) ?_
  refine V_putI (pc := 82) dX11_repeated_82 fw_RX11_166 rfl hL.t30 (Or.inl rfl) (Or.inl rfl) ?_
  refine V_ld (pc := 85) dX11_repeated_85 (v := vi 42) rfl rfl ?_
  refine V_bipush (pc := 86) dX11_repeated_86 (by unfold I32; omega) (by decide) ?_
  refine V_icmp_ne (pc := 88) dX11_repeated_88 (tgt := 98) rfl (fun _ => ?_) (fun h_ => absurd h_ (by decide))
  refine V_ld (pc := 98) dX11_repeated_98 (v := vr 30) rfl rfl ?_
  refine V_dup (pc := 99) dX11_repeated_99 rfl ?_
  refine V_getIv (pc := 100) dX11_repeated_100 (v := ((atoL tx n k S).2.2.1 : Int)) fw_RX11_125 rfl hL.t30 (by first | exact hP.2.1 | (simp only [mI_setI, up2]; repeat (first | exact hP.2.1 | rw [if_neg (by omega)]))) (fun g100 => ?_)
  refine V_iconst (pc := 103) dX11_repeated_103 (by unfold I32; omega) ?_
  refine V_iadd (pc := 104) dX11_repeated_104 (by unfold I32 at *; omega) ?_
  refine V_putI (pc := 105) dX11_repeated_105 fw_RX11_125 rfl hL.t30 (Or.inl rfl) (Or.inl rfl) ?_
  have hPq : RP (mI (setI (setI (setI (wI m I) 30 19 0) 30 20 100) 30 7 (((atoL tx n k S).2.2.1 : Int) + 1))) tx n (advP (atoL tx n k S).2) := RP.adv (RP.oth (RP.oth hP (Or.inl rfl)) (Or.inr rfl)) (congrArg (fun z => z + 1) hP.2.1.symm) (show I 30 7 < I 30 6 from by have h1_ := hP.1; have h2_ := hP.2.1; omega)
  have hq2 : ((advP (atoL tx n k S).2)).2.2 = (atoL tx n k S).2.2.2 := rfl
  have hq1 : ((advP (atoL tx n k S).2)).1 = true → (atoL tx n k S).2.2.1 < ((advP (atoL tx n k S).2)).2.1 := fun _ => Nat.lt_succ_self _
  have hqn := hPq.2.2.2.2.1
  have hadv : (advP (atoL tx n k S).2).2.1 = (atoL tx n k S).2.2.1 + 1 := rfl
  refine V_ld (pc := 108) dX11_repeated_108 (v := vr 30) rfl rfl ?_
  refine V_bipush (pc := 109) dX11_repeated_109 (by unfold I32; omega) (by decide) ?_
  refine V_callV (pc := 111) dX11_repeated_111 (F' := 0) (As := [vi 63]) (st := []) cw_RX11_132 rfl rfl hL.t30 (by decide) (Nat.le_of_ble_eq_true rfl) (by omega) (r_isAt tx n (advP (atoL tx n k S).2) (setI (setI (setI (wI m I) 30 19 0) 30 20 100) 30 7 (((atoL tx n k S).2.2.1 : Int) + 1)) 63   (by first | assumption | omega) hPq (by decide)) ?_
  rintro _ _ ⟨x111, rfl, hx111, rfl⟩ ok111 le111
  refine V_st (pc := 114) dX11_repeated_114 (ls' := [(4, vi x111), (3, vi 42), (2, vi ((atoL tx n k S).1)), (0, vr 30), (1, vi deep)]) rfl (Nat.le_of_ble_eq_true rfl) rfl ?_
  refine V_ld (pc := 116) dX11_repeated_116 (v := vr 30) rfl rfl ?_
  refine V_dup (pc := 117) dX11_repeated_117 rfl ?_
  refine V_getIv (pc := 118) dX11_repeated_118 (v := ((atoL tx n k S).2.2.1 : Int) + 1) fw_RX11_125 rfl hL.t30 (by first | rfl | (simp only [mI_setI, up2]; repeat (first | rfl | rw [if_neg (by omega)] | rw [if_pos (by omega)]))) (fun g118 => ?_)
  refine V_ld (pc := 121) dX11_repeated_121 (v := vi x111) rfl rfl ?_
  refine V_if_eq (pc := 123) dX11_repeated_123 (tgt := 130) rfl (fun h123 => ?_) (fun h123 => ?_)
  · skip
    refine V_iconst (pc := 130) dX11_repeated_130 (by unfold I32; omega) ?_
    refine V_iadd (pc := 131) dX11_repeated_131 (by unfold I32 at *; omega) ?_
    refine V_putI (pc := 132) dX11_repeated_132 fw_RX11_125 rfl hL.t30 (Or.inl rfl) (Or.inl rfl) ?_
    have hPr : RP (mI (setI (setI (setI (setI (wI m I) 30 19 0) 30 20 100) 30 7 (((atoL tx n k S).2.2.1 : Int) + 1)) 30 7 ((((atoL tx n k S).2.2.1 : Int) + 1) + 0))) tx n (advP (atoL tx n k S).2) := RP.same hPq (by omega)
    have hwr := RP.wl hPr
    refine V_ld (pc := 135) dX11_repeated_135 (v := vr 30) rfl rfl ?_
    refine V_getIv (pc := 136) dX11_repeated_136 (v := mI (wI m I) 30 8) fw_RX11_128 rfl hL.t30 (by first | rfl | (simp only [mI_setI, up2]; repeat (first | rfl | rw [if_neg (by omega)] | rw [if_pos (by omega)]))) (fun g136 => ?_)
    refine V_if_ne (pc := 139) dX11_repeated_139 (tgt := 145) rfl (fun h139 => ?_) (fun h139 => ?_)
    · skip
      have hw : ((advP (atoL tx n k S).2)).1 = true := (hwr.resolve_right (fun h => h139 h.2)).1
      have hwq : ((advP (atoL tx n k S).2)).1 = true := hw
      have hq3 := hq1 hwq
      have hc_ : ((advP (atoL tx n k S).2)).2.2.1 = (atoL tx n k S).2.2.2.1 := congrArg (fun z => z.1) hq2
      have hF_ : ((advP (atoL tx n k S).2)).2.2.2 = (atoL tx n k S).2.2.2.2 := congrArg (fun z => z.2) hq2
      have hi_ : ((advP (atoL tx n k S).2)).2.1 ≤ ((advP (atoL tx n k S).2)).2.1 := Nat.le_refl _
      have hch : chE ((advP (atoL tx n k S).2)).2.2.2 (((advP (atoL tx n k S).2)).2.2.1 : Int) 1 (atoL tx n k S).1 := ⟨by omega, by omega, by rw [hF_]; exact n7⟩
      refine V_ld (pc := 145) dX11_repeated_145 (v := vr 30) rfl rfl ?_
      refine V_iconst (pc := 146) dX11_repeated_146 (by unfold I32; omega) ?_
      refine V_ld (pc := 147) dX11_repeated_147 (v := vi ((atoL tx n k S).1)) rfl rfl ?_
      refine V_iconst (pc := 148) dX11_repeated_148 (by unfold I32; omega) ?_
      refine V_callV (pc := 149) dX11_repeated_149 (F' := 1) (As := [vi 5, vi ((atoL tx n k S).1), vi 1]) (st := []) cw_RX11_153 rfl rfl hL.t30 (by decide) (Nat.le_of_ble_eq_true rfl) (by omega) (r_round (((advP (atoL tx n k S).2)).2.2.2) (((advP (atoL tx n k S).2)).2.2.1) 1 (gT ((advP (atoL tx n k S).2)).2.2.2 5 (atoL tx n k S).1 1) (setI (setI (setI (setI (wI m I) 30 19 0) 30 20 100) 30 7 (((atoL tx n k S).2.2.1 : Int) + 1)) 30 7 ((((atoL tx n k S).2.2.1 : Int) + 1) + 0)) 5 ((atoL tx n k S).1) 1   (by first | assumption | omega) ⟨hPr.2.2.2.1, by omega⟩ hPr.2.2.2.2.2.2.2.2 hch rfl) ?_
      rintro _ _ ⟨x149, rfl, Ix149, rfl, rfl, hT149, hc149, hF149⟩ ok149 le149
      refine V_st (pc := 152) dX11_repeated_152 (ls' := [(5, vi ((((advP (atoL tx n k S).2)).2.2.1 : Nat) : Int)), (4, vi x111), (3, vi 42), (2, vi ((atoL tx n k S).1)), (0, vr 30), (1, vi deep)]) rfl (Nat.le_of_ble_eq_true rfl) rfl ?_
      refine V_ld (pc := 154) dX11_repeated_154 (v := vr 30) rfl rfl ?_
      refine V_getRv (pc := 155) dX11_repeated_155 (o' := 37) fw_RX11_30 rfl hL.t30 hL.r30_12 ?_
      refine V_ld (pc := 158) dX11_repeated_158 (v := vi ((((advP (atoL tx n k S).2)).2.2.1 : Nat) : Int)) rfl rfl ?_
      refine V_ld (pc := 160) dX11_repeated_160 (v := vr 30) rfl rfl ?_
      refine V_getIv (pc := 161) dX11_repeated_161 (v := 0) fw_RX11_163 rfl hL.t30 ((hF149 30 19 (by omega) (by omega)).trans (by first | rfl | (simp only [mI_setI, up2]; repeat (first | rfl | rw [if_neg (by omega)] | rw [if_pos (by omega)])))) (fun g161 => ?_)
      refine V_iast (pc := 164) dX11_repeated_164 hL.t37 (by omega) ?_
      refine V_ld (pc := 165) dX11_repeated_165 (v := vr 30) rfl rfl ?_
      refine V_getRv (pc := 166) dX11_repeated_166 (o' := 38) fw_RX11_33 rfl hL.t30 hL.r30_13 ?_
      refine V_ld (pc := 169) dX11_repeated_169 (v := vi ((((advP (atoL tx n k S).2)).2.2.1 : Nat) : Int)) rfl rfl ?_
      refine V_ld (pc := 171) dX11_repeated_171 (v := vr 30) rfl rfl ?_
      refine V_getIv (pc := 172) dX11_repeated_172 (v := 100) fw_RX11_166 rfl hL.t30 (by first | exact ((hF149 30 20 (by omega) (by omega)).trans (by first | rfl | (simp only [mI_setI, up2]; repeat (first | rfl | rw [if_neg (by omega)] | rw [if_pos (by omega)])))) | (simp only [mI_setI, up2]; repeat (first | exact ((hF149 30 20 (by omega) (by omega)).trans (by first | rfl | (simp only [mI_setI, up2]; repeat (first | rfl | rw [if_neg (by omega)] | rw [if_pos (by omega)])))) | rw [if_neg (by omega)]))) (fun g172 => ?_)
      refine V_iast (pc := 175) dX11_repeated_175 hL.t38 (by omega) ?_
      refine V_ld (pc := 176) dX11_repeated_176 (v := vr 30) rfl rfl ?_
      refine V_getRv (pc := 177) dX11_repeated_177 (o' := 39) fw_RX11_36 rfl hL.t30 hL.r30_14 ?_
      refine V_ld (pc := 180) dX11_repeated_180 (v := vi ((((advP (atoL tx n k S).2)).2.2.1 : Nat) : Int)) rfl rfl ?_
      refine V_ld (pc := 182) dX11_repeated_182 (v := vi x111) rfl rfl ?_
      refine V_if_eq (pc := 184) dX11_repeated_184 (tgt := 191) rfl (fun h184 => ?_) (fun h184 => ?_)
      · skip
        refine V_iconst (pc := 191) dX11_repeated_191 (by unfold I32; omega) ?_
        refine V_iast (pc := 192) dX11_repeated_192 hL.t39 (by omega) ?_
        refine V_ld (pc := 193) dX11_repeated_193 (v := vi ((((advP (atoL tx n k S).2)).2.2.1 : Nat) : Int)) rfl rfl ?_
        refine V_reti (pc := 195) dX11_repeated_195 trivial ?_
        first
          | (exfalso; omega)
          | (have eA : repL tx n k S = timesP (advP (atoL tx n k S).2) (atoL tx n k S).1 0 100 1 := by
               unfold repL repP
               rw [if_pos (by omega), hQ]
               show (if ((advP (atoL tx n k S).2)).1 = true then (if cS tx n (advP (atoL tx n k S).2) = 63 then timesP (advP (advP (atoL tx n k S).2)) (atoL tx n k S).1 0 100 0 else timesP (advP (atoL tx n k S).2) (atoL tx n k S).1 0 100 1) else (-5, (advP (atoL tx n k S).2))) = _
               rw [if_pos hwq, if_neg (by omega)]
             refine ⟨mI (setI (setI (setI (wI (setI (setI (setI (setI (wI m I) 30 19 0) 30 20 100) 30 7 (((atoL tx n k S).2.2.1 : Int) + 1)) 30 7 ((((atoL tx n k S).2.2.1 : Int) + 1) + 0)) Ix149) 37 (((((advP (atoL tx n k S).2)).2.2.1 : Nat) : Int).toNat) 0) 38 (((((advP (atoL tx n k S).2)).2.2.1 : Nat) : Int).toNat) 100) 39 (((((advP (atoL tx n k S).2)).2.2.1 : Nat) : Int).toNat) 1), rfl, by rw [eA]; rfl, ?_, (RFr.set (RFr.set (RFr.set (RFr.tr (RFr.set (RFr.set (RFr.set (RFr.set hF (by omega)) (by omega)) (by omega)) (by omega)) (RFp.r hF149)) (by omega)) (by omega)) (by omega))⟩
             rw [eA]
             exact RP.times (RP.rnd hPr (fun _ => by omega) hT149 hc149 hF149))
      · skip
        refine V_iconst (pc := 187) dX11_repeated_187 (by unfold I32; omega) ?_
        refine V_goto (pc := 188) dX11_repeated_188 (tgt := 192) rfl ?_
        refine V_iast (pc := 192) dX11_repeated_192 hL.t39 (by omega) ?_
        refine V_ld (pc := 193) dX11_repeated_193 (v := vi ((((advP (atoL tx n k S).2)).2.2.1 : Nat) : Int)) rfl rfl ?_
        refine V_reti (pc := 195) dX11_repeated_195 trivial ?_
        first
          | (exfalso; omega)
          | (have eA : repL tx n k S = timesP (advP (atoL tx n k S).2) (atoL tx n k S).1 0 100 1 := by
               unfold repL repP
               rw [if_pos (by omega), hQ]
               show (if ((advP (atoL tx n k S).2)).1 = true then (if cS tx n (advP (atoL tx n k S).2) = 63 then timesP (advP (advP (atoL tx n k S).2)) (atoL tx n k S).1 0 100 0 else timesP (advP (atoL tx n k S).2) (atoL tx n k S).1 0 100 1) else (-5, (advP (atoL tx n k S).2))) = _
               rw [if_pos hwq, if_neg (by omega)]
             refine ⟨mI (setI (setI (setI (wI (setI (setI (setI (setI (wI m I) 30 19 0) 30 20 100) 30 7 (((atoL tx n k S).2.2.1 : Int) + 1)) 30 7 ((((atoL tx n k S).2.2.1 : Int) + 1) + 0)) Ix149) 37 (((((advP (atoL tx n k S).2)).2.2.1 : Nat) : Int).toNat) 0) 38 (((((advP (atoL tx n k S).2)).2.2.1 : Nat) : Int).toNat) 100) 39 (((((advP (atoL tx n k S).2)).2.2.1 : Nat) : Int).toNat) 0), rfl, by rw [eA]; rfl, ?_, (RFr.set (RFr.set (RFr.set (RFr.tr (RFr.set (RFr.set (RFr.set (RFr.set hF (by omega)) (by omega)) (by omega)) (by omega)) (RFp.r hF149)) (by omega)) (by omega)) (by omega))⟩
             rw [eA]
             exact RP.times (RP.rnd hPr (fun _ => by omega) hT149 hc149 hF149))
    · skip
      refine V_bipush (pc := 142) dX11_repeated_142 (by unfold I32; omega) (by decide) ?_
      refine V_reti (pc := 144) dX11_repeated_144 trivial ?_
      have hnw : ¬ ((advP (atoL tx n k S).2)).1 = true := fun h => by have h_ := (hwr.resolve_left (fun h2 => by have h4_ : mI (wI m I) 30 8 = 1 := h2.2; omega)).1; rw [h] at h_; cases h_
      have eA : repL tx n k S = (-5, (advP (atoL tx n k S).2)) := by
        unfold repL repP
        rw [if_pos (by omega), hQ]
        exact if_neg hnw
      refine ⟨mI (setI (setI (setI (setI (wI m I) 30 19 0) 30 20 100) 30 7 (((atoL tx n k S).2.2.1 : Int) + 1)) 30 7 ((((atoL tx n k S).2.2.1 : Int) + 1) + 0)), rfl, by rw [eA], ?_, (RFr.set (RFr.set (RFr.set (RFr.set hF (by omega)) (by omega)) (by omega)) (by omega))⟩
      rw [eA]
      exact hPr
  · skip
    skip
    refine V_iconst (pc := 126) dX11_repeated_126 (by unfold I32; omega) ?_
    refine V_goto (pc := 127) dX11_repeated_127 (tgt := 131) rfl ?_
    refine V_iadd (pc := 131) dX11_repeated_131 (by unfold I32 at *; omega) ?_
    refine V_putI (pc := 132) dX11_repeated_132 fw_RX11_125 rfl hL.t30 (Or.inl rfl) (Or.inl rfl) ?_
    obtain ⟨hz1, hz2⟩ := cS_lt (tx := tx) (n := n) (S := (advP (atoL tx n k S).2)) (by omega)
    have hPr : RP (mI (setI (setI (setI (setI (wI m I) 30 19 0) 30 20 100) 30 7 (((atoL tx n k S).2.2.1 : Int) + 1)) 30 7 ((((atoL tx n k S).2.2.1 : Int) + 1) + 1))) tx n (advP (advP (atoL tx n k S).2)) := RP.adv hPq (congrArg (fun z => z + 1) hPq.2.1.symm) (Int.lt_of_le_of_lt (Int.le_of_eq hPq.2.1) (Int.lt_of_lt_of_le (Int.ofNat_lt.mpr hz2) (Int.le_of_eq hPq.1.symm)))
    have hadv2 : (advP (advP (atoL tx n k S).2)).2.1 = ((advP (atoL tx n k S).2)).2.1 + 1 := rfl
    have hwr := RP.wl hPr
    refine V_ld (pc := 135) dX11_repeated_135 (v := vr 30) rfl rfl ?_
    refine V_getIv (pc := 136) dX11_repeated_136 (v := mI (wI m I) 30 8) fw_RX11_128 rfl hL.t30 (by first | rfl | (simp only [mI_setI, up2]; repeat (first | rfl | rw [if_neg (by omega)] | rw [if_pos (by omega)]))) (fun g136 => ?_)
    refine V_if_ne (pc := 139) dX11_repeated_139 (tgt := 145) rfl (fun h139 => ?_) (fun h139 => ?_)
    · skip
      have hw : ((advP (advP (atoL tx n k S).2))).1 = true := (hwr.resolve_right (fun h => h139 h.2)).1
      have hwq : ((advP (atoL tx n k S).2)).1 = true := hw
      have hq3 := hq1 hwq
      have hc_ : ((advP (advP (atoL tx n k S).2))).2.2.1 = (atoL tx n k S).2.2.2.1 := congrArg (fun z => z.1) hq2
      have hF_ : ((advP (advP (atoL tx n k S).2))).2.2.2 = (atoL tx n k S).2.2.2.2 := congrArg (fun z => z.2) hq2
      have hi_ : ((advP (atoL tx n k S).2)).2.1 ≤ ((advP (advP (atoL tx n k S).2))).2.1 := Nat.le_succ _
      have hch : chE ((advP (advP (atoL tx n k S).2))).2.2.2 (((advP (advP (atoL tx n k S).2))).2.2.1 : Int) 1 (atoL tx n k S).1 := ⟨by omega, by omega, by rw [hF_]; exact n7⟩
      refine V_ld (pc := 145) dX11_repeated_145 (v := vr 30) rfl rfl ?_
      refine V_iconst (pc := 146) dX11_repeated_146 (by unfold I32; omega) ?_
      refine V_ld (pc := 147) dX11_repeated_147 (v := vi ((atoL tx n k S).1)) rfl rfl ?_
      refine V_iconst (pc := 148) dX11_repeated_148 (by unfold I32; omega) ?_
      refine V_callV (pc := 149) dX11_repeated_149 (F' := 1) (As := [vi 5, vi ((atoL tx n k S).1), vi 1]) (st := []) cw_RX11_153 rfl rfl hL.t30 (by decide) (Nat.le_of_ble_eq_true rfl) (by omega) (r_round (((advP (advP (atoL tx n k S).2))).2.2.2) (((advP (advP (atoL tx n k S).2))).2.2.1) 1 (gT ((advP (advP (atoL tx n k S).2))).2.2.2 5 (atoL tx n k S).1 1) (setI (setI (setI (setI (wI m I) 30 19 0) 30 20 100) 30 7 (((atoL tx n k S).2.2.1 : Int) + 1)) 30 7 ((((atoL tx n k S).2.2.1 : Int) + 1) + 1)) 5 ((atoL tx n k S).1) 1   (by first | assumption | omega) ⟨hPr.2.2.2.1, by omega⟩ hPr.2.2.2.2.2.2.2.2 hch rfl) ?_
      rintro _ _ ⟨x149, rfl, Ix149, rfl, rfl, hT149, hc149, hF149⟩ ok149 le149
      refine V_st (pc := 152) dX11_repeated_152 (ls' := [(5, vi ((((advP (advP (atoL tx n k S).2))).2.2.1 : Nat) : Int)), (4, vi x111), (3, vi 42), (2, vi ((atoL tx n k S).1)), (0, vr 30), (1, vi deep)]) rfl (Nat.le_of_ble_eq_true rfl) rfl ?_
      refine V_ld (pc := 154) dX11_repeated_154 (v := vr 30) rfl rfl ?_
      refine V_getRv (pc := 155) dX11_repeated_155 (o' := 37) fw_RX11_30 rfl hL.t30 hL.r30_12 ?_
      refine V_ld (pc := 158) dX11_repeated_158 (v := vi ((((advP (advP (atoL tx n k S).2))).2.2.1 : Nat) : Int)) rfl rfl ?_
      refine V_ld (pc := 160) dX11_repeated_160 (v := vr 30) rfl rfl ?_
      refine V_getIv (pc := 161) dX11_repeated_161 (v := 0) fw_RX11_163 rfl hL.t30 ((hF149 30 19 (by omega) (by omega)).trans (by first | rfl | (simp only [mI_setI, up2]; repeat (first | rfl | rw [if_neg (by omega)] | rw [if_pos (by omega)])))) (fun g161 => ?_)
      refine V_iast (pc := 164) dX11_repeated_164 hL.t37 (by omega) ?_
      refine V_ld (pc := 165) dX11_repeated_165 (v := vr 30) rfl rfl ?_
      refine V_getRv (pc := 166) dX11_repeated_166 (o' := 38) fw_RX11_33 rfl hL.t30 hL.r30_13 ?_
      refine V_ld (pc := 169) dX11_repeated_169 (v := vi ((((advP (advP (atoL tx n k S).2))).2.2.1 : Nat) : Int)) rfl rfl ?_
      refine V_ld (pc := 171) dX11_repeated_171 (v := vr 30) rfl rfl ?_
      refine V_getIv (pc := 172) dX11_repeated_172 (v := 100) fw_RX11_166 rfl hL.t30 (by first | exact ((hF149 30 20 (by omega) (by omega)).trans (by first | rfl | (simp only [mI_setI, up2]; repeat (first | rfl | rw [if_neg (by omega)] | rw [if_pos (by omega)])))) | (simp only [mI_setI, up2]; repeat (first | exact ((hF149 30 20 (by omega) (by omega)).trans (by first | rfl | (simp only [mI_setI, up2]; repeat (first | rfl | rw [if_neg (by omega)] | rw [if_pos (by omega)])))) | rw [if_neg (by omega)]))) (fun g172 => ?_)
      refine V_iast (pc := 175) dX11_repeated_175 hL.t38 (by omega) ?_
      refine V_ld (pc := 176) dX11_repeated_176 (v := vr 30) rfl rfl ?_
      refine V_getRv (pc := 177) dX11_repeated_177 (o' := 39) fw_RX11_36 rfl hL.t30 hL.r30_14 ?_
      refine V_ld (pc := 180) dX11_repeated_180 (v := vi ((((advP (advP (atoL tx n k S).2))).2.2.1 : Nat) : Int)) rfl rfl ?_
      refine V_ld (pc := 182) dX11_repeated_182 (v := vi x111) rfl rfl ?_
      refine V_if_eq (pc := 184) dX11_repeated_184 (tgt := 191) rfl (fun h184 => ?_) (fun h184 => ?_)
      · skip
        refine V_iconst (pc := 191) dX11_repeated_191 (by unfold I32; omega) ?_
        refine V_iast (pc := 192) dX11_repeated_192 hL.t39 (by omega) ?_
        refine V_ld (pc := 193) dX11_repeated_193 (v := vi ((((advP (advP (atoL tx n k S).2))).2.2.1 : Nat) : Int)) rfl rfl ?_
        refine V_reti (pc := 195) dX11_repeated_195 trivial ?_
        first
          | (exfalso; omega)
          | (have eA : repL tx n k S = timesP (advP (advP (atoL tx n k S).2)) (atoL tx n k S).1 0 100 0 := by
               unfold repL repP
               rw [if_pos (by omega), hQ]
               show (if ((advP (atoL tx n k S).2)).1 = true then (if cS tx n (advP (atoL tx n k S).2) = 63 then timesP (advP (advP (atoL tx n k S).2)) (atoL tx n k S).1 0 100 0 else timesP (advP (atoL tx n k S).2) (atoL tx n k S).1 0 100 1) else (-5, (advP (atoL tx n k S).2))) = _
               rw [if_pos hwq, if_pos (by omega)]
             refine ⟨mI (setI (setI (setI (wI (setI (setI (setI (setI (wI m I) 30 19 0) 30 20 100) 30 7 (((atoL tx n k S).2.2.1 : Int) + 1)) 30 7 ((((atoL tx n k S).2.2.1 : Int) + 1) + 1)) Ix149) 37 (((((advP (advP (atoL tx n k S).2))).2.2.1 : Nat) : Int).toNat) 0) 38 (((((advP (advP (atoL tx n k S).2))).2.2.1 : Nat) : Int).toNat) 100) 39 (((((advP (advP (atoL tx n k S).2))).2.2.1 : Nat) : Int).toNat) 1), rfl, by rw [eA]; rfl, ?_, (RFr.set (RFr.set (RFr.set (RFr.tr (RFr.set (RFr.set (RFr.set (RFr.set hF (by omega)) (by omega)) (by omega)) (by omega)) (RFp.r hF149)) (by omega)) (by omega)) (by omega))⟩
             rw [eA]
             exact RP.times (RP.rnd hPr (fun _ => by omega) hT149 hc149 hF149))
      · skip
        refine V_iconst (pc := 187) dX11_repeated_187 (by unfold I32; omega) ?_
        refine V_goto (pc := 188) dX11_repeated_188 (tgt := 192) rfl ?_
        refine V_iast (pc := 192) dX11_repeated_192 hL.t39 (by omega) ?_
        refine V_ld (pc := 193) dX11_repeated_193 (v := vi ((((advP (advP (atoL tx n k S).2))).2.2.1 : Nat) : Int)) rfl rfl ?_
        refine V_reti (pc := 195) dX11_repeated_195 trivial ?_
        first
          | (exfalso; omega)
          | (have eA : repL tx n k S = timesP (advP (advP (atoL tx n k S).2)) (atoL tx n k S).1 0 100 0 := by
               unfold repL repP
               rw [if_pos (by omega), hQ]
               show (if ((advP (atoL tx n k S).2)).1 = true then (if cS tx n (advP (atoL tx n k S).2) = 63 then timesP (advP (advP (atoL tx n k S).2)) (atoL tx n k S).1 0 100 0 else timesP (advP (atoL tx n k S).2) (atoL tx n k S).1 0 100 1) else (-5, (advP (atoL tx n k S).2))) = _
               rw [if_pos hwq, if_pos (by omega)]
             refine ⟨mI (setI (setI (setI (wI (setI (setI (setI (setI (wI m I) 30 19 0) 30 20 100) 30 7 (((atoL tx n k S).2.2.1 : Int) + 1)) 30 7 ((((atoL tx n k S).2.2.1 : Int) + 1) + 1)) Ix149) 37 (((((advP (advP (atoL tx n k S).2))).2.2.1 : Nat) : Int).toNat) 0) 38 (((((advP (advP (atoL tx n k S).2))).2.2.1 : Nat) : Int).toNat) 100) 39 (((((advP (advP (atoL tx n k S).2))).2.2.1 : Nat) : Int).toNat) 0), rfl, by rw [eA]; rfl, ?_, (RFr.set (RFr.set (RFr.set (RFr.tr (RFr.set (RFr.set (RFr.set (RFr.set hF (by omega)) (by omega)) (by omega)) (by omega)) (RFp.r hF149)) (by omega)) (by omega)) (by omega))⟩
             rw [eA]
             exact RP.times (RP.rnd hPr (fun _ => by omega) hT149 hc149 hF149))
    · skip
      refine V_bipush (pc := 142) dX11_repeated_142 (by unfold I32; omega) (by decide) ?_
      refine V_reti (pc := 144) dX11_repeated_144 trivial ?_
      exfalso
      have h2_ := (hwr.resolve_left (fun h => by have h4_ : mI (wI m I) 30 8 = 1 := h.2; omega)).1
      have h3_ : (advP (advP (atoL tx n k S).2)).1 = true := hz1
      rw [h2_] at h3_; cases h3_

set_option maxHeartbeats 8000000 in
theorem L_rep43 {tx : Nat → Int} {n k : Nat} {S : PS} {m : Mem} {deep : Int} {I : Nat → Nat → Int} (hL : Lay (mT m) (mR m)) (hP : RP I tx n (atoL tx n k S).2) (hF : RFr (mI m) I) (hcc : cS tx n (atoL tx n k S).2 = 43) : V μX11_repeated (4 + 5 * k) m (ri fun x_ m' => ∃ I_ : Nat → Nat → Int, wI m I_ = m' ∧ (x_ = (repL tx n k S).1) ∧ RP I_ tx n (repL tx n k S).2 ∧ RFr (mI m) I_) 44 [(2, vi ((atoL tx n k S).1)), (0, vr 30), (1, vi deep)] [] (wI m I) := by
  obtain ⟨hS1, hSl⟩ := cS_lt (tx := tx) (n := n) (S := (atoL tx n k S).2) (by omega)
  have hn120 := hP.2.2.2.2.2.2.1
  obtain ⟨n1, n2, n3, n4, n5, n6, n7, n8⟩ := (atoL_nice tx n k S).2 hS1
  have n9 := RP.c240 hP hS1
  have n10 := hP.2.2.2.2.2.1 hS1
  have hQ : quantP tx n (atoL tx n k S).2 = ((1, 100, (advP (atoL tx n k S).2)) : Int × Int × PS) := by unfold quantP; rw [if_neg (by omega)]; simp [hcc]
  refine V_ld (pc := 44) dX11_repeated_44 (v := vr 30) rfl rfl ?_
  refine V_getRv (pc := 45) dX11_repeated_45 (o' := 34) fw_RX11_21 rfl hL.t30 hL.r30_5 ?_
  refine V_ld (pc := 48) dX11_repeated_48 (v := vr 30) rfl rfl ?_
  refine V_getIv (pc := 49) dX11_repeated_49 (v := ((atoL tx n k S).2.2.1 : Int)) fw_RX11_125 rfl hL.t30 hP.2.1 (fun g49 => ?_)
  refine V_ialdv (pc := 52) dX11_repeated_52 (v := 43) hL.t34 (by omega) ((RPrd hP hS1 hSl).trans hcc) (fun g52 => ?_)
  refine V_st (pc := 53) dX11_repeated_53 (ls' := [(3, vi 43), (2, vi ((atoL tx n k S).1)), (0, vr 30), (1, vi deep)]) rfl (Nat.le_of_ble_eq_true rfl) rfl ?_
  refine V_ld (pc := 54) dX11_repeated_54 (v := vr 30) rfl rfl ?_
  refine V_ld (pc := 55) dX11_repeated_55 (v := vi 43) rfl rfl ?_
  refine V_bipush (pc := 56) dX11_repeated_56 (by unfold I32; omega) (by decide) ?_
  refine V_icmp_ne (pc := 58) dX11_repeated_58 (tgt := 65) rfl (fun h_ => absurd h_ (by decide)) (fun _ => ?_)
  refine V_iconst (pc := 61) dX11_repeated_61 (by unfold I32; omega) ?_
  refine V_goto (pc := 62) dX11_repeated_62 (tgt := 66) rfl ?_
  refine V_putI (pc := 66) dX11_repeated_66 fw_RX11_163 rfl hL.t30 (Or.inl rfl) (Or.inl rfl) ?_
  refine V_ld (pc := 69) dX11_repeated_69 (v := vr 30) rfl rfl ?_
  refine V_ld (pc := 70) dX11_repeated_70 (v := vi 43) rfl rfl ?_
  refine V_bipush (pc := 71) dX11_repeated_71 (by unfold I32; omega) (by decide) ?_
  refine V_icmp_ne (pc := 73) dX11_repeated_73 (tgt := 80) rfl (fun _ => ?_) (fun h_ => absurd h_ (by decide))
  refine V_bipush (pc := 80) dX11_repeated_80 (by unfold I32; omega) (by decide) ?_
  refine V_putI (pc := 82) dX11_repeated_82 fw_RX11_166 rfl hL.t30 (Or.inl rfl) (Or.inl rfl) ?_
  refine V_ld (pc := 85) dX11_repeated_85 (v := vi 43) rfl rfl ?_
  refine V_bipush (pc := 86) dX11_repeated_86 (by unfold I32; omega) (by decide) ?_
  refine V_icmp_ne (pc := 88) dX11_repeated_88 (tgt := 98) rfl (fun _ => ?_) (fun h_ => absurd h_ (by decide))
  refine V_ld (pc := 98) dX11_repeated_98 (v := vr 30) rfl rfl ?_
  refine V_dup (pc := 99) dX11_repeated_99 rfl ?_
  refine V_getIv (pc := 100) dX11_repeated_100 (v := ((atoL tx n k S).2.2.1 : Int)) fw_RX11_125 rfl hL.t30 (by first | exact hP.2.1 | (simp only [mI_setI, up2]; repeat (first | exact hP.2.1 | rw [if_neg (by omega)]))) (fun g100 => ?_)
  refine V_iconst (pc := 103) dX11_repeated_103 (by unfold I32; omega) ?_
  refine V_iadd (pc := 104) dX11_repeated_104 (by unfold I32 at *; omega) ?_
  refine V_putI (pc := 105) dX11_repeated_105 fw_RX11_125 rfl hL.t30 (Or.inl rfl) (Or.inl rfl) ?_
  have hPq : RP (mI (setI (setI (setI (wI m I) 30 19 1) 30 20 100) 30 7 (((atoL tx n k S).2.2.1 : Int) + 1))) tx n (advP (atoL tx n k S).2) := RP.adv (RP.oth (RP.oth hP (Or.inl rfl)) (Or.inr rfl)) (congrArg (fun z => z + 1) hP.2.1.symm) (show I 30 7 < I 30 6 from by have h1_ := hP.1; have h2_ := hP.2.1; omega)
  have hq2 : ((advP (atoL tx n k S).2)).2.2 = (atoL tx n k S).2.2.2 := rfl
  have hq1 : ((advP (atoL tx n k S).2)).1 = true → (atoL tx n k S).2.2.1 < ((advP (atoL tx n k S).2)).2.1 := fun _ => Nat.lt_succ_self _
  have hqn := hPq.2.2.2.2.1
  have hadv : (advP (atoL tx n k S).2).2.1 = (atoL tx n k S).2.2.1 + 1 := rfl
  refine V_ld (pc := 108) dX11_repeated_108 (v := vr 30) rfl rfl ?_
  refine V_bipush (pc := 109) dX11_repeated_109 (by unfold I32; omega) (by decide) ?_
  refine V_callV (pc := 111) dX11_repeated_111 (F' := 0) (As := [vi 63]) (st := []) cw_RX11_132 rfl rfl hL.t30 (by decide) (Nat.le_of_ble_eq_true rfl) (by omega) (r_isAt tx n (advP (atoL tx n k S).2) (setI (setI (setI (wI m I) 30 19 1) 30 20 100) 30 7 (((atoL tx n k S).2.2.1 : Int) + 1)) 63   (by first | assumption | omega) hPq (by decide)) ?_
  rintro _ _ ⟨x111, rfl, hx111, rfl⟩ ok111 le111
  refine V_st (pc := 114) dX11_repeated_114 (ls' := [(4, vi x111), (3, vi 43), (2, vi ((atoL tx n k S).1)), (0, vr 30), (1, vi deep)]) rfl (Nat.le_of_ble_eq_true rfl) rfl ?_
  refine V_ld (pc := 116) dX11_repeated_116 (v := vr 30) rfl rfl ?_
  refine V_dup (pc := 117) dX11_repeated_117 rfl ?_
  refine V_getIv (pc := 118) dX11_repeated_118 (v := ((atoL tx n k S).2.2.1 : Int) + 1) fw_RX11_125 rfl hL.t30 (by first | rfl | (simp only [mI_setI, up2]; repeat (first | rfl | rw [if_neg (by omega)] | rw [if_pos (by omega)]))) (fun g118 => ?_)
  refine V_ld (pc := 121) dX11_repeated_121 (v := vi x111) rfl rfl ?_
  refine V_if_eq (pc := 123) dX11_repeated_123 (tgt := 130) rfl (fun h123 => ?_) (fun h123 => ?_)
  · skip
    refine V_iconst (pc := 130) dX11_repeated_130 (by unfold I32; omega) ?_
    refine V_iadd (pc := 131) dX11_repeated_131 (by unfold I32 at *; omega) ?_
    refine V_putI (pc := 132) dX11_repeated_132 fw_RX11_125 rfl hL.t30 (Or.inl rfl) (Or.inl rfl) ?_
    have hPr : RP (mI (setI (setI (setI (setI (wI m I) 30 19 1) 30 20 100) 30 7 (((atoL tx n k S).2.2.1 : Int) + 1)) 30 7 ((((atoL tx n k S).2.2.1 : Int) + 1) + 0))) tx n (advP (atoL tx n k S).2) := RP.same hPq (by omega)
    have hwr := RP.wl hPr
    refine V_ld (pc := 135) dX11_repeated_135 (v := vr 30) rfl rfl ?_
    refine V_getIv (pc := 136) dX11_repeated_136 (v := mI (wI m I) 30 8) fw_RX11_128 rfl hL.t30 (by first | rfl | (simp only [mI_setI, up2]; repeat (first | rfl | rw [if_neg (by omega)] | rw [if_pos (by omega)]))) (fun g136 => ?_)
    refine V_if_ne (pc := 139) dX11_repeated_139 (tgt := 145) rfl (fun h139 => ?_) (fun h139 => ?_)
    · skip
      have hw : ((advP (atoL tx n k S).2)).1 = true := (hwr.resolve_right (fun h => h139 h.2)).1
      have hwq : ((advP (atoL tx n k S).2)).1 = true := hw
      have hq3 := hq1 hwq
      have hc_ : ((advP (atoL tx n k S).2)).2.2.1 = (atoL tx n k S).2.2.2.1 := congrArg (fun z => z.1) hq2
      have hF_ : ((advP (atoL tx n k S).2)).2.2.2 = (atoL tx n k S).2.2.2.2 := congrArg (fun z => z.2) hq2
      have hi_ : ((advP (atoL tx n k S).2)).2.1 ≤ ((advP (atoL tx n k S).2)).2.1 := Nat.le_refl _
      have hch : chE ((advP (atoL tx n k S).2)).2.2.2 (((advP (atoL tx n k S).2)).2.2.1 : Int) 1 (atoL tx n k S).1 := ⟨by omega, by omega, by rw [hF_]; exact n7⟩
      refine V_ld (pc := 145) dX11_repeated_145 (v := vr 30) rfl rfl ?_
      refine V_iconst (pc := 146) dX11_repeated_146 (by unfold I32; omega) ?_
      refine V_ld (pc := 147) dX11_repeated_147 (v := vi ((atoL tx n k S).1)) rfl rfl ?_
      refine V_iconst (pc := 148) dX11_repeated_148 (by unfold I32; omega) ?_
      refine V_callV (pc := 149) dX11_repeated_149 (F' := 1) (As := [vi 5, vi ((atoL tx n k S).1), vi 1]) (st := []) cw_RX11_153 rfl rfl hL.t30 (by decide) (Nat.le_of_ble_eq_true rfl) (by omega) (r_round (((advP (atoL tx n k S).2)).2.2.2) (((advP (atoL tx n k S).2)).2.2.1) 1 (gT ((advP (atoL tx n k S).2)).2.2.2 5 (atoL tx n k S).1 1) (setI (setI (setI (setI (wI m I) 30 19 1) 30 20 100) 30 7 (((atoL tx n k S).2.2.1 : Int) + 1)) 30 7 ((((atoL tx n k S).2.2.1 : Int) + 1) + 0)) 5 ((atoL tx n k S).1) 1   (by first | assumption | omega) ⟨hPr.2.2.2.1, by omega⟩ hPr.2.2.2.2.2.2.2.2 hch rfl) ?_
      rintro _ _ ⟨x149, rfl, Ix149, rfl, rfl, hT149, hc149, hF149⟩ ok149 le149
      refine V_st (pc := 152) dX11_repeated_152 (ls' := [(5, vi ((((advP (atoL tx n k S).2)).2.2.1 : Nat) : Int)), (4, vi x111), (3, vi 43), (2, vi ((atoL tx n k S).1)), (0, vr 30), (1, vi deep)]) rfl (Nat.le_of_ble_eq_true rfl) rfl ?_
      refine V_ld (pc := 154) dX11_repeated_154 (v := vr 30) rfl rfl ?_
      refine V_getRv (pc := 155) dX11_repeated_155 (o' := 37) fw_RX11_30 rfl hL.t30 hL.r30_12 ?_
      refine V_ld (pc := 158) dX11_repeated_158 (v := vi ((((advP (atoL tx n k S).2)).2.2.1 : Nat) : Int)) rfl rfl ?_
      refine V_ld (pc := 160) dX11_repeated_160 (v := vr 30) rfl rfl ?_
      refine V_getIv (pc := 161) dX11_repeated_161 (v := 1) fw_RX11_163 rfl hL.t30 ((hF149 30 19 (by omega) (by omega)).trans (by first | rfl | (simp only [mI_setI, up2]; repeat (first | rfl | rw [if_neg (by omega)] | rw [if_pos (by omega)])))) (fun g161 => ?_)
      refine V_iast (pc := 164) dX11_repeated_164 hL.t37 (by omega) ?_
      refine V_ld (pc := 165) dX11_repeated_165 (v := vr 30) rfl rfl ?_
      refine V_getRv (pc := 166) dX11_repeated_166 (o' := 38) fw_RX11_33 rfl hL.t30 hL.r30_13 ?_
      refine V_ld (pc := 169) dX11_repeated_169 (v := vi ((((advP (atoL tx n k S).2)).2.2.1 : Nat) : Int)) rfl rfl ?_
      refine V_ld (pc := 171) dX11_repeated_171 (v := vr 30) rfl rfl ?_
      refine V_getIv (pc := 172) dX11_repeated_172 (v := 100) fw_RX11_166 rfl hL.t30 (by first | exact ((hF149 30 20 (by omega) (by omega)).trans (by first | rfl | (simp only [mI_setI, up2]; repeat (first | rfl | rw [if_neg (by omega)] | rw [if_pos (by omega)])))) | (simp only [mI_setI, up2]; repeat (first | exact ((hF149 30 20 (by omega) (by omega)).trans (by first | rfl | (simp only [mI_setI, up2]; repeat (first | rfl | rw [if_neg (by omega)] | rw [if_pos (by omega)])))) | rw [if_neg (by omega)]))) (fun g172 => ?_)
      refine V_iast (pc := 175) dX11_repeated_175 hL.t38 (by omega) ?_
      refine V_ld (pc := 176) dX11_repeated_176 (v := vr 30) rfl rfl ?_
      refine V_getRv (pc := 177) dX11_repeated_177 (o' := 39) fw_RX11_36 rfl hL.t30 hL.r30_14 ?_
      refine V_ld (pc := 180) dX11_repeated_180 (v := vi ((((advP (atoL tx n k S).2)).2.2.1 : Nat) : Int)) rfl rfl ?_
      refine V_ld (pc := 182) dX11_repeated_182 (v := vi x111) rfl rfl ?_
      refine V_if_eq (pc := 184) dX11_repeated_184 (tgt := 191) rfl (fun h184 => ?_) (fun h184 => ?_)
      · skip
        refine V_iconst (pc := 191) dX11_repeated_191 (by unfold I32; omega) ?_
        refine V_iast (pc := 192) dX11_repeated_192 hL.t39 (by omega) ?_
        refine V_ld (pc := 193) dX11_repeated_193 (v := vi ((((advP (atoL tx n k S).2)).2.2.1 : Nat) : Int)) rfl rfl ?_
        refine V_reti (pc := 195) dX11_repeated_195 trivial ?_
        first
          | (exfalso; omega)
          | (have eA : repL tx n k S = timesP (advP (atoL tx n k S).2) (atoL tx n k S).1 1 100 1 := by
               unfold repL repP
               rw [if_pos (by omega), hQ]
               show (if ((advP (atoL tx n k S).2)).1 = true then (if cS tx n (advP (atoL tx n k S).2) = 63 then timesP (advP (advP (atoL tx n k S).2)) (atoL tx n k S).1 1 100 0 else timesP (advP (atoL tx n k S).2) (atoL tx n k S).1 1 100 1) else (-5, (advP (atoL tx n k S).2))) = _
               rw [if_pos hwq, if_neg (by omega)]
             refine ⟨mI (setI (setI (setI (wI (setI (setI (setI (setI (wI m I) 30 19 1) 30 20 100) 30 7 (((atoL tx n k S).2.2.1 : Int) + 1)) 30 7 ((((atoL tx n k S).2.2.1 : Int) + 1) + 0)) Ix149) 37 (((((advP (atoL tx n k S).2)).2.2.1 : Nat) : Int).toNat) 1) 38 (((((advP (atoL tx n k S).2)).2.2.1 : Nat) : Int).toNat) 100) 39 (((((advP (atoL tx n k S).2)).2.2.1 : Nat) : Int).toNat) 1), rfl, by rw [eA]; rfl, ?_, (RFr.set (RFr.set (RFr.set (RFr.tr (RFr.set (RFr.set (RFr.set (RFr.set hF (by omega)) (by omega)) (by omega)) (by omega)) (RFp.r hF149)) (by omega)) (by omega)) (by omega))⟩
             rw [eA]
             exact RP.times (RP.rnd hPr (fun _ => by omega) hT149 hc149 hF149))
      · skip
        refine V_iconst (pc := 187) dX11_repeated_187 (by unfold I32; omega) ?_
        refine V_goto (pc := 188) dX11_repeated_188 (tgt := 192) rfl ?_
        refine V_iast (pc := 192) dX11_repeated_192 hL.t39 (by omega) ?_
        refine V_ld (pc := 193) dX11_repeated_193 (v := vi ((((advP (atoL tx n k S).2)).2.2.1 : Nat) : Int)) rfl rfl ?_
        refine V_reti (pc := 195) dX11_repeated_195 trivial ?_
        first
          | (exfalso; omega)
          | (have eA : repL tx n k S = timesP (advP (atoL tx n k S).2) (atoL tx n k S).1 1 100 1 := by
               unfold repL repP
               rw [if_pos (by omega), hQ]
               show (if ((advP (atoL tx n k S).2)).1 = true then (if cS tx n (advP (atoL tx n k S).2) = 63 then timesP (advP (advP (atoL tx n k S).2)) (atoL tx n k S).1 1 100 0 else timesP (advP (atoL tx n k S).2) (atoL tx n k S).1 1 100 1) else (-5, (advP (atoL tx n k S).2))) = _
               rw [if_pos hwq, if_neg (by omega)]
             refine ⟨mI (setI (setI (setI (wI (setI (setI (setI (setI (wI m I) 30 19 1) 30 20 100) 30 7 (((atoL tx n k S).2.2.1 : Int) + 1)) 30 7 ((((atoL tx n k S).2.2.1 : Int) + 1) + 0)) Ix149) 37 (((((advP (atoL tx n k S).2)).2.2.1 : Nat) : Int).toNat) 1) 38 (((((advP (atoL tx n k S).2)).2.2.1 : Nat) : Int).toNat) 100) 39 (((((advP (atoL tx n k S).2)).2.2.1 : Nat) : Int).toNat) 0), rfl, by rw [eA]; rfl, ?_, (RFr.set (RFr.set (RFr.set (RFr.tr (RFr.set (RFr.set (RFr.set (RFr.set hF (by omega)) (by omega)) (by omega)) (by omega)) (RFp.r hF149)) (by omega)) (by omega)) (by omega))⟩
             rw [eA]
             exact RP.times (RP.rnd hPr (fun _ => by omega) hT149 hc149 hF149))
    · skip
      refine V_bipush (pc := 142) dX11_repeated_142 (by unfold I32; omega) (by decide) ?_
      refine V_reti (pc := 144) dX11_repeated_144 trivial ?_
      have hnw : ¬ ((advP (atoL tx n k S).2)).1 = true := fun h => by have h_ := (hwr.resolve_left (fun h2 => by have h4_ : mI (wI m I) 30 8 = 1 := h2.2; omega)).1; rw [h] at h_; cases h_
      have eA : repL tx n k S = (-5, (advP (atoL tx n k S).2)) := by
        unfold repL repP
        rw [if_pos (by omega), hQ]
        exact if_neg hnw
      refine ⟨mI (setI (setI (setI (setI (wI m I) 30 19 1) 30 20 100) 30 7 (((atoL tx n k S).2.2.1 : Int) + 1)) 30 7 ((((atoL tx n k S).2.2.1 : Int) + 1) + 0)), rfl, by rw [eA], ?_, (RFr.set (RFr.set (RFr.set (RFr.set hF (by omega)) (by omega)) (by omega)) (by omega))⟩
      rw [eA]
      exact hPr
  · skip
    skip
    refine V_iconst (pc := 126) dX11_repeated_126 (by unfold I32; omega) ?_
    refine V_goto (pc := 127) dX11_repeated_127 (tgt := 131) rfl ?_
    refine V_iadd (pc := 131) dX11_repeated_131 (by unfold I32 at *; omega) ?_
    refine V_putI (pc := 132) dX11_repeated_132 fw_RX11_125 rfl hL.t30 (Or.inl rfl) (Or.inl rfl) ?_
    obtain ⟨hz1, hz2⟩ := cS_lt (tx := tx) (n := n) (S := (advP (atoL tx n k S).2)) (by omega)
    have hPr : RP (mI (setI (setI (setI (setI (wI m I) 30 19 1) 30 20 100) 30 7 (((atoL tx n k S).2.2.1 : Int) + 1)) 30 7 ((((atoL tx n k S).2.2.1 : Int) + 1) + 1))) tx n (advP (advP (atoL tx n k S).2)) := RP.adv hPq (congrArg (fun z => z + 1) hPq.2.1.symm) (Int.lt_of_le_of_lt (Int.le_of_eq hPq.2.1) (Int.lt_of_lt_of_le (Int.ofNat_lt.mpr hz2) (Int.le_of_eq hPq.1.symm)))
    have hadv2 : (advP (advP (atoL tx n k S).2)).2.1 = ((advP (atoL tx n k S).2)).2.1 + 1 := rfl
    have hwr := RP.wl hPr
    refine V_ld (pc := 135) dX11_repeated_135 (v := vr 30) rfl rfl ?_
    refine V_getIv (pc := 136) dX11_repeated_136 (v := mI (wI m I) 30 8) fw_RX11_128 rfl hL.t30 (by first | rfl | (simp only [mI_setI, up2]; repeat (first | rfl | rw [if_neg (by omega)] | rw [if_pos (by omega)]))) (fun g136 => ?_)
    refine V_if_ne (pc := 139) dX11_repeated_139 (tgt := 145) rfl (fun h139 => ?_) (fun h139 => ?_)
    · skip
      have hw : ((advP (advP (atoL tx n k S).2))).1 = true := (hwr.resolve_right (fun h => h139 h.2)).1
      have hwq : ((advP (atoL tx n k S).2)).1 = true := hw
      have hq3 := hq1 hwq
      have hc_ : ((advP (advP (atoL tx n k S).2))).2.2.1 = (atoL tx n k S).2.2.2.1 := congrArg (fun z => z.1) hq2
      have hF_ : ((advP (advP (atoL tx n k S).2))).2.2.2 = (atoL tx n k S).2.2.2.2 := congrArg (fun z => z.2) hq2
      have hi_ : ((advP (atoL tx n k S).2)).2.1 ≤ ((advP (advP (atoL tx n k S).2))).2.1 := Nat.le_succ _
      have hch : chE ((advP (advP (atoL tx n k S).2))).2.2.2 (((advP (advP (atoL tx n k S).2))).2.2.1 : Int) 1 (atoL tx n k S).1 := ⟨by omega, by omega, by rw [hF_]; exact n7⟩
      refine V_ld (pc := 145) dX11_repeated_145 (v := vr 30) rfl rfl ?_
      refine V_iconst (pc := 146) dX11_repeated_146 (by unfold I32; omega) ?_
      refine V_ld (pc := 147) dX11_repeated_147 (v := vi ((atoL tx n k S).1)) rfl rfl ?_
      refine V_iconst (pc := 148) dX11_repeated_148 (by unfold I32; omega) ?_
      refine V_callV (pc := 149) dX11_repeated_149 (F' := 1) (As := [vi 5, vi ((atoL tx n k S).1), vi 1]) (st := []) cw_RX11_153 rfl rfl hL.t30 (by decide) (Nat.le_of_ble_eq_true rfl) (by omega) (r_round (((advP (advP (atoL tx n k S).2))).2.2.2) (((advP (advP (atoL tx n k S).2))).2.2.1) 1 (gT ((advP (advP (atoL tx n k S).2))).2.2.2 5 (atoL tx n k S).1 1) (setI (setI (setI (setI (wI m I) 30 19 1) 30 20 100) 30 7 (((atoL tx n k S).2.2.1 : Int) + 1)) 30 7 ((((atoL tx n k S).2.2.1 : Int) + 1) + 1)) 5 ((atoL tx n k S).1) 1   (by first | assumption | omega) ⟨hPr.2.2.2.1, by omega⟩ hPr.2.2.2.2.2.2.2.2 hch rfl) ?_
      rintro _ _ ⟨x149, rfl, Ix149, rfl, rfl, hT149, hc149, hF149⟩ ok149 le149
      refine V_st (pc := 152) dX11_repeated_152 (ls' := [(5, vi ((((advP (advP (atoL tx n k S).2))).2.2.1 : Nat) : Int)), (4, vi x111), (3, vi 43), (2, vi ((atoL tx n k S).1)), (0, vr 30), (1, vi deep)]) rfl (Nat.le_of_ble_eq_true rfl) rfl ?_
      refine V_ld (pc := 154) dX11_repeated_154 (v := vr 30) rfl rfl ?_
      refine V_getRv (pc := 155) dX11_repeated_155 (o' := 37) fw_RX11_30 rfl hL.t30 hL.r30_12 ?_
      refine V_ld (pc := 158) dX11_repeated_158 (v := vi ((((advP (advP (atoL tx n k S).2))).2.2.1 : Nat) : Int)) rfl rfl ?_
      refine V_ld (pc := 160) dX11_repeated_160 (v := vr 30) rfl rfl ?_
      refine V_getIv (pc := 161) dX11_repeated_161 (v := 1) fw_RX11_163 rfl hL.t30 ((hF149 30 19 (by omega) (by omega)).trans (by first | rfl | (simp only [mI_setI, up2]; repeat (first | rfl | rw [if_neg (by omega)] | rw [if_pos (by omega)])))) (fun g161 => ?_)
      refine V_iast (pc := 164) dX11_repeated_164 hL.t37 (by omega) ?_
      refine V_ld (pc := 165) dX11_repeated_165 (v := vr 30) rfl rfl ?_
      refine V_getRv (pc := 166) dX11_repeated_166 (o' := 38) fw_RX11_33 rfl hL.t30 hL.r30_13 ?_
      refine V_ld (pc := 169) dX11_repeated_169 (v := vi ((((advP (advP (atoL tx n k S).2))).2.2.1 : Nat) : Int)) rfl rfl ?_
      refine V_ld (pc := 171) dX11_repeated_171 (v := vr 30) rfl rfl ?_
      refine V_getIv (pc := 172) dX11_repeated_172 (v := 100) fw_RX11_166 rfl hL.t30 (by first | exact ((hF149 30 20 (by omega) (by omega)).trans (by first | rfl | (simp only [mI_setI, up2]; repeat (first | rfl | rw [if_neg (by omega)] | rw [if_pos (by omega)])))) | (simp only [mI_setI, up2]; repeat (first | exact ((hF149 30 20 (by omega) (by omega)).trans (by first | rfl | (simp only [mI_setI, up2]; repeat (first | rfl | rw [if_neg (by omega)] | rw [if_pos (by omega)])))) | rw [if_neg (by omega)]))) (fun g172 => ?_)
      refine V_iast (pc := 175) dX11_repeated_175 hL.t38 (by omega) ?_
      refine V_ld (pc := 176) dX11_repeated_176 (v := vr 30) rfl rfl ?_
      refine V_getRv (pc := 177) dX11_repeated_177 (o' := 39) fw_RX11_36 rfl hL.t30 hL.r30_14 ?_
      refine V_ld (pc := 180) dX11_repeated_180 (v := vi ((((advP (advP (atoL tx n k S).2))).2.2.1 : Nat) : Int)) rfl rfl ?_
      refine V_ld (pc := 182) dX11_repeated_182 (v := vi x111) rfl rfl ?_
      refine V_if_eq (pc := 184) dX11_repeated_184 (tgt := 191) rfl (fun h184 => ?_) (fun h184 => ?_)
      · skip
        refine V_iconst (pc := 191) dX11_repeated_191 (by unfold I32; omega) ?_
        refine V_iast (pc := 192) dX11_repeated_192 hL.t39 (by omega) ?_
        refine V_ld (pc := 193) dX11_repeated_193 (v := vi ((((advP (advP (atoL tx n k S).2))).2.2.1 : Nat) : Int)) rfl rfl ?_
        refine V_reti (pc := 195) dX11_repeated_195 trivial ?_
        first
          | (exfalso; omega)
          | (have eA : repL tx n k S = timesP (advP (advP (atoL tx n k S).2)) (atoL tx n k S).1 1 100 0 := by
               unfold repL repP
               rw [if_pos (by omega), hQ]
               show (if ((advP (atoL tx n k S).2)).1 = true then (if cS tx n (advP (atoL tx n k S).2) = 63 then timesP (advP (advP (atoL tx n k S).2)) (atoL tx n k S).1 1 100 0 else timesP (advP (atoL tx n k S).2) (atoL tx n k S).1 1 100 1) else (-5, (advP (atoL tx n k S).2))) = _
               rw [if_pos hwq, if_pos (by omega)]
             refine ⟨mI (setI (setI (setI (wI (setI (setI (setI (setI (wI m I) 30 19 1) 30 20 100) 30 7 (((atoL tx n k S).2.2.1 : Int) + 1)) 30 7 ((((atoL tx n k S).2.2.1 : Int) + 1) + 1)) Ix149) 37 (((((advP (advP (atoL tx n k S).2))).2.2.1 : Nat) : Int).toNat) 1) 38 (((((advP (advP (atoL tx n k S).2))).2.2.1 : Nat) : Int).toNat) 100) 39 (((((advP (advP (atoL tx n k S).2))).2.2.1 : Nat) : Int).toNat) 1), rfl, by rw [eA]; rfl, ?_, (RFr.set (RFr.set (RFr.set (RFr.tr (RFr.set (RFr.set (RFr.set (RFr.set hF (by omega)) (by omega)) (by omega)) (by omega)) (RFp.r hF149)) (by omega)) (by omega)) (by omega))⟩
             rw [eA]
             exact RP.times (RP.rnd hPr (fun _ => by omega) hT149 hc149 hF149))
      · skip
        refine V_iconst (pc := 187) dX11_repeated_187 (by unfold I32; omega) ?_
        refine V_goto (pc := 188) dX11_repeated_188 (tgt := 192) rfl ?_
        refine V_iast (pc := 192) dX11_repeated_192 hL.t39 (by omega) ?_
        refine V_ld (pc := 193) dX11_repeated_193 (v := vi ((((advP (advP (atoL tx n k S).2))).2.2.1 : Nat) : Int)) rfl rfl ?_
        refine V_reti (pc := 195) dX11_repeated_195 trivial ?_
        first
          | (exfalso; omega)
          | (have eA : repL tx n k S = timesP (advP (advP (atoL tx n k S).2)) (atoL tx n k S).1 1 100 0 := by
               unfold repL repP
               rw [if_pos (by omega), hQ]
               show (if ((advP (atoL tx n k S).2)).1 = true then (if cS tx n (advP (atoL tx n k S).2) = 63 then timesP (advP (advP (atoL tx n k S).2)) (atoL tx n k S).1 1 100 0 else timesP (advP (atoL tx n k S).2) (atoL tx n k S).1 1 100 1) else (-5, (advP (atoL tx n k S).2))) = _
               rw [if_pos hwq, if_pos (by omega)]
             refine ⟨mI (setI (setI (setI (wI (setI (setI (setI (setI (wI m I) 30 19 1) 30 20 100) 30 7 (((atoL tx n k S).2.2.1 : Int) + 1)) 30 7 ((((atoL tx n k S).2.2.1 : Int) + 1) + 1)) Ix149) 37 (((((advP (advP (atoL tx n k S).2))).2.2.1 : Nat) : Int).toNat) 1) 38 (((((advP (advP (atoL tx n k S).2))).2.2.1 : Nat) : Int).toNat) 100) 39 (((((advP (advP (atoL tx n k S).2))).2.2.1 : Nat) : Int).toNat) 0), rfl, by rw [eA]; rfl, ?_, (RFr.set (RFr.set (RFr.set (RFr.tr (RFr.set (RFr.set (RFr.set (RFr.set hF (by omega)) (by omega)) (by omega)) (by omega)) (RFp.r hF149)) (by omega)) (by omega)) (by omega))⟩
             rw [eA]
             exact RP.times (RP.rnd hPr (fun _ => by omega) hT149 hc149 hF149))
    · skip
      refine V_bipush (pc := 142) dX11_repeated_142 (by unfold I32; omega) (by decide) ?_
      refine V_reti (pc := 144) dX11_repeated_144 trivial ?_
      exfalso
      have h2_ := (hwr.resolve_left (fun h => by have h4_ : mI (wI m I) 30 8 = 1 := h.2; omega)).1
      have h3_ : (advP (advP (atoL tx n k S).2)).1 = true := hz1
      rw [h2_] at h3_; cases h3_

set_option maxHeartbeats 8000000 in
theorem L_rep63 {tx : Nat → Int} {n k : Nat} {S : PS} {m : Mem} {deep : Int} {I : Nat → Nat → Int} (hL : Lay (mT m) (mR m)) (hP : RP I tx n (atoL tx n k S).2) (hF : RFr (mI m) I) (hcc : cS tx n (atoL tx n k S).2 = 63) : V μX11_repeated (4 + 5 * k) m (ri fun x_ m' => ∃ I_ : Nat → Nat → Int, wI m I_ = m' ∧ (x_ = (repL tx n k S).1) ∧ RP I_ tx n (repL tx n k S).2 ∧ RFr (mI m) I_) 44 [(2, vi ((atoL tx n k S).1)), (0, vr 30), (1, vi deep)] [] (wI m I) := by
  obtain ⟨hS1, hSl⟩ := cS_lt (tx := tx) (n := n) (S := (atoL tx n k S).2) (by omega)
  have hn120 := hP.2.2.2.2.2.2.1
  obtain ⟨n1, n2, n3, n4, n5, n6, n7, n8⟩ := (atoL_nice tx n k S).2 hS1
  have n9 := RP.c240 hP hS1
  have n10 := hP.2.2.2.2.2.1 hS1
  have hQ : quantP tx n (atoL tx n k S).2 = ((0, 1, (advP (atoL tx n k S).2)) : Int × Int × PS) := by unfold quantP; rw [if_neg (by omega)]; simp [hcc]
  refine V_ld (pc := 44) dX11_repeated_44 (v := vr 30) rfl rfl ?_
  refine V_getRv (pc := 45) dX11_repeated_45 (o' := 34) fw_RX11_21 rfl hL.t30 hL.r30_5 ?_
  refine V_ld (pc := 48) dX11_repeated_48 (v := vr 30) rfl rfl ?_
  refine V_getIv (pc := 49) dX11_repeated_49 (v := ((atoL tx n k S).2.2.1 : Int)) fw_RX11_125 rfl hL.t30 hP.2.1 (fun g49 => ?_)
  refine V_ialdv (pc := 52) dX11_repeated_52 (v := 63) hL.t34 (by omega) ((RPrd hP hS1 hSl).trans hcc) (fun g52 => ?_)
  refine V_st (pc := 53) dX11_repeated_53 (ls' := [(3, vi 63), (2, vi ((atoL tx n k S).1)), (0, vr 30), (1, vi deep)]) rfl (Nat.le_of_ble_eq_true rfl) rfl ?_
  refine V_ld (pc := 54) dX11_repeated_54 (v := vr 30) rfl rfl ?_
  refine V_ld (pc := 55) dX11_repeated_55 (v := vi 63) rfl rfl ?_
  refine V_bipush (pc := 56) dX11_repeated_56 (by unfold I32; omega) (by decide) ?_
  refine V_icmp_ne (pc := 58) dX11_repeated_58 (tgt := 65) rfl (fun _ => ?_) (fun h_ => absurd h_ (by decide))
  refine V_iconst (pc := 65) dX11_repeated_65 (by unfold I32; omega) ?_
  refine V_putI (pc := 66) dX11_repeated_66 fw_RX11_163 rfl hL.t30 (Or.inl rfl) (Or.inl rfl) ?_
  refine V_ld (pc := 69) dX11_repeated_69 (v := vr 30) rfl rfl ?_
  refine V_ld (pc := 70) dX11_repeated_70 (v := vi 63) rfl rfl ?_
  refine V_bipush (pc := 71) dX11_repeated_71 (by unfold I32; omega) (by decide) ?_
  refine V_icmp_ne (pc := 73) dX11_repeated_73 (tgt := 80) rfl (fun h_ => absurd h_ (by decide)) (fun _ => ?_)
  refine V_iconst (pc := 76) dX11_repeated_76 (by unfold I32; omega) ?_
  refine V_goto (pc := 77) dX11_repeated_77 (tgt := 82) rfl ?_
  refine V_putI (pc := 82) dX11_repeated_82 fw_RX11_166 rfl hL.t30 (Or.inl rfl) (Or.inl rfl) ?_
  refine V_ld (pc := 85) dX11_repeated_85 (v := vi 63) rfl rfl ?_
  refine V_bipush (pc := 86) dX11_repeated_86 (by unfold I32; omega) (by decide) ?_
  refine V_icmp_ne (pc := 88) dX11_repeated_88 (tgt := 98) rfl (fun _ => ?_) (fun h_ => absurd h_ (by decide))
  refine V_ld (pc := 98) dX11_repeated_98 (v := vr 30) rfl rfl ?_
  refine V_dup (pc := 99) dX11_repeated_99 rfl ?_
  refine V_getIv (pc := 100) dX11_repeated_100 (v := ((atoL tx n k S).2.2.1 : Int)) fw_RX11_125 rfl hL.t30 (by first | exact hP.2.1 | (simp only [mI_setI, up2]; repeat (first | exact hP.2.1 | rw [if_neg (by omega)]))) (fun g100 => ?_)
  refine V_iconst (pc := 103) dX11_repeated_103 (by unfold I32; omega) ?_
  refine V_iadd (pc := 104) dX11_repeated_104 (by unfold I32 at *; omega) ?_
  refine V_putI (pc := 105) dX11_repeated_105 fw_RX11_125 rfl hL.t30 (Or.inl rfl) (Or.inl rfl) ?_
  have hPq : RP (mI (setI (setI (setI (wI m I) 30 19 0) 30 20 1) 30 7 (((atoL tx n k S).2.2.1 : Int) + 1))) tx n (advP (atoL tx n k S).2) := RP.adv (RP.oth (RP.oth hP (Or.inl rfl)) (Or.inr rfl)) (congrArg (fun z => z + 1) hP.2.1.symm) (show I 30 7 < I 30 6 from by have h1_ := hP.1; have h2_ := hP.2.1; omega)
  have hq2 : ((advP (atoL tx n k S).2)).2.2 = (atoL tx n k S).2.2.2 := rfl
  have hq1 : ((advP (atoL tx n k S).2)).1 = true → (atoL tx n k S).2.2.1 < ((advP (atoL tx n k S).2)).2.1 := fun _ => Nat.lt_succ_self _
  have hqn := hPq.2.2.2.2.1
  have hadv : (advP (atoL tx n k S).2).2.1 = (atoL tx n k S).2.2.1 + 1 := rfl
  refine V_ld (pc := 108) dX11_repeated_108 (v := vr 30) rfl rfl ?_
  refine V_bipush (pc := 109) dX11_repeated_109 (by unfold I32; omega) (by decide) ?_
  refine V_callV (pc := 111) dX11_repeated_111 (F' := 0) (As := [vi 63]) (st := []) cw_RX11_132 rfl rfl hL.t30 (by decide) (Nat.le_of_ble_eq_true rfl) (by omega) (r_isAt tx n (advP (atoL tx n k S).2) (setI (setI (setI (wI m I) 30 19 0) 30 20 1) 30 7 (((atoL tx n k S).2.2.1 : Int) + 1)) 63   (by first | assumption | omega) hPq (by decide)) ?_
  rintro _ _ ⟨x111, rfl, hx111, rfl⟩ ok111 le111
  refine V_st (pc := 114) dX11_repeated_114 (ls' := [(4, vi x111), (3, vi 63), (2, vi ((atoL tx n k S).1)), (0, vr 30), (1, vi deep)]) rfl (Nat.le_of_ble_eq_true rfl) rfl ?_
  refine V_ld (pc := 116) dX11_repeated_116 (v := vr 30) rfl rfl ?_
  refine V_dup (pc := 117) dX11_repeated_117 rfl ?_
  refine V_getIv (pc := 118) dX11_repeated_118 (v := ((atoL tx n k S).2.2.1 : Int) + 1) fw_RX11_125 rfl hL.t30 (by first | rfl | (simp only [mI_setI, up2]; repeat (first | rfl | rw [if_neg (by omega)] | rw [if_pos (by omega)]))) (fun g118 => ?_)
  refine V_ld (pc := 121) dX11_repeated_121 (v := vi x111) rfl rfl ?_
  refine V_if_eq (pc := 123) dX11_repeated_123 (tgt := 130) rfl (fun h123 => ?_) (fun h123 => ?_)
  · skip
    refine V_iconst (pc := 130) dX11_repeated_130 (by unfold I32; omega) ?_
    refine V_iadd (pc := 131) dX11_repeated_131 (by unfold I32 at *; omega) ?_
    refine V_putI (pc := 132) dX11_repeated_132 fw_RX11_125 rfl hL.t30 (Or.inl rfl) (Or.inl rfl) ?_
    have hPr : RP (mI (setI (setI (setI (setI (wI m I) 30 19 0) 30 20 1) 30 7 (((atoL tx n k S).2.2.1 : Int) + 1)) 30 7 ((((atoL tx n k S).2.2.1 : Int) + 1) + 0))) tx n (advP (atoL tx n k S).2) := RP.same hPq (by omega)
    have hwr := RP.wl hPr
    refine V_ld (pc := 135) dX11_repeated_135 (v := vr 30) rfl rfl ?_
    refine V_getIv (pc := 136) dX11_repeated_136 (v := mI (wI m I) 30 8) fw_RX11_128 rfl hL.t30 (by first | rfl | (simp only [mI_setI, up2]; repeat (first | rfl | rw [if_neg (by omega)] | rw [if_pos (by omega)]))) (fun g136 => ?_)
    refine V_if_ne (pc := 139) dX11_repeated_139 (tgt := 145) rfl (fun h139 => ?_) (fun h139 => ?_)
    · skip
      have hw : ((advP (atoL tx n k S).2)).1 = true := (hwr.resolve_right (fun h => h139 h.2)).1
      have hwq : ((advP (atoL tx n k S).2)).1 = true := hw
      have hq3 := hq1 hwq
      have hc_ : ((advP (atoL tx n k S).2)).2.2.1 = (atoL tx n k S).2.2.2.1 := congrArg (fun z => z.1) hq2
      have hF_ : ((advP (atoL tx n k S).2)).2.2.2 = (atoL tx n k S).2.2.2.2 := congrArg (fun z => z.2) hq2
      have hi_ : ((advP (atoL tx n k S).2)).2.1 ≤ ((advP (atoL tx n k S).2)).2.1 := Nat.le_refl _
      have hch : chE ((advP (atoL tx n k S).2)).2.2.2 (((advP (atoL tx n k S).2)).2.2.1 : Int) 1 (atoL tx n k S).1 := ⟨by omega, by omega, by rw [hF_]; exact n7⟩
      refine V_ld (pc := 145) dX11_repeated_145 (v := vr 30) rfl rfl ?_
      refine V_iconst (pc := 146) dX11_repeated_146 (by unfold I32; omega) ?_
      refine V_ld (pc := 147) dX11_repeated_147 (v := vi ((atoL tx n k S).1)) rfl rfl ?_
      refine V_iconst (pc := 148) dX11_repeated_148 (by unfold I32; omega) ?_
      refine V_callV (pc := 149) dX11_repeated_149 (F' := 1) (As := [vi 5, vi ((atoL tx n k S).1), vi 1]) (st := []) cw_RX11_153 rfl rfl hL.t30 (by decide) (Nat.le_of_ble_eq_true rfl) (by omega) (r_round (((advP (atoL tx n k S).2)).2.2.2) (((advP (atoL tx n k S).2)).2.2.1) 1 (gT ((advP (atoL tx n k S).2)).2.2.2 5 (atoL tx n k S).1 1) (setI (setI (setI (setI (wI m I) 30 19 0) 30 20 1) 30 7 (((atoL tx n k S).2.2.1 : Int) + 1)) 30 7 ((((atoL tx n k S).2.2.1 : Int) + 1) + 0)) 5 ((atoL tx n k S).1) 1   (by first | assumption | omega) ⟨hPr.2.2.2.1, by omega⟩ hPr.2.2.2.2.2.2.2.2 hch rfl) ?_
      rintro _ _ ⟨x149, rfl, Ix149, rfl, rfl, hT149, hc149, hF149⟩ ok149 le149
      refine V_st (pc := 152) dX11_repeated_152 (ls' := [(5, vi ((((advP (atoL tx n k S).2)).2.2.1 : Nat) : Int)), (4, vi x111), (3, vi 63), (2, vi ((atoL tx n k S).1)), (0, vr 30), (1, vi deep)]) rfl (Nat.le_of_ble_eq_true rfl) rfl ?_
      refine V_ld (pc := 154) dX11_repeated_154 (v := vr 30) rfl rfl ?_
      refine V_getRv (pc := 155) dX11_repeated_155 (o' := 37) fw_RX11_30 rfl hL.t30 hL.r30_12 ?_
      refine V_ld (pc := 158) dX11_repeated_158 (v := vi ((((advP (atoL tx n k S).2)).2.2.1 : Nat) : Int)) rfl rfl ?_
      refine V_ld (pc := 160) dX11_repeated_160 (v := vr 30) rfl rfl ?_
      refine V_getIv (pc := 161) dX11_repeated_161 (v := 0) fw_RX11_163 rfl hL.t30 ((hF149 30 19 (by omega) (by omega)).trans (by first | rfl | (simp only [mI_setI, up2]; repeat (first | rfl | rw [if_neg (by omega)] | rw [if_pos (by omega)])))) (fun g161 => ?_)
      refine V_iast (pc := 164) dX11_repeated_164 hL.t37 (by omega) ?_
      refine V_ld (pc := 165) dX11_repeated_165 (v := vr 30) rfl rfl ?_
      refine V_getRv (pc := 166) dX11_repeated_166 (o' := 38) fw_RX11_33 rfl hL.t30 hL.r30_13 ?_
      refine V_ld (pc := 169) dX11_repeated_169 (v := vi ((((advP (atoL tx n k S).2)).2.2.1 : Nat) : Int)) rfl rfl ?_
      refine V_ld (pc := 171) dX11_repeated_171 (v := vr 30) rfl rfl ?_
      refine V_getIv (pc := 172) dX11_repeated_172 (v := 1) fw_RX11_166 rfl hL.t30 (by first | exact ((hF149 30 20 (by omega) (by omega)).trans (by first | rfl | (simp only [mI_setI, up2]; repeat (first | rfl | rw [if_neg (by omega)] | rw [if_pos (by omega)])))) | (simp only [mI_setI, up2]; repeat (first | exact ((hF149 30 20 (by omega) (by omega)).trans (by first | rfl | (simp only [mI_setI, up2]; repeat (first | rfl | rw [if_neg (by omega)] | rw [if_pos (by omega)])))) | rw [if_neg (by omega)]))) (fun g172 => ?_)
      refine V_iast (pc := 175) dX11_repeated_175 hL.t38 (by omega) ?_
      refine V_ld (pc := 176) dX11_repeated_176 (v := vr 30) rfl rfl ?_
      refine V_getRv (pc := 177) dX11_repeated_177 (o' := 39) fw_RX11_36 rfl hL.t30 hL.r30_14 ?_
      refine V_ld (pc := 180) dX11_repeated_180 (v := vi ((((advP (atoL tx n k S).2)).2.2.1 : Nat) : Int)) rfl rfl ?_
      refine V_ld (pc := 182) dX11_repeated_182 (v := vi x111) rfl rfl ?_
      refine V_if_eq (pc := 184) dX11_repeated_184 (tgt := 191) rfl (fun h184 => ?_) (fun h184 => ?_)
      · skip
        refine V_iconst (pc := 191) dX11_repeated_191 (by unfold I32; omega) ?_
        refine V_iast (pc := 192) dX11_repeated_192 hL.t39 (by omega) ?_
        refine V_ld (pc := 193) dX11_repeated_193 (v := vi ((((advP (atoL tx n k S).2)).2.2.1 : Nat) : Int)) rfl rfl ?_
        refine V_reti (pc := 195) dX11_repeated_195 trivial ?_
        first
          | (exfalso; omega)
          | (have eA : repL tx n k S = timesP (advP (atoL tx n k S).2) (atoL tx n k S).1 0 1 1 := by
               unfold repL repP
               rw [if_pos (by omega), hQ]
               show (if ((advP (atoL tx n k S).2)).1 = true then (if cS tx n (advP (atoL tx n k S).2) = 63 then timesP (advP (advP (atoL tx n k S).2)) (atoL tx n k S).1 0 1 0 else timesP (advP (atoL tx n k S).2) (atoL tx n k S).1 0 1 1) else (-5, (advP (atoL tx n k S).2))) = _
               rw [if_pos hwq, if_neg (by omega)]
             refine ⟨mI (setI (setI (setI (wI (setI (setI (setI (setI (wI m I) 30 19 0) 30 20 1) 30 7 (((atoL tx n k S).2.2.1 : Int) + 1)) 30 7 ((((atoL tx n k S).2.2.1 : Int) + 1) + 0)) Ix149) 37 (((((advP (atoL tx n k S).2)).2.2.1 : Nat) : Int).toNat) 0) 38 (((((advP (atoL tx n k S).2)).2.2.1 : Nat) : Int).toNat) 1) 39 (((((advP (atoL tx n k S).2)).2.2.1 : Nat) : Int).toNat) 1), rfl, by rw [eA]; rfl, ?_, (RFr.set (RFr.set (RFr.set (RFr.tr (RFr.set (RFr.set (RFr.set (RFr.set hF (by omega)) (by omega)) (by omega)) (by omega)) (RFp.r hF149)) (by omega)) (by omega)) (by omega))⟩
             rw [eA]
             exact RP.times (RP.rnd hPr (fun _ => by omega) hT149 hc149 hF149))
      · skip
        refine V_iconst (pc := 187) dX11_repeated_187 (by unfold I32; omega) ?_
        refine V_goto (pc := 188) dX11_repeated_188 (tgt := 192) rfl ?_
        refine V_iast (pc := 192) dX11_repeated_192 hL.t39 (by omega) ?_
        refine V_ld (pc := 193) dX11_repeated_193 (v := vi ((((advP (atoL tx n k S).2)).2.2.1 : Nat) : Int)) rfl rfl ?_
        refine V_reti (pc := 195) dX11_repeated_195 trivial ?_
        first
          | (exfalso; omega)
          | (have eA : repL tx n k S = timesP (advP (atoL tx n k S).2) (atoL tx n k S).1 0 1 1 := by
               unfold repL repP
               rw [if_pos (by omega), hQ]
               show (if ((advP (atoL tx n k S).2)).1 = true then (if cS tx n (advP (atoL tx n k S).2) = 63 then timesP (advP (advP (atoL tx n k S).2)) (atoL tx n k S).1 0 1 0 else timesP (advP (atoL tx n k S).2) (atoL tx n k S).1 0 1 1) else (-5, (advP (atoL tx n k S).2))) = _
               rw [if_pos hwq, if_neg (by omega)]
             refine ⟨mI (setI (setI (setI (wI (setI (setI (setI (setI (wI m I) 30 19 0) 30 20 1) 30 7 (((atoL tx n k S).2.2.1 : Int) + 1)) 30 7 ((((atoL tx n k S).2.2.1 : Int) + 1) + 0)) Ix149) 37 (((((advP (atoL tx n k S).2)).2.2.1 : Nat) : Int).toNat) 0) 38 (((((advP (atoL tx n k S).2)).2.2.1 : Nat) : Int).toNat) 1) 39 (((((advP (atoL tx n k S).2)).2.2.1 : Nat) : Int).toNat) 0), rfl, by rw [eA]; rfl, ?_, (RFr.set (RFr.set (RFr.set (RFr.tr (RFr.set (RFr.set (RFr.set (RFr.set hF (by omega)) (by omega)) (by omega)) (by omega)) (RFp.r hF149)) (by omega)) (by omega)) (by omega))⟩
             rw [eA]
             exact RP.times (RP.rnd hPr (fun _ => by omega) hT149 hc149 hF149))
    · skip
      refine V_bipush (pc := 142) dX11_repeated_142 (by unfold I32; omega) (by decide) ?_
      refine V_reti (pc := 144) dX11_repeated_144 trivial ?_
      have hnw : ¬ ((advP (atoL tx n k S).2)).1 = true := fun h => by have h_ := (hwr.resolve_left (fun h2 => by have h4_ : mI (wI m I) 30 8 = 1 := h2.2; omega)).1; rw [h] at h_; cases h_
      have eA : repL tx n k S = (-5, (advP (atoL tx n k S).2)) := by
        unfold repL repP
        rw [if_pos (by omega), hQ]
        exact if_neg hnw
      refine ⟨mI (setI (setI (setI (setI (wI m I) 30 19 0) 30 20 1) 30 7 (((atoL tx n k S).2.2.1 : Int) + 1)) 30 7 ((((atoL tx n k S).2.2.1 : Int) + 1) + 0)), rfl, by rw [eA], ?_, (RFr.set (RFr.set (RFr.set (RFr.set hF (by omega)) (by omega)) (by omega)) (by omega))⟩
      rw [eA]
      exact hPr
  · skip
    skip
    refine V_iconst (pc := 126) dX11_repeated_126 (by unfold I32; omega) ?_
    refine V_goto (pc := 127) dX11_repeated_127 (tgt := 131) rfl ?_
    refine V_iadd (pc := 131) dX11_repeated_131 (by unfold I32 at *; omega) ?_
    refine V_putI (pc := 132) dX11_repeated_132 fw_RX11_125 rfl hL.t30 (Or.inl rfl) (Or.inl rfl) ?_
    obtain ⟨hz1, hz2⟩ := cS_lt (tx := tx) (n := n) (S := (advP (atoL tx n k S).2)) (by omega)
    have hPr : RP (mI (setI (setI (setI (setI (wI m I) 30 19 0) 30 20 1) 30 7 (((atoL tx n k S).2.2.1 : Int) + 1)) 30 7 ((((atoL tx n k S).2.2.1 : Int) + 1) + 1))) tx n (advP (advP (atoL tx n k S).2)) := RP.adv hPq (congrArg (fun z => z + 1) hPq.2.1.symm) (Int.lt_of_le_of_lt (Int.le_of_eq hPq.2.1) (Int.lt_of_lt_of_le (Int.ofNat_lt.mpr hz2) (Int.le_of_eq hPq.1.symm)))
    have hadv2 : (advP (advP (atoL tx n k S).2)).2.1 = ((advP (atoL tx n k S).2)).2.1 + 1 := rfl
    have hwr := RP.wl hPr
    refine V_ld (pc := 135) dX11_repeated_135 (v := vr 30) rfl rfl ?_
    refine V_getIv (pc := 136) dX11_repeated_136 (v := mI (wI m I) 30 8) fw_RX11_128 rfl hL.t30 (by first | rfl | (simp only [mI_setI, up2]; repeat (first | rfl | rw [if_neg (by omega)] | rw [if_pos (by omega)]))) (fun g136 => ?_)
    refine V_if_ne (pc := 139) dX11_repeated_139 (tgt := 145) rfl (fun h139 => ?_) (fun h139 => ?_)
    · skip
      have hw : ((advP (advP (atoL tx n k S).2))).1 = true := (hwr.resolve_right (fun h => h139 h.2)).1
      have hwq : ((advP (atoL tx n k S).2)).1 = true := hw
      have hq3 := hq1 hwq
      have hc_ : ((advP (advP (atoL tx n k S).2))).2.2.1 = (atoL tx n k S).2.2.2.1 := congrArg (fun z => z.1) hq2
      have hF_ : ((advP (advP (atoL tx n k S).2))).2.2.2 = (atoL tx n k S).2.2.2.2 := congrArg (fun z => z.2) hq2
      have hi_ : ((advP (atoL tx n k S).2)).2.1 ≤ ((advP (advP (atoL tx n k S).2))).2.1 := Nat.le_succ _
      have hch : chE ((advP (advP (atoL tx n k S).2))).2.2.2 (((advP (advP (atoL tx n k S).2))).2.2.1 : Int) 1 (atoL tx n k S).1 := ⟨by omega, by omega, by rw [hF_]; exact n7⟩
      refine V_ld (pc := 145) dX11_repeated_145 (v := vr 30) rfl rfl ?_
      refine V_iconst (pc := 146) dX11_repeated_146 (by unfold I32; omega) ?_
      refine V_ld (pc := 147) dX11_repeated_147 (v := vi ((atoL tx n k S).1)) rfl rfl ?_
      refine V_iconst (pc := 148) dX11_repeated_148 (by unfold I32; omega) ?_
      refine V_callV (pc := 149) dX11_repeated_149 (F' := 1) (As := [vi 5, vi ((atoL tx n k S).1), vi 1]) (st := []) cw_RX11_153 rfl rfl hL.t30 (by decide) (Nat.le_of_ble_eq_true rfl) (by omega) (r_round (((advP (advP (atoL tx n k S).2))).2.2.2) (((advP (advP (atoL tx n k S).2))).2.2.1) 1 (gT ((advP (advP (atoL tx n k S).2))).2.2.2 5 (atoL tx n k S).1 1) (setI (setI (setI (setI (wI m I) 30 19 0) 30 20 1) 30 7 (((atoL tx n k S).2.2.1 : Int) + 1)) 30 7 ((((atoL tx n k S).2.2.1 : Int) + 1) + 1)) 5 ((atoL tx n k S).1) 1   (by first | assumption | omega) ⟨hPr.2.2.2.1, by omega⟩ hPr.2.2.2.2.2.2.2.2 hch rfl) ?_
      rintro _ _ ⟨x149, rfl, Ix149, rfl, rfl, hT149, hc149, hF149⟩ ok149 le149
      refine V_st (pc := 152) dX11_repeated_152 (ls' := [(5, vi ((((advP (advP (atoL tx n k S).2))).2.2.1 : Nat) : Int)), (4, vi x111), (3, vi 63), (2, vi ((atoL tx n k S).1)), (0, vr 30), (1, vi deep)]) rfl (Nat.le_of_ble_eq_true rfl) rfl ?_
      refine V_ld (pc := 154) dX11_repeated_154 (v := vr 30) rfl rfl ?_
      refine V_getRv (pc := 155) dX11_repeated_155 (o' := 37) fw_RX11_30 rfl hL.t30 hL.r30_12 ?_
      refine V_ld (pc := 158) dX11_repeated_158 (v := vi ((((advP (advP (atoL tx n k S).2))).2.2.1 : Nat) : Int)) rfl rfl ?_
      refine V_ld (pc := 160) dX11_repeated_160 (v := vr 30) rfl rfl ?_
      refine V_getIv (pc := 161) dX11_repeated_161 (v := 0) fw_RX11_163 rfl hL.t30 ((hF149 30 19 (by omega) (by omega)).trans (by first | rfl | (simp only [mI_setI, up2]; repeat (first | rfl | rw [if_neg (by omega)] | rw [if_pos (by omega)])))) (fun g161 => ?_)
      refine V_iast (pc := 164) dX11_repeated_164 hL.t37 (by omega) ?_
      refine V_ld (pc := 165) dX11_repeated_165 (v := vr 30) rfl rfl ?_
      refine V_getRv (pc := 166) dX11_repeated_166 (o' := 38) fw_RX11_33 rfl hL.t30 hL.r30_13 ?_
      refine V_ld (pc := 169) dX11_repeated_169 (v := vi ((((advP (advP (atoL tx n k S).2))).2.2.1 : Nat) : Int)) rfl rfl ?_
      refine V_ld (pc := 171) dX11_repeated_171 (v := vr 30) rfl rfl ?_
      refine V_getIv (pc := 172) dX11_repeated_172 (v := 1) fw_RX11_166 rfl hL.t30 (by first | exact ((hF149 30 20 (by omega) (by omega)).trans (by first | rfl | (simp only [mI_setI, up2]; repeat (first | rfl | rw [if_neg (by omega)] | rw [if_pos (by omega)])))) | (simp only [mI_setI, up2]; repeat (first | exact ((hF149 30 20 (by omega) (by omega)).trans (by first | rfl | (simp only [mI_setI, up2]; repeat (first | rfl | rw [if_neg (by omega)] | rw [if_pos (by omega)])))) | rw [if_neg (by omega)]))) (fun g172 => ?_)
      refine V_iast (pc := 175) dX11_repeated_175 hL.t38 (by omega) ?_
      refine V_ld (pc := 176) dX11_repeated_176 (v := vr 30) rfl rfl ?_
      refine V_getRv (pc := 177) dX11_repeated_177 (o' := 39) fw_RX11_36 rfl hL.t30 hL.r30_14 ?_
      refine V_ld (pc := 180) dX11_repeated_180 (v := vi ((((advP (advP (atoL tx n k S).2))).2.2.1 : Nat) : Int)) rfl rfl ?_
      refine V_ld (pc := 182) dX11_repeated_182 (v := vi x111) rfl rfl ?_
      refine V_if_eq (pc := 184) dX11_repeated_184 (tgt := 191) rfl (fun h184 => ?_) (fun h184 => ?_)
      · skip
        refine V_iconst (pc := 191) dX11_repeated_191 (by unfold I32; omega) ?_
        refine V_iast (pc := 192) dX11_repeated_192 hL.t39 (by omega) ?_
        refine V_ld (pc := 193) dX11_repeated_193 (v := vi ((((advP (advP (atoL tx n k S).2))).2.2.1 : Nat) : Int)) rfl rfl ?_
        refine V_reti (pc := 195) dX11_repeated_195 trivial ?_
        first
          | (exfalso; omega)
          | (have eA : repL tx n k S = timesP (advP (advP (atoL tx n k S).2)) (atoL tx n k S).1 0 1 0 := by
               unfold repL repP
               rw [if_pos (by omega), hQ]
               show (if ((advP (atoL tx n k S).2)).1 = true then (if cS tx n (advP (atoL tx n k S).2) = 63 then timesP (advP (advP (atoL tx n k S).2)) (atoL tx n k S).1 0 1 0 else timesP (advP (atoL tx n k S).2) (atoL tx n k S).1 0 1 1) else (-5, (advP (atoL tx n k S).2))) = _
               rw [if_pos hwq, if_pos (by omega)]
             refine ⟨mI (setI (setI (setI (wI (setI (setI (setI (setI (wI m I) 30 19 0) 30 20 1) 30 7 (((atoL tx n k S).2.2.1 : Int) + 1)) 30 7 ((((atoL tx n k S).2.2.1 : Int) + 1) + 1)) Ix149) 37 (((((advP (advP (atoL tx n k S).2))).2.2.1 : Nat) : Int).toNat) 0) 38 (((((advP (advP (atoL tx n k S).2))).2.2.1 : Nat) : Int).toNat) 1) 39 (((((advP (advP (atoL tx n k S).2))).2.2.1 : Nat) : Int).toNat) 1), rfl, by rw [eA]; rfl, ?_, (RFr.set (RFr.set (RFr.set (RFr.tr (RFr.set (RFr.set (RFr.set (RFr.set hF (by omega)) (by omega)) (by omega)) (by omega)) (RFp.r hF149)) (by omega)) (by omega)) (by omega))⟩
             rw [eA]
             exact RP.times (RP.rnd hPr (fun _ => by omega) hT149 hc149 hF149))
      · skip
        refine V_iconst (pc := 187) dX11_repeated_187 (by unfold I32; omega) ?_
        refine V_goto (pc := 188) dX11_repeated_188 (tgt := 192) rfl ?_
        refine V_iast (pc := 192) dX11_repeated_192 hL.t39 (by omega) ?_
        refine V_ld (pc := 193) dX11_repeated_193 (v := vi ((((advP (advP (atoL tx n k S).2))).2.2.1 : Nat) : Int)) rfl rfl ?_
        refine V_reti (pc := 195) dX11_repeated_195 trivial ?_
        first
          | (exfalso; omega)
          | (have eA : repL tx n k S = timesP (advP (advP (atoL tx n k S).2)) (atoL tx n k S).1 0 1 0 := by
               unfold repL repP
               rw [if_pos (by omega), hQ]
               show (if ((advP (atoL tx n k S).2)).1 = true then (if cS tx n (advP (atoL tx n k S).2) = 63 then timesP (advP (advP (atoL tx n k S).2)) (atoL tx n k S).1 0 1 0 else timesP (advP (atoL tx n k S).2) (atoL tx n k S).1 0 1 1) else (-5, (advP (atoL tx n k S).2))) = _
               rw [if_pos hwq, if_pos (by omega)]
             refine ⟨mI (setI (setI (setI (wI (setI (setI (setI (setI (wI m I) 30 19 0) 30 20 1) 30 7 (((atoL tx n k S).2.2.1 : Int) + 1)) 30 7 ((((atoL tx n k S).2.2.1 : Int) + 1) + 1)) Ix149) 37 (((((advP (advP (atoL tx n k S).2))).2.2.1 : Nat) : Int).toNat) 0) 38 (((((advP (advP (atoL tx n k S).2))).2.2.1 : Nat) : Int).toNat) 1) 39 (((((advP (advP (atoL tx n k S).2))).2.2.1 : Nat) : Int).toNat) 0), rfl, by rw [eA]; rfl, ?_, (RFr.set (RFr.set (RFr.set (RFr.tr (RFr.set (RFr.set (RFr.set (RFr.set hF (by omega)) (by omega)) (by omega)) (by omega)) (RFp.r hF149)) (by omega)) (by omega)) (by omega))⟩
             rw [eA]
             exact RP.times (RP.rnd hPr (fun _ => by omega) hT149 hc149 hF149))
    · skip
      refine V_bipush (pc := 142) dX11_repeated_142 (by unfold I32; omega) (by decide) ?_
      refine V_reti (pc := 144) dX11_repeated_144 trivial ?_
      exfalso
      have h2_ := (hwr.resolve_left (fun h => by have h4_ : mI (wI m I) 30 8 = 1 := h.2; omega)).1
      have h3_ : (advP (advP (atoL tx n k S).2)).1 = true := hz1
      rw [h2_] at h3_; cases h3_

set_option maxHeartbeats 8000000 in
theorem L_rep123 {tx : Nat → Int} {n k : Nat} {S : PS} {m : Mem} {deep : Int} {I : Nat → Nat → Int} (hL : Lay (mT m) (mR m)) (hP : RP I tx n (atoL tx n k S).2) (hF : RFr (mI m) I) (hcc : cS tx n (atoL tx n k S).2 = 123) : V μX11_repeated (4 + 5 * k) m (ri fun x_ m' => ∃ I_ : Nat → Nat → Int, wI m I_ = m' ∧ (x_ = (repL tx n k S).1) ∧ RP I_ tx n (repL tx n k S).2 ∧ RFr (mI m) I_) 44 [(2, vi ((atoL tx n k S).1)), (0, vr 30), (1, vi deep)] [] (wI m I) := by
  obtain ⟨hS1, hSl⟩ := cS_lt (tx := tx) (n := n) (S := (atoL tx n k S).2) (by omega)
  have hn120 := hP.2.2.2.2.2.2.1
  obtain ⟨n1, n2, n3, n4, n5, n6, n7, n8⟩ := (atoL_nice tx n k S).2 hS1
  have n9 := RP.c240 hP hS1
  have n10 := hP.2.2.2.2.2.1 hS1
  have hQ : quantP tx n (atoL tx n k S).2 = (curlP tx n (atoL tx n k S).2) := by unfold quantP; rw [if_pos hcc]
  have hcu := curl_fact tx n (atoL tx n k S).2 hcc
  refine V_ld (pc := 44) dX11_repeated_44 (v := vr 30) rfl rfl ?_
  refine V_getRv (pc := 45) dX11_repeated_45 (o' := 34) fw_RX11_21 rfl hL.t30 hL.r30_5 ?_
  refine V_ld (pc := 48) dX11_repeated_48 (v := vr 30) rfl rfl ?_
  refine V_getIv (pc := 49) dX11_repeated_49 (v := ((atoL tx n k S).2.2.1 : Int)) fw_RX11_125 rfl hL.t30 hP.2.1 (fun g49 => ?_)
  refine V_ialdv (pc := 52) dX11_repeated_52 (v := 123) hL.t34 (by omega) ((RPrd hP hS1 hSl).trans hcc) (fun g52 => ?_)
  refine V_st (pc := 53) dX11_repeated_53 (ls' := [(3, vi 123), (2, vi ((atoL tx n k S).1)), (0, vr 30), (1, vi deep)]) rfl (Nat.le_of_ble_eq_true rfl) rfl ?_
  refine V_ld (pc := 54) dX11_repeated_54 (v := vr 30) rfl rfl ?_
  refine V_ld (pc := 55) dX11_repeated_55 (v := vi 123) rfl rfl ?_
  refine V_bipush (pc := 56) dX11_repeated_56 (by unfold I32; omega) (by decide) ?_
  refine V_icmp_ne (pc := 58) dX11_repeated_58 (tgt := 65) rfl (fun _ => ?_) (fun h_ => absurd h_ (by decide))
  refine V_iconst (pc := 65) dX11_repeated_65 (by unfold I32; omega) ?_
  refine V_putI (pc := 66) dX11_repeated_66 fw_RX11_163 rfl hL.t30 (Or.inl rfl) (Or.inl rfl) ?_
  refine V_ld (pc := 69) dX11_repeated_69 (v := vr 30) rfl rfl ?_
  refine V_ld (pc := 70) dX11_repeated_70 (v := vi 123) rfl rfl ?_
  refine V_bipush (pc := 71) dX11_repeated_71 (by unfold I32; omega) (by decide) ?_
  refine V_icmp_ne (pc := 73) dX11_repeated_73 (tgt := 80) rfl (fun _ => ?_) (fun h_ => absurd h_ (by decide))
  refine V_bipush (pc := 80) dX11_repeated_80 (by unfold I32; omega) (by decide) ?_
  refine V_putI (pc := 82) dX11_repeated_82 fw_RX11_166 rfl hL.t30 (Or.inl rfl) (Or.inl rfl) ?_
  refine V_ld (pc := 85) dX11_repeated_85 (v := vi 123) rfl rfl ?_
  refine V_bipush (pc := 86) dX11_repeated_86 (by unfold I32; omega) (by decide) ?_
  refine V_icmp_ne (pc := 88) dX11_repeated_88 (tgt := 98) rfl (fun h_ => absurd h_ (by decide)) (fun _ => ?_)
  refine V_ld (pc := 91) dX11_repeated_91 (v := vr 30) rfl rfl ?_
  refine V_callV (pc := 92) dX11_repeated_92 (F' := 3) (As := []) (st := []) cw_RX11_175 rfl rfl hL.t30 (by decide) (Nat.le_of_ble_eq_true rfl) (by omega) (r_curly tx n ((atoL tx n k S).2) (setI (setI (wI m I) 30 19 0) 30 20 100)    (by first | assumption | omega) (RP.oth (RP.oth hP (Or.inl rfl)) (Or.inr rfl)) hcc) ?_
  rintro _ _ ⟨rfl, Ix92, rfl, hl92, hh92, hP92, hF92⟩ ok92 le92
  have hB92 := hP92.2.2.2.2.1
  refine V_goto (pc := 95) dX11_repeated_95 (tgt := 108) rfl ?_
  have hPq := hP92
  have hq2 : ((curlP tx n (atoL tx n k S).2).2.2).2.2 = (atoL tx n k S).2.2.2 := hcu.2.1
  have hq1 : ((curlP tx n (atoL tx n k S).2).2.2).1 = true → (atoL tx n k S).2.2.1 + 2 < ((curlP tx n (atoL tx n k S).2).2.2).2.1 := fun h => (hcu.2.2.2.2.2.2 h).2.1
  have hqn := hPq.2.2.2.2.1
  refine V_ld (pc := 108) dX11_repeated_108 (v := vr 30) rfl rfl ?_
  refine V_bipush (pc := 109) dX11_repeated_109 (by unfold I32; omega) (by decide) ?_
  refine V_callV (pc := 111) dX11_repeated_111 (F' := 0) (As := [vi 63]) (st := []) cw_RX11_132 rfl rfl hL.t30 (by decide) (Nat.le_of_ble_eq_true rfl) (by omega) (r_isAt tx n ((curlP tx n (atoL tx n k S).2).2.2) (wI (setI (setI (wI m I) 30 19 0) 30 20 100) Ix92) 63   (by first | assumption | omega) hPq (by decide)) ?_
  rintro _ _ ⟨x111, rfl, hx111, rfl⟩ ok111 le111
  refine V_st (pc := 114) dX11_repeated_114 (ls' := [(4, vi x111), (3, vi 123), (2, vi ((atoL tx n k S).1)), (0, vr 30), (1, vi deep)]) rfl (Nat.le_of_ble_eq_true rfl) rfl ?_
  refine V_ld (pc := 116) dX11_repeated_116 (v := vr 30) rfl rfl ?_
  refine V_dup (pc := 117) dX11_repeated_117 rfl ?_
  refine V_getIv (pc := 118) dX11_repeated_118 (v := (((curlP tx n ((atoL tx n k S).2)).2.2).2.1 : Int)) fw_RX11_125 rfl hL.t30 hP92.2.1 (fun g118 => ?_)
  refine V_ld (pc := 121) dX11_repeated_121 (v := vi x111) rfl rfl ?_
  refine V_if_eq (pc := 123) dX11_repeated_123 (tgt := 130) rfl (fun h123 => ?_) (fun h123 => ?_)
  · skip
    refine V_iconst (pc := 130) dX11_repeated_130 (by unfold I32; omega) ?_
    refine V_iadd (pc := 131) dX11_repeated_131 (by unfold I32 at *; omega) ?_
    refine V_putI (pc := 132) dX11_repeated_132 fw_RX11_125 rfl hL.t30 (Or.inl rfl) (Or.inl rfl) ?_
    have hPr : RP (mI (setI (wI (setI (setI (wI m I) 30 19 0) 30 20 100) Ix92) 30 7 ((((curlP tx n ((atoL tx n k S).2)).2.2).2.1 : Int) + 0))) tx n (curlP tx n (atoL tx n k S).2).2.2 := RP.same hPq (by omega)
    have hwr := RP.wl hPr
    refine V_ld (pc := 135) dX11_repeated_135 (v := vr 30) rfl rfl ?_
    refine V_getIv (pc := 136) dX11_repeated_136 (v := mI (wI (setI (setI (wI m I) 30 19 0) 30 20 100) Ix92) 30 8) fw_RX11_128 rfl hL.t30 (by first | rfl | (simp only [mI_setI, up2]; repeat (first | rfl | rw [if_neg (by omega)] | rw [if_pos (by omega)]))) (fun g136 => ?_)
    refine V_if_ne (pc := 139) dX11_repeated_139 (tgt := 145) rfl (fun h139 => ?_) (fun h139 => ?_)
    · skip
      have hw : ((curlP tx n (atoL tx n k S).2).2.2).1 = true := (hwr.resolve_right (fun h => h139 h.2)).1
      have hwq : ((curlP tx n (atoL tx n k S).2).2.2).1 = true := hw
      have hq3 := hq1 hwq
      have hc_ : ((curlP tx n (atoL tx n k S).2).2.2).2.2.1 = (atoL tx n k S).2.2.2.1 := congrArg (fun z => z.1) hq2
      have hF_ : ((curlP tx n (atoL tx n k S).2).2.2).2.2.2 = (atoL tx n k S).2.2.2.2 := congrArg (fun z => z.2) hq2
      have hi_ : ((curlP tx n (atoL tx n k S).2).2.2).2.1 ≤ ((curlP tx n (atoL tx n k S).2).2.2).2.1 := Nat.le_refl _
      have hch : chE ((curlP tx n (atoL tx n k S).2).2.2).2.2.2 (((curlP tx n (atoL tx n k S).2).2.2).2.2.1 : Int) 1 (atoL tx n k S).1 := ⟨by omega, by omega, by rw [hF_]; exact n7⟩
      refine V_ld (pc := 145) dX11_repeated_145 (v := vr 30) rfl rfl ?_
      refine V_iconst (pc := 146) dX11_repeated_146 (by unfold I32; omega) ?_
      refine V_ld (pc := 147) dX11_repeated_147 (v := vi ((atoL tx n k S).1)) rfl rfl ?_
      refine V_iconst (pc := 148) dX11_repeated_148 (by unfold I32; omega) ?_
      refine V_callV (pc := 149) dX11_repeated_149 (F' := 1) (As := [vi 5, vi ((atoL tx n k S).1), vi 1]) (st := []) cw_RX11_153 rfl rfl hL.t30 (by decide) (Nat.le_of_ble_eq_true rfl) (by omega) (r_round (((curlP tx n (atoL tx n k S).2).2.2).2.2.2) (((curlP tx n (atoL tx n k S).2).2.2).2.2.1) 1 (gT ((curlP tx n (atoL tx n k S).2).2.2).2.2.2 5 (atoL tx n k S).1 1) (setI (wI (setI (setI (wI m I) 30 19 0) 30 20 100) Ix92) 30 7 ((((curlP tx n ((atoL tx n k S).2)).2.2).2.1 : Int) + 0)) 5 ((atoL tx n k S).1) 1   (by first | assumption | omega) ⟨hPr.2.2.2.1, by omega⟩ hPr.2.2.2.2.2.2.2.2 hch rfl) ?_
      rintro _ _ ⟨x149, rfl, Ix149, rfl, rfl, hT149, hc149, hF149⟩ ok149 le149
      refine V_st (pc := 152) dX11_repeated_152 (ls' := [(5, vi ((((curlP tx n (atoL tx n k S).2).2.2).2.2.1 : Nat) : Int)), (4, vi x111), (3, vi 123), (2, vi ((atoL tx n k S).1)), (0, vr 30), (1, vi deep)]) rfl (Nat.le_of_ble_eq_true rfl) rfl ?_
      refine V_ld (pc := 154) dX11_repeated_154 (v := vr 30) rfl rfl ?_
      refine V_getRv (pc := 155) dX11_repeated_155 (o' := 37) fw_RX11_30 rfl hL.t30 hL.r30_12 ?_
      refine V_ld (pc := 158) dX11_repeated_158 (v := vi ((((curlP tx n (atoL tx n k S).2).2.2).2.2.1 : Nat) : Int)) rfl rfl ?_
      refine V_ld (pc := 160) dX11_repeated_160 (v := vr 30) rfl rfl ?_
      refine V_getIv (pc := 161) dX11_repeated_161 (v := (curlP tx n (atoL tx n k S).2).1) fw_RX11_163 rfl hL.t30 ((hF149 30 19 (by omega) (by omega)).trans (by first | exact hl92 | (simp only [mI_setI, up2]; repeat (first | exact hl92 | rw [if_neg (by omega)])))) (fun g161 => ?_)
      refine V_iast (pc := 164) dX11_repeated_164 hL.t37 (by omega) ?_
      refine V_ld (pc := 165) dX11_repeated_165 (v := vr 30) rfl rfl ?_
      refine V_getRv (pc := 166) dX11_repeated_166 (o' := 38) fw_RX11_33 rfl hL.t30 hL.r30_13 ?_
      refine V_ld (pc := 169) dX11_repeated_169 (v := vi ((((curlP tx n (atoL tx n k S).2).2.2).2.2.1 : Nat) : Int)) rfl rfl ?_
      refine V_ld (pc := 171) dX11_repeated_171 (v := vr 30) rfl rfl ?_
      refine V_getIv (pc := 172) dX11_repeated_172 (v := (curlP tx n (atoL tx n k S).2).2.1) fw_RX11_166 rfl hL.t30 (by first | exact ((hF149 30 20 (by omega) (by omega)).trans (by first | exact hh92 | (simp only [mI_setI, up2]; repeat (first | exact hh92 | rw [if_neg (by omega)])))) | (simp only [mI_setI, up2]; repeat (first | exact ((hF149 30 20 (by omega) (by omega)).trans (by first | exact hh92 | (simp only [mI_setI, up2]; repeat (first | exact hh92 | rw [if_neg (by omega)])))) | rw [if_neg (by omega)]))) (fun g172 => ?_)
      refine V_iast (pc := 175) dX11_repeated_175 hL.t38 (by omega) ?_
      refine V_ld (pc := 176) dX11_repeated_176 (v := vr 30) rfl rfl ?_
      refine V_getRv (pc := 177) dX11_repeated_177 (o' := 39) fw_RX11_36 rfl hL.t30 hL.r30_14 ?_
      refine V_ld (pc := 180) dX11_repeated_180 (v := vi ((((curlP tx n (atoL tx n k S).2).2.2).2.2.1 : Nat) : Int)) rfl rfl ?_
      refine V_ld (pc := 182) dX11_repeated_182 (v := vi x111) rfl rfl ?_
      refine V_if_eq (pc := 184) dX11_repeated_184 (tgt := 191) rfl (fun h184 => ?_) (fun h184 => ?_)
      · skip
        refine V_iconst (pc := 191) dX11_repeated_191 (by unfold I32; omega) ?_
        refine V_iast (pc := 192) dX11_repeated_192 hL.t39 (by omega) ?_
        refine V_ld (pc := 193) dX11_repeated_193 (v := vi ((((curlP tx n (atoL tx n k S).2).2.2).2.2.1 : Nat) : Int)) rfl rfl ?_
        refine V_reti (pc := 195) dX11_repeated_195 trivial ?_
        first
          | (exfalso; omega)
          | (have eA : repL tx n k S = timesP (curlP tx n (atoL tx n k S).2).2.2 (atoL tx n k S).1 ((curlP tx n (atoL tx n k S).2).1) ((curlP tx n (atoL tx n k S).2).2.1) 1 := by
               unfold repL repP
               rw [if_pos (by omega), hQ]
               show (if ((curlP tx n (atoL tx n k S).2).2.2).1 = true then (if cS tx n (curlP tx n (atoL tx n k S).2).2.2 = 63 then timesP (advP (curlP tx n (atoL tx n k S).2).2.2) (atoL tx n k S).1 ((curlP tx n (atoL tx n k S).2).1) ((curlP tx n (atoL tx n k S).2).2.1) 0 else timesP (curlP tx n (atoL tx n k S).2).2.2 (atoL tx n k S).1 ((curlP tx n (atoL tx n k S).2).1) ((curlP tx n (atoL tx n k S).2).2.1) 1) else (-5, (curlP tx n (atoL tx n k S).2).2.2)) = _
               rw [if_pos hwq, if_neg (by omega)]
             refine ⟨mI (setI (setI (setI (wI (setI (wI (setI (setI (wI m I) 30 19 0) 30 20 100) Ix92) 30 7 ((((curlP tx n ((atoL tx n k S).2)).2.2).2.1 : Int) + 0)) Ix149) 37 (((((curlP tx n (atoL tx n k S).2).2.2).2.2.1 : Nat) : Int).toNat) ((curlP tx n (atoL tx n k S).2).1)) 38 (((((curlP tx n (atoL tx n k S).2).2.2).2.2.1 : Nat) : Int).toNat) ((curlP tx n (atoL tx n k S).2).2.1)) 39 (((((curlP tx n (atoL tx n k S).2).2.2).2.2.1 : Nat) : Int).toNat) 1), rfl, by rw [eA]; rfl, ?_, (RFr.set (RFr.set (RFr.set (RFr.tr (RFr.set (RFr.tr (RFr.set (RFr.set hF (by omega)) (by omega)) hF92) (by omega)) (RFp.r hF149)) (by omega)) (by omega)) (by omega))⟩
             rw [eA]
             exact RP.times (RP.rnd hPr (fun _ => by omega) hT149 hc149 hF149))
      · skip
        refine V_iconst (pc := 187) dX11_repeated_187 (by unfold I32; omega) ?_
        refine V_goto (pc := 188) dX11_repeated_188 (tgt := 192) rfl ?_
        refine V_iast (pc := 192) dX11_repeated_192 hL.t39 (by omega) ?_
        refine V_ld (pc := 193) dX11_repeated_193 (v := vi ((((curlP tx n (atoL tx n k S).2).2.2).2.2.1 : Nat) : Int)) rfl rfl ?_
        refine V_reti (pc := 195) dX11_repeated_195 trivial ?_
        first
          | (exfalso; omega)
          | (have eA : repL tx n k S = timesP (curlP tx n (atoL tx n k S).2).2.2 (atoL tx n k S).1 ((curlP tx n (atoL tx n k S).2).1) ((curlP tx n (atoL tx n k S).2).2.1) 1 := by
               unfold repL repP
               rw [if_pos (by omega), hQ]
               show (if ((curlP tx n (atoL tx n k S).2).2.2).1 = true then (if cS tx n (curlP tx n (atoL tx n k S).2).2.2 = 63 then timesP (advP (curlP tx n (atoL tx n k S).2).2.2) (atoL tx n k S).1 ((curlP tx n (atoL tx n k S).2).1) ((curlP tx n (atoL tx n k S).2).2.1) 0 else timesP (curlP tx n (atoL tx n k S).2).2.2 (atoL tx n k S).1 ((curlP tx n (atoL tx n k S).2).1) ((curlP tx n (atoL tx n k S).2).2.1) 1) else (-5, (curlP tx n (atoL tx n k S).2).2.2)) = _
               rw [if_pos hwq, if_neg (by omega)]
             refine ⟨mI (setI (setI (setI (wI (setI (wI (setI (setI (wI m I) 30 19 0) 30 20 100) Ix92) 30 7 ((((curlP tx n ((atoL tx n k S).2)).2.2).2.1 : Int) + 0)) Ix149) 37 (((((curlP tx n (atoL tx n k S).2).2.2).2.2.1 : Nat) : Int).toNat) ((curlP tx n (atoL tx n k S).2).1)) 38 (((((curlP tx n (atoL tx n k S).2).2.2).2.2.1 : Nat) : Int).toNat) ((curlP tx n (atoL tx n k S).2).2.1)) 39 (((((curlP tx n (atoL tx n k S).2).2.2).2.2.1 : Nat) : Int).toNat) 0), rfl, by rw [eA]; rfl, ?_, (RFr.set (RFr.set (RFr.set (RFr.tr (RFr.set (RFr.tr (RFr.set (RFr.set hF (by omega)) (by omega)) hF92) (by omega)) (RFp.r hF149)) (by omega)) (by omega)) (by omega))⟩
             rw [eA]
             exact RP.times (RP.rnd hPr (fun _ => by omega) hT149 hc149 hF149))
    · skip
      refine V_bipush (pc := 142) dX11_repeated_142 (by unfold I32; omega) (by decide) ?_
      refine V_reti (pc := 144) dX11_repeated_144 trivial ?_
      have hnw : ¬ ((curlP tx n (atoL tx n k S).2).2.2).1 = true := fun h => by have h_ := (hwr.resolve_left (fun h2 => by have h4_ : mI (wI (setI (setI (wI m I) 30 19 0) 30 20 100) Ix92) 30 8 = 1 := h2.2; omega)).1; rw [h] at h_; cases h_
      have eA : repL tx n k S = (-5, (curlP tx n (atoL tx n k S).2).2.2) := by
        unfold repL repP
        rw [if_pos (by omega), hQ]
        exact if_neg hnw
      refine ⟨mI (setI (wI (setI (setI (wI m I) 30 19 0) 30 20 100) Ix92) 30 7 ((((curlP tx n ((atoL tx n k S).2)).2.2).2.1 : Int) + 0)), rfl, by rw [eA], ?_, (RFr.set (RFr.tr (RFr.set (RFr.set hF (by omega)) (by omega)) hF92) (by omega))⟩
      rw [eA]
      exact hPr
  · skip
    skip
    refine V_iconst (pc := 126) dX11_repeated_126 (by unfold I32; omega) ?_
    refine V_goto (pc := 127) dX11_repeated_127 (tgt := 131) rfl ?_
    refine V_iadd (pc := 131) dX11_repeated_131 (by unfold I32 at *; omega) ?_
    refine V_putI (pc := 132) dX11_repeated_132 fw_RX11_125 rfl hL.t30 (Or.inl rfl) (Or.inl rfl) ?_
    obtain ⟨hz1, hz2⟩ := cS_lt (tx := tx) (n := n) (S := (curlP tx n (atoL tx n k S).2).2.2) (by omega)
    have hPr : RP (mI (setI (wI (setI (setI (wI m I) 30 19 0) 30 20 100) Ix92) 30 7 ((((curlP tx n ((atoL tx n k S).2)).2.2).2.1 : Int) + 1))) tx n (advP (curlP tx n (atoL tx n k S).2).2.2) := RP.adv hPq (congrArg (fun z => z + 1) hPq.2.1.symm) (Int.lt_of_le_of_lt (Int.le_of_eq hPq.2.1) (Int.lt_of_lt_of_le (Int.ofNat_lt.mpr hz2) (Int.le_of_eq hPq.1.symm)))
    have hadv2 : (advP (curlP tx n (atoL tx n k S).2).2.2).2.1 = ((curlP tx n (atoL tx n k S).2).2.2).2.1 + 1 := rfl
    have hwr := RP.wl hPr
    refine V_ld (pc := 135) dX11_repeated_135 (v := vr 30) rfl rfl ?_
    refine V_getIv (pc := 136) dX11_repeated_136 (v := mI (wI (setI (setI (wI m I) 30 19 0) 30 20 100) Ix92) 30 8) fw_RX11_128 rfl hL.t30 (by first | rfl | (simp only [mI_setI, up2]; repeat (first | rfl | rw [if_neg (by omega)] | rw [if_pos (by omega)]))) (fun g136 => ?_)
    refine V_if_ne (pc := 139) dX11_repeated_139 (tgt := 145) rfl (fun h139 => ?_) (fun h139 => ?_)
    · skip
      have hw : ((advP (curlP tx n (atoL tx n k S).2).2.2)).1 = true := (hwr.resolve_right (fun h => h139 h.2)).1
      have hwq : ((curlP tx n (atoL tx n k S).2).2.2).1 = true := hw
      have hq3 := hq1 hwq
      have hc_ : ((advP (curlP tx n (atoL tx n k S).2).2.2)).2.2.1 = (atoL tx n k S).2.2.2.1 := congrArg (fun z => z.1) hq2
      have hF_ : ((advP (curlP tx n (atoL tx n k S).2).2.2)).2.2.2 = (atoL tx n k S).2.2.2.2 := congrArg (fun z => z.2) hq2
      have hi_ : ((curlP tx n (atoL tx n k S).2).2.2).2.1 ≤ ((advP (curlP tx n (atoL tx n k S).2).2.2)).2.1 := Nat.le_succ _
      have hch : chE ((advP (curlP tx n (atoL tx n k S).2).2.2)).2.2.2 (((advP (curlP tx n (atoL tx n k S).2).2.2)).2.2.1 : Int) 1 (atoL tx n k S).1 := ⟨by omega, by omega, by rw [hF_]; exact n7⟩
      refine V_ld (pc := 145) dX11_repeated_145 (v := vr 30) rfl rfl ?_
      refine V_iconst (pc := 146) dX11_repeated_146 (by unfold I32; omega) ?_
      refine V_ld (pc := 147) dX11_repeated_147 (v := vi ((atoL tx n k S).1)) rfl rfl ?_
      refine V_iconst (pc := 148) dX11_repeated_148 (by unfold I32; omega) ?_
      refine V_callV (pc := 149) dX11_repeated_149 (F' := 1) (As := [vi 5, vi ((atoL tx n k S).1), vi 1]) (st := []) cw_RX11_153 rfl rfl hL.t30 (by decide) (Nat.le_of_ble_eq_true rfl) (by omega) (r_round (((advP (curlP tx n (atoL tx n k S).2).2.2)).2.2.2) (((advP (curlP tx n (atoL tx n k S).2).2.2)).2.2.1) 1 (gT ((advP (curlP tx n (atoL tx n k S).2).2.2)).2.2.2 5 (atoL tx n k S).1 1) (setI (wI (setI (setI (wI m I) 30 19 0) 30 20 100) Ix92) 30 7 ((((curlP tx n ((atoL tx n k S).2)).2.2).2.1 : Int) + 1)) 5 ((atoL tx n k S).1) 1   (by first | assumption | omega) ⟨hPr.2.2.2.1, by omega⟩ hPr.2.2.2.2.2.2.2.2 hch rfl) ?_
      rintro _ _ ⟨x149, rfl, Ix149, rfl, rfl, hT149, hc149, hF149⟩ ok149 le149
      refine V_st (pc := 152) dX11_repeated_152 (ls' := [(5, vi ((((advP (curlP tx n (atoL tx n k S).2).2.2)).2.2.1 : Nat) : Int)), (4, vi x111), (3, vi 123), (2, vi ((atoL tx n k S).1)), (0, vr 30), (1, vi deep)]) rfl (Nat.le_of_ble_eq_true rfl) rfl ?_
      refine V_ld (pc := 154) dX11_repeated_154 (v := vr 30) rfl rfl ?_
      refine V_getRv (pc := 155) dX11_repeated_155 (o' := 37) fw_RX11_30 rfl hL.t30 hL.r30_12 ?_
      refine V_ld (pc := 158) dX11_repeated_158 (v := vi ((((advP (curlP tx n (atoL tx n k S).2).2.2)).2.2.1 : Nat) : Int)) rfl rfl ?_
      refine V_ld (pc := 160) dX11_repeated_160 (v := vr 30) rfl rfl ?_
      refine V_getIv (pc := 161) dX11_repeated_161 (v := (curlP tx n (atoL tx n k S).2).1) fw_RX11_163 rfl hL.t30 ((hF149 30 19 (by omega) (by omega)).trans (by first | exact hl92 | (simp only [mI_setI, up2]; repeat (first | exact hl92 | rw [if_neg (by omega)])))) (fun g161 => ?_)
      refine V_iast (pc := 164) dX11_repeated_164 hL.t37 (by omega) ?_
      refine V_ld (pc := 165) dX11_repeated_165 (v := vr 30) rfl rfl ?_
      refine V_getRv (pc := 166) dX11_repeated_166 (o' := 38) fw_RX11_33 rfl hL.t30 hL.r30_13 ?_
      refine V_ld (pc := 169) dX11_repeated_169 (v := vi ((((advP (curlP tx n (atoL tx n k S).2).2.2)).2.2.1 : Nat) : Int)) rfl rfl ?_
      refine V_ld (pc := 171) dX11_repeated_171 (v := vr 30) rfl rfl ?_
      refine V_getIv (pc := 172) dX11_repeated_172 (v := (curlP tx n (atoL tx n k S).2).2.1) fw_RX11_166 rfl hL.t30 (by first | exact ((hF149 30 20 (by omega) (by omega)).trans (by first | exact hh92 | (simp only [mI_setI, up2]; repeat (first | exact hh92 | rw [if_neg (by omega)])))) | (simp only [mI_setI, up2]; repeat (first | exact ((hF149 30 20 (by omega) (by omega)).trans (by first | exact hh92 | (simp only [mI_setI, up2]; repeat (first | exact hh92 | rw [if_neg (by omega)])))) | rw [if_neg (by omega)]))) (fun g172 => ?_)
      refine V_iast (pc := 175) dX11_repeated_175 hL.t38 (by omega) ?_
      refine V_ld (pc := 176) dX11_repeated_176 (v := vr 30) rfl rfl ?_
      refine V_getRv (pc := 177) dX11_repeated_177 (o' := 39) fw_RX11_36 rfl hL.t30 hL.r30_14 ?_
      refine V_ld (pc := 180) dX11_repeated_180 (v := vi ((((advP (curlP tx n (atoL tx n k S).2).2.2)).2.2.1 : Nat) : Int)) rfl rfl ?_
      refine V_ld (pc := 182) dX11_repeated_182 (v := vi x111) rfl rfl ?_
      refine V_if_eq (pc := 184) dX11_repeated_184 (tgt := 191) rfl (fun h184 => ?_) (fun h184 => ?_)
      · skip
        refine V_iconst (pc := 191) dX11_repeated_191 (by unfold I32; omega) ?_
        refine V_iast (pc := 192) dX11_repeated_192 hL.t39 (by omega) ?_
        refine V_ld (pc := 193) dX11_repeated_193 (v := vi ((((advP (curlP tx n (atoL tx n k S).2).2.2)).2.2.1 : Nat) : Int)) rfl rfl ?_
        refine V_reti (pc := 195) dX11_repeated_195 trivial ?_
        first
          | (exfalso; omega)
          | (have eA : repL tx n k S = timesP (advP (curlP tx n (atoL tx n k S).2).2.2) (atoL tx n k S).1 ((curlP tx n (atoL tx n k S).2).1) ((curlP tx n (atoL tx n k S).2).2.1) 0 := by
               unfold repL repP
               rw [if_pos (by omega), hQ]
               show (if ((curlP tx n (atoL tx n k S).2).2.2).1 = true then (if cS tx n (curlP tx n (atoL tx n k S).2).2.2 = 63 then timesP (advP (curlP tx n (atoL tx n k S).2).2.2) (atoL tx n k S).1 ((curlP tx n (atoL tx n k S).2).1) ((curlP tx n (atoL tx n k S).2).2.1) 0 else timesP (curlP tx n (atoL tx n k S).2).2.2 (atoL tx n k S).1 ((curlP tx n (atoL tx n k S).2).1) ((curlP tx n (atoL tx n k S).2).2.1) 1) else (-5, (curlP tx n (atoL tx n k S).2).2.2)) = _
               rw [if_pos hwq, if_pos (by omega)]
             refine ⟨mI (setI (setI (setI (wI (setI (wI (setI (setI (wI m I) 30 19 0) 30 20 100) Ix92) 30 7 ((((curlP tx n ((atoL tx n k S).2)).2.2).2.1 : Int) + 1)) Ix149) 37 (((((advP (curlP tx n (atoL tx n k S).2).2.2)).2.2.1 : Nat) : Int).toNat) ((curlP tx n (atoL tx n k S).2).1)) 38 (((((advP (curlP tx n (atoL tx n k S).2).2.2)).2.2.1 : Nat) : Int).toNat) ((curlP tx n (atoL tx n k S).2).2.1)) 39 (((((advP (curlP tx n (atoL tx n k S).2).2.2)).2.2.1 : Nat) : Int).toNat) 1), rfl, by rw [eA]; rfl, ?_, (RFr.set (RFr.set (RFr.set (RFr.tr (RFr.set (RFr.tr (RFr.set (RFr.set hF (by omega)) (by omega)) hF92) (by omega)) (RFp.r hF149)) (by omega)) (by omega)) (by omega))⟩
             rw [eA]
             exact RP.times (RP.rnd hPr (fun _ => by omega) hT149 hc149 hF149))
      · skip
        refine V_iconst (pc := 187) dX11_repeated_187 (by unfold I32; omega) ?_
        refine V_goto (pc := 188) dX11_repeated_188 (tgt := 192) rfl ?_
        refine V_iast (pc := 192) dX11_repeated_192 hL.t39 (by omega) ?_
        refine V_ld (pc := 193) dX11_repeated_193 (v := vi ((((advP (curlP tx n (atoL tx n k S).2).2.2)).2.2.1 : Nat) : Int)) rfl rfl ?_
        refine V_reti (pc := 195) dX11_repeated_195 trivial ?_
        first
          | (exfalso; omega)
          | (have eA : repL tx n k S = timesP (advP (curlP tx n (atoL tx n k S).2).2.2) (atoL tx n k S).1 ((curlP tx n (atoL tx n k S).2).1) ((curlP tx n (atoL tx n k S).2).2.1) 0 := by
               unfold repL repP
               rw [if_pos (by omega), hQ]
               show (if ((curlP tx n (atoL tx n k S).2).2.2).1 = true then (if cS tx n (curlP tx n (atoL tx n k S).2).2.2 = 63 then timesP (advP (curlP tx n (atoL tx n k S).2).2.2) (atoL tx n k S).1 ((curlP tx n (atoL tx n k S).2).1) ((curlP tx n (atoL tx n k S).2).2.1) 0 else timesP (curlP tx n (atoL tx n k S).2).2.2 (atoL tx n k S).1 ((curlP tx n (atoL tx n k S).2).1) ((curlP tx n (atoL tx n k S).2).2.1) 1) else (-5, (curlP tx n (atoL tx n k S).2).2.2)) = _
               rw [if_pos hwq, if_pos (by omega)]
             refine ⟨mI (setI (setI (setI (wI (setI (wI (setI (setI (wI m I) 30 19 0) 30 20 100) Ix92) 30 7 ((((curlP tx n ((atoL tx n k S).2)).2.2).2.1 : Int) + 1)) Ix149) 37 (((((advP (curlP tx n (atoL tx n k S).2).2.2)).2.2.1 : Nat) : Int).toNat) ((curlP tx n (atoL tx n k S).2).1)) 38 (((((advP (curlP tx n (atoL tx n k S).2).2.2)).2.2.1 : Nat) : Int).toNat) ((curlP tx n (atoL tx n k S).2).2.1)) 39 (((((advP (curlP tx n (atoL tx n k S).2).2.2)).2.2.1 : Nat) : Int).toNat) 0), rfl, by rw [eA]; rfl, ?_, (RFr.set (RFr.set (RFr.set (RFr.tr (RFr.set (RFr.tr (RFr.set (RFr.set hF (by omega)) (by omega)) hF92) (by omega)) (RFp.r hF149)) (by omega)) (by omega)) (by omega))⟩
             rw [eA]
             exact RP.times (RP.rnd hPr (fun _ => by omega) hT149 hc149 hF149))
    · skip
      refine V_bipush (pc := 142) dX11_repeated_142 (by unfold I32; omega) (by decide) ?_
      refine V_reti (pc := 144) dX11_repeated_144 trivial ?_
      exfalso
      have h2_ := (hwr.resolve_left (fun h => by have h4_ : mI (wI (setI (setI (wI m I) 30 19 0) 30 20 100) Ix92) 30 8 = 1 := h.2; omega)).1
      have h3_ : (advP (curlP tx n (atoL tx n k S).2).2.2).1 = true := hz1
      rw [h2_] at h3_; cases h3_

set_option maxHeartbeats 4000000 in
theorem r_repeated (tx : Nat → Int) (n : Nat) (k : Nat) (S : PS) (m : Mem) (deep : Int)   (hL : Lay (mT m) (mR m)) (hP : RP (mI m) tx n S) (hk : deep + (k : Int) = 5) (hsub : ∀ k_ : Nat, k = k_ + 1 → RAlt tx n k_) : Ct μX11_repeated (4 + 5 * k) [vr 30, vi deep] m (ri fun x_ m' => ∃ I_ : Nat → Nat → Int, wI m I_ = m' ∧ (x_ = (repL tx n k S).1) ∧ RP I_ tx n (repL tx n k S).2 ∧ RFr (mI m) I_) := by
  refine Ct_of_V rfl (by decide) rfl (Nat.le_of_ble_eq_true rfl) ?_
  show V μX11_repeated (4 + 5 * k) m _ 0 [(0, vr 30), (1, vi deep)] [] m
  refine V_rg (k := 1) (x := deep) rfl fun r_deep => ?_
  have hn120 := hP.2.2.2.2.2.2.1
  refine V_ld (pc := 0) dX11_repeated_0 (v := vr 30) rfl rfl ?_
  refine V_ld (pc := 1) dX11_repeated_1 (v := vi deep) rfl rfl ?_
  refine V_callV (pc := 2) dX11_repeated_2 (F' := (3 + 5 * k)) (As := [vi deep]) (st := []) cw_RX11_172 rfl rfl hL.t30 (by decide) (Nat.le_of_ble_eq_true rfl) (by omega) (r_atom tx n k S m deep   (by first | assumption | omega) hP (by first | assumption | omega) (by first | assumption | omega)) ?_
  rintro _ _ ⟨x2, rfl, Ix2, rfl, rfl, hP2, hF2⟩ ok2 le2
  have hB2 := hP2.2.2.2.2.1
  refine V_st (pc := 5) dX11_repeated_5 (ls' := [(2, vi ((atoL tx n k S).1)), (0, vr 30), (1, vi deep)]) rfl (Nat.le_of_ble_eq_true rfl) rfl ?_
  refine V_ld (pc := 6) dX11_repeated_6 (v := vr 30) rfl rfl ?_
  refine V_bipush (pc := 7) dX11_repeated_7 (by unfold I32; omega) (by decide) ?_
  refine V_callV (pc := 9) dX11_repeated_9 (F' := 0) (As := [vi 42]) (st := []) cw_RX11_132 rfl rfl hL.t30 (by decide) (Nat.le_of_ble_eq_true rfl) (by omega) (r_isAt tx n ((atoL tx n k S).2) (wI m Ix2) 42   (by first | assumption | omega) hP2 (by decide)) ?_
  rintro _ _ ⟨x9, rfl, hx9, rfl⟩ ok9 le9
  refine V_if_ne (pc := 12) dX11_repeated_12 (tgt := 44) rfl (fun h12 => ?_) (fun h12 => ?_)
  · skip
    skip
    refine V_mem (m' := wI m Ix2) rfl ?_
    first
      | (have hcc : cS tx n (atoL tx n k S).2 = 42 := by omega
         exact L_rep42 hL hP2 hF2 hcc)
      | (have hcc : cS tx n (atoL tx n k S).2 = 43 := by omega
         exact L_rep43 hL hP2 hF2 hcc)
      | (have hcc : cS tx n (atoL tx n k S).2 = 63 := by omega
         exact L_rep63 hL hP2 hF2 hcc)
      | (have hcc : cS tx n (atoL tx n k S).2 = 123 := by omega
         exact L_rep123 hL hP2 hF2 hcc)
  · skip
    refine V_ld (pc := 15) dX11_repeated_15 (v := vr 30) rfl rfl ?_
    refine V_bipush (pc := 16) dX11_repeated_16 (by unfold I32; omega) (by decide) ?_
    refine V_callV (pc := 18) dX11_repeated_18 (F' := 0) (As := [vi 43]) (st := []) cw_RX11_132 rfl rfl hL.t30 (by decide) (Nat.le_of_ble_eq_true rfl) (by omega) (r_isAt tx n ((atoL tx n k S).2) (wI m Ix2) 43   (by first | assumption | omega) hP2 (by decide)) ?_
    rintro _ _ ⟨x18, rfl, hx18, rfl⟩ ok18 le18
    refine V_if_ne (pc := 21) dX11_repeated_21 (tgt := 44) rfl (fun h21 => ?_) (fun h21 => ?_)
    · skip
      skip
      refine V_mem (m' := wI m Ix2) rfl ?_
      first
        | (have hcc : cS tx n (atoL tx n k S).2 = 42 := by omega
           exact L_rep42 hL hP2 hF2 hcc)
        | (have hcc : cS tx n (atoL tx n k S).2 = 43 := by omega
           exact L_rep43 hL hP2 hF2 hcc)
        | (have hcc : cS tx n (atoL tx n k S).2 = 63 := by omega
           exact L_rep63 hL hP2 hF2 hcc)
        | (have hcc : cS tx n (atoL tx n k S).2 = 123 := by omega
           exact L_rep123 hL hP2 hF2 hcc)
    · skip
      refine V_ld (pc := 24) dX11_repeated_24 (v := vr 30) rfl rfl ?_
      refine V_bipush (pc := 25) dX11_repeated_25 (by unfold I32; omega) (by decide) ?_
      refine V_callV (pc := 27) dX11_repeated_27 (F' := 0) (As := [vi 63]) (st := []) cw_RX11_132 rfl rfl hL.t30 (by decide) (Nat.le_of_ble_eq_true rfl) (by omega) (r_isAt tx n ((atoL tx n k S).2) (wI m Ix2) 63   (by first | assumption | omega) hP2 (by decide)) ?_
      rintro _ _ ⟨x27, rfl, hx27, rfl⟩ ok27 le27
      refine V_if_ne (pc := 30) dX11_repeated_30 (tgt := 44) rfl (fun h30 => ?_) (fun h30 => ?_)
      · skip
        skip
        refine V_mem (m' := wI m Ix2) rfl ?_
        first
          | (have hcc : cS tx n (atoL tx n k S).2 = 42 := by omega
             exact L_rep42 hL hP2 hF2 hcc)
          | (have hcc : cS tx n (atoL tx n k S).2 = 43 := by omega
             exact L_rep43 hL hP2 hF2 hcc)
          | (have hcc : cS tx n (atoL tx n k S).2 = 63 := by omega
             exact L_rep63 hL hP2 hF2 hcc)
          | (have hcc : cS tx n (atoL tx n k S).2 = 123 := by omega
             exact L_rep123 hL hP2 hF2 hcc)
      · skip
        refine V_ld (pc := 33) dX11_repeated_33 (v := vr 30) rfl rfl ?_
        refine V_bipush (pc := 34) dX11_repeated_34 (by unfold I32; omega) (by decide) ?_
        refine V_callV (pc := 36) dX11_repeated_36 (F' := 0) (As := [vi 123]) (st := []) cw_RX11_132 rfl rfl hL.t30 (by decide) (Nat.le_of_ble_eq_true rfl) (by omega) (r_isAt tx n ((atoL tx n k S).2) (wI m Ix2) 123   (by first | assumption | omega) hP2 (by decide)) ?_
        rintro _ _ ⟨x36, rfl, hx36, rfl⟩ ok36 le36
        refine V_if_ne (pc := 39) dX11_repeated_39 (tgt := 44) rfl (fun h39 => ?_) (fun h39 => ?_)
        · skip
          skip
          refine V_mem (m' := wI m Ix2) rfl ?_
          first
            | (have hcc : cS tx n (atoL tx n k S).2 = 42 := by omega
               exact L_rep42 hL hP2 hF2 hcc)
            | (have hcc : cS tx n (atoL tx n k S).2 = 43 := by omega
               exact L_rep43 hL hP2 hF2 hcc)
            | (have hcc : cS tx n (atoL tx n k S).2 = 63 := by omega
               exact L_rep63 hL hP2 hF2 hcc)
            | (have hcc : cS tx n (atoL tx n k S).2 = 123 := by omega
               exact L_rep123 hL hP2 hF2 hcc)
        · skip
          refine V_ld (pc := 42) dX11_repeated_42 (v := vi ((atoL tx n k S).1)) rfl rfl ?_
          refine V_reti (pc := 43) dX11_repeated_43 trivial ?_
          have eA : repL tx n k S = (atoL tx n k S) := by unfold repL repP; rw [if_neg (by omega)]
          refine ⟨mI (wI m Ix2), rfl, by rw [eA], ?_, hF2⟩
          rw [eA]
          exact hP2
