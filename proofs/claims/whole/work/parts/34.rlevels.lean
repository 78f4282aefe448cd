/-! the reference reads: the levels of a pattern -/
theorem RP.leaf {I J : Nat → Nat → Int} {tx : Nat → Int} {n : Nat} {S : PS} {so le v : Int} (h : RP I tx n S) (h1 : S.1 = true) (hlt : S.2.1 < n) (hk : MkP I J S.2.2.1 so) (hv : v = (S.2.1 : Int) + 1) : RP (up2 (up2 J 36 S.2.2.1 le) 30 7 v) tx n (leafP S so le).2 := by
  obtain ⟨a1, a2, a3, a4, a5, a6, a7, a8, a9⟩ := h
  obtain ⟨h1', e0, e1, e3, e4, e5, e2, e7, e8, e6, e9⟩ := hk
  have a6' := a6 h1
  refine ⟨?_, ?_, ?_, ?_, ?_, fun _ => ?_, a7, fun k hk => ?_, ?_⟩
  · exact (h1' 30 6 (by omega) (by omega)).trans a1
  · show v = ((S.2.1 + 1 : Nat) : Int); omega
  · exact (h1' 30 8 (by omega) (by omega)).trans a3
  · show J 30 9 = ((S.2.2.1 + 1 : Nat) : Int); rw [e9]; rfl
  · show S.2.1 + 1 ≤ n; omega
  · show S.2.2.1 + 1 ≤ 2 * (S.2.1 + 1); omega
  · exact ⟨(h1' 34 k (by omega) (by omega)).trans (a8 k hk).1, (a8 k hk).2⟩
  · refine RTab.mk a9 (fun a p _ _ hp => ?_) ?_ ?_ ?_ ?_ ?_ ?_ ?_ ?_ ?_
    · rw [up2_no (by omega), up2_nk (by omega)]; exact h1' a p (by omega) (by omega)
    · rw [up2_no (by decide), up2_no (by decide)]; exact e0
    · rw [up2_no (by decide), up2_s]
    · rw [up2_no (by decide), up2_no (by decide)]; exact e2
    · rw [up2_no (by decide), up2_no (by decide)]; exact e3
    · rw [up2_no (by decide), up2_no (by decide)]; exact e4
    · rw [up2_no (by decide), up2_no (by decide)]; exact e5
    · rw [up2_no (by decide), up2_no (by decide)]; exact e6
    · rw [up2_no (by decide), up2_no (by decide)]; exact e7
    · rw [up2_no (by decide), up2_no (by decide)]; exact e8
theorem up2_id {I : Nat → Nat → Int} {o k : Nat} {v : Int} (h : I o k = v) : up2 I o k v = I := by
  funext a b
  unfold up2
  by_cases e : a = o ∧ b = k
  · obtain ⟨rfl, rfl⟩ := e; rw [if_pos ⟨rfl, rfl⟩, h]
  · rw [if_neg e]
theorem RP.leaf5 {I J : Nat → Nat → Int} {tx : Nat → Int} {n : Nat} {S : PS} {so v : Int} (h : RP I tx n S) (h1 : S.1 = true) (hlt : S.2.1 < n) (hk : MkP I J S.2.2.1 so) (hv : v = (S.2.1 : Int) + 1) : RP (up2 J 30 7 v) tx n (leafP S so (-5)).2 := by
  have := RP.leaf (le := -5) h h1 hlt hk hv
  rw [up2_id hk.2.2.1] at this
  exact this
theorem RP.lnk {I : Nat → Nat → Int} {tx : Nat → Int} {n : Nat} {S : PS} {l x : Int} (h : RP I tx n S) : RP (up2 I 42 l.toNat x) tx n (lnkP S l x) := by
  obtain ⟨a1, a2, a3, a4, a5, a6, a7, a8, a9⟩ := h
  exact ⟨a1, a2, a3, a4, a5, a6, a7, a8, RTab.wr (w := 8) a9 (by decide)⟩
theorem RP.rnd {I J : Nat → Nat → Int} {tx : Nat → Int} {n : Nat} {S : PS} {so k : Int} {q : Nat} (h : RP I tx n S) (hc : S.1 = true → S.2.2.1 + 1 ≤ 2 * S.2.1) (hT : RTab J (wiT q k S.2.2.1 (mkT S.2.2.2 S.2.2.1 so (-5) (q : Int) k (gT S.2.2.2 so k q))) (S.2.2.1 + 1)) (h9 : J 30 9 = (S.2.2.1 : Int) + 1) (hF : RFp I J) : RP J tx n (rndP S so k q).2 := by
  obtain ⟨a1, a2, a3, a4, a5, a6, a7, a8, a9⟩ := h
  exact ⟨(hF 30 6 (by omega) (by omega)).trans a1, (hF 30 7 (by omega) (by omega)).trans a2, (hF 30 8 (by omega) (by omega)).trans a3, h9, a5, hc, a7, fun k hk => ⟨(hF 34 k (by omega) (by omega)).trans (a8 k hk).1, (a8 k hk).2⟩, hT⟩
theorem RP.c240 {I : Nat → Nat → Int} {tx : Nat → Int} {n : Nat} {S : PS} (h : RP I tx n S) (h1 : S.1 = true) : S.2.2.1 ≤ 240 := by
  obtain ⟨a1, a2, a3, a4, a5, a6, a7, a8, a9⟩ := h
  have := a6 h1
  omega
theorem RP.wl {I : Nat → Nat → Int} {tx : Nat → Int} {n : Nat} {S : PS} (h : RP I tx n S) : (S.1 = true ∧ I 30 8 = 1) ∨ (S.1 = false ∧ I 30 8 = 0) := by
  have := h.2.2.1
  cases hS : S.1 with
  | true => rw [hS] at this; exact Or.inl ⟨rfl, this⟩
  | false => rw [hS] at this; exact Or.inr ⟨rfl, this⟩

def RAlt (tx : Nat → Int) (n k : Nat) : Prop := ∀ (S : PS) (m : Mem) (deep : Int)   (hL : Lay (mT m) (mR m)) (hP : RP (mI m) tx n S) (hk : deep + (k : Int) = 5), Ct μX11_alternatives (6 + 5 * k) [vr 30, vi deep] m (ri fun x_ m' => ∃ I_ : Nat → Nat → Int, wI m I_ = m' ∧ (x_ = (altL tx n k S).1) ∧ RP I_ tx n (altL tx n k S).2 ∧ RFr (mI m) I_)

theorem r_repeated (tx : Nat → Int) (n : Nat) (k : Nat) (S : PS) (m : Mem) (deep : Int)   (hL : Lay (mT m) (mR m)) (hP : RP (mI m) tx n S) (hk : deep + (k : Int) = 5) (hsub : ∀ k_ : Nat, k = k_ + 1 → RAlt tx n k_) : Ct μX11_repeated (4 + 5 * k) [vr 30, vi deep] m (ri fun x_ m' => ∃ I_ : Nat → Nat → Int, wI m I_ = m' ∧ (x_ = (repL tx n k S).1) ∧ RP I_ tx n (repL tx n k S).2 ∧ RFr (mI m) I_) := by
  sorry

set_option maxHeartbeats 8000000 in
theorem L_series {F : Nat} {m0 m : Mem} {post : Option AV → Mem → Prop} {tx : Nat → Int} {n k : Nat} {deep one k0 : Int} {S0 : PS} (hL : Lay (mT m) (mR m)) (hFF : (4 + 5 * k) < F) (hk : deep + (k : Int) = 5) (hsub : ∀ k_ : Nat, k = k_ + 1 → RAlt tx n k_) : ∀ (f q : Nat) (last : Int) (S : PS) (I : Nat → Nat → Int), RP I tx n S → LpI n S0 k0 q last S → 1 ≤ q → q ≤ 200 → (S.1 = true → q ≤ S.2.1) → n + 1 ≤ S.2.1 + f → (∀ last' J, RP J tx n (lpG tx n cSer (repL tx n k) f q last S).2 → RFr I J → V μX11_series F m0 post 49 [(4, vi ((lpG tx n cSer (repL tx n k) f q last S).1 : Int)), (3, vi last'), (0, vr 30), (1, vi deep), (2, vi one)] [] (wI m J)) → V μX11_series F m0 post 11 [(4, vi (q : Int)), (3, vi last), (0, vr 30), (1, vi deep), (2, vi one)] [] (wI m I) := by
  intro f
  induction f with
  | zero =>
    intro q last S I hP hI hq1 hq2 hq3 hf kx
    have hfz := hP.2.2.2.2.1
    omega
  | succ f ih =>
    intro q last S I hP hI hq1 hq2 hq3 hf kx
    have hn120 := hP.2.2.2.2.2.2.1
    have ew : (lpG tx n cSer (repL tx n k) (f + 1) q last S) = (if cSer (cS tx n S) q then (if (repL tx n k S).2.1 = true then (lpG tx n cSer (repL tx n k) f (q + 1) (repL tx n k S).1 (lnkP (repL tx n k S).2 last (repL tx n k S).1)) else (q, (repL tx n k S).2)) else (q, S)) := rfl
    refine V_ld (pc := 11) dX11_series_11 (v := vr 30) rfl rfl ?_
    refine V_callV (pc := 12) dX11_series_12 (F' := 1) (As := []) (st := []) cw_RX11_185 rfl rfl hL.t30 (by decide) (Nat.le_of_ble_eq_true rfl) (by omega) (r_isAtom tx n S (wI m I)    (by first | assumption | omega) hP) ?_
    rintro _ _ ⟨xt, rfl, hxt, rfl⟩ ok12 le12
    refine V_if_eq (pc := 15) dX11_series_15 (tgt := 49) rfl (fun h15 => ?_) (fun h15 => ?_)
    · skip
      have hc : ¬ cSer (cS tx n S) q := by unfold cSer isAt1 at *; omega
      have h_ := kx last I (by rw [ew, if_neg hc]; exact hP) RFr.rf
      rw [ew, if_neg hc] at h_
      skip
      exact h_
    · skip
      have hc : cSer (cS tx n S) q := by unfold cSer isAt1 at *; omega
      obtain ⟨hS1, hSl⟩ := cS_lt (tx := tx) (n := n) (S := S) (by omega)
      obtain ⟨l1, l2, l3, l4, l5, l6, l7⟩ := hI.2 hS1
      have l8 := Pth.bd l5
      have l9 := RP.c240 hP hS1
      have l10 := hq3 hS1
      refine V_ld (pc := 18) dX11_series_18 (v := vr 30) rfl rfl ?_
      refine V_ld (pc := 19) dX11_series_19 (v := vi deep) rfl rfl ?_
      refine V_callV (pc := 20) dX11_series_20 (F' := (4 + 5 * k)) (As := [vi deep]) (st := []) cw_RX11_182 rfl rfl hL.t30 (by decide) (Nat.le_of_ble_eq_true rfl) (by omega) (r_repeated tx n k S (wI m I) deep   (by first | assumption | omega) hP (by first | assumption | omega) (by first | assumption | omega)) ?_
      rintro _ _ ⟨x20, rfl, Ix20, rfl, rfl, hP20, hF20⟩ ok20 le20
      have hw20 := RP.wl hP20
      have hB20 := hP20.2.2.2.2.1
      refine V_st (pc := 23) dX11_series_23 (ls' := [(5, vi ((repL tx n k S).1)), (4, vi (q : Int)), (3, vi last), (0, vr 30), (1, vi deep), (2, vi one)]) rfl (Nat.le_of_ble_eq_true rfl) rfl ?_
      refine V_ld (pc := 25) dX11_series_25 (v := vr 30) rfl rfl ?_
      refine V_getIv (pc := 26) dX11_series_26 (v := Ix20 30 8) fw_RX11_128 rfl hL.t30 rfl (fun g26 => ?_)
      refine V_if_eq (pc := 29) dX11_series_29 (tgt := 46) rfl (fun h29 => ?_) (fun h29 => ?_)
      · skip
        refine V_goto (pc := 46) dX11_series_46 (tgt := 11) rfl ?_
        have hdead : (repL tx n k S).2.1 = false := (hw20.resolve_left (fun h => by have := h.2; omega)).1
        have hcd := cS_dead (tx := tx) (n := n) hdead
        refine V_ld (pc := 11) dX11_series_11 (v := vr 30) rfl rfl ?_
        refine V_callV (pc := 12) dX11_series_12 (F' := 1) (As := []) (st := []) cw_RX11_185 rfl rfl hL.t30 (by decide) (Nat.le_of_ble_eq_true rfl) (by omega) (r_isAtom tx n ((repL tx n k S).2) (wI (wI m I) Ix20)    (by first | assumption | omega) hP20) ?_
        rintro _ _ ⟨xd, rfl, hxd, rfl⟩ ok12 le12
        refine V_if_eq (pc := 15) dX11_series_15 (tgt := 49) rfl (fun h15 => ?_) (fun h15 => ?_)
        · skip
          first
            | (exfalso; omega)
            | (have hnw : ¬ (repL tx n k S).2.1 = true := by rw [hdead]; exact Bool.false_ne_true
               have h_ := kx last Ix20 (by rw [ew, if_pos hc, if_neg hnw]; exact hP20) (RFr.tr RFr.rf hF20)
               rw [ew, if_pos hc, if_neg hnw] at h_
               refine V_ls (ls' := [(4, vi (q : Int)), (3, vi last), (0, vr 30), (1, vi deep), (2, vi one)]) (by intro q_ h_; simp only [List.mem_cons, List.not_mem_nil, or_false] at h_ ⊢; rcases h_ with rfl | rfl | rfl | rfl | rfl <;> simp) ?_
               exact h_)
        · skip
          exfalso; omega
      · skip
        have hw : (repL tx n k S).2.1 = true := (hw20.resolve_right (fun h => h29 h.2)).1
        obtain ⟨g1, g2, g3, g4, g5, g6, g7, g8⟩ := (repL_nice tx n k S).2 hw
        skip
        refine V_ld (pc := 32) dX11_series_32 (v := vr 30) rfl rfl ?_
        refine V_getRv (pc := 33) dX11_series_33 (o' := 42) fw_RX11_45 rfl hL.t30 hL.r30_17 ?_
        refine V_ld (pc := 36) dX11_series_36 (v := vi last) rfl rfl ?_
        refine V_ld (pc := 37) dX11_series_37 (v := vi ((repL tx n k S).1)) rfl rfl ?_
        refine V_iast (pc := 39) dX11_series_39 hL.t42 (by omega) ?_
        refine V_ld (pc := 40) dX11_series_40 (v := vi ((repL tx n k S).1)) rfl rfl ?_
        refine V_st (pc := 42) dX11_series_42 (ls' := [(3, vi ((repL tx n k S).1)), (5, vi ((repL tx n k S).1)), (4, vi (q : Int)), (0, vr 30), (1, vi deep), (2, vi one)]) rfl (Nat.le_of_ble_eq_true rfl) rfl ?_
        refine V_iinc (pc := 43) dX11_series_43 (x := (q : Int)) (ls' := [(4, vi ((q : Int) + 1)), (3, vi ((repL tx n k S).1)), (5, vi ((repL tx n k S).1)), (0, vr 30), (1, vi deep), (2, vi one)]) rfl (by unfold I32 at *; omega) (Nat.le_of_ble_eq_true rfl) rfl ?_
        refine V_goto (pc := 46) dX11_series_46 (tgt := 11) rfl ?_
        refine V_ls (ls' := [(4, vi ((q : Int) + 1)), (3, vi ((repL tx n k S).1)), (0, vr 30), (1, vi deep), (2, vi one)]) (by intro q_ h_; simp only [List.mem_cons, List.not_mem_nil, or_false] at h_ ⊢; rcases h_ with rfl | rfl | rfl | rfl | rfl <;> simp) ?_
        refine ih (q + 1) (repL tx n k S).1 (lnkP (repL tx n k S).2 last (repL tx n k S).1) (up2 Ix20 42 last.toNat (repL tx n k S).1) (RP.lnk hP20) (LpI.more (V := S) hI hS1 ⟨Nat.le_refl _, rfl⟩ (Nat.le_of_lt hSl) (repL_nice tx n k S) hw) (by omega) (by omega) (fun _ => ?_) ?_ ?_
        · show q + 1 ≤ (repL tx n k S).2.2.1; omega
        · show n + 1 ≤ (repL tx n k S).2.2.1 + f; omega
        · intro last' J hJ hFJ
          have h_ := kx last' J (by rw [ew, if_pos hc, if_pos hw]; exact hJ) (RFr.tr (RFr.set (RFr.tr RFr.rf hF20) (by omega)) hFJ)
          rw [ew, if_pos hc, if_pos hw] at h_
          exact h_

theorem r_series (tx : Nat → Int) (n : Nat) (k : Nat) (S : PS) (m : Mem) (deep : Int)   (hL : Lay (mT m) (mR m)) (hP : RP (mI m) tx n S) (hk : deep + (k : Int) = 5) (hsub : ∀ k_ : Nat, k = k_ + 1 → RAlt tx n k_) : Ct μX11_series (5 + 5 * k) [vr 30, vi deep] m (ri fun x_ m' => ∃ I_ : Nat → Nat → Int, wI m I_ = m' ∧ (x_ = (serL tx n k S).1) ∧ RP I_ tx n (serL tx n k S).2 ∧ RFr (mI m) I_) := by
  sorry

set_option maxHeartbeats 8000000 in
theorem L_alt {F : Nat} {m0 m : Mem} {post : Option AV → Mem → Prop} {tx : Nat → Int} {n k : Nat} {deep one k0 : Int} {S0 : PS} (hL : Lay (mT m) (mR m)) (hFF : (5 + 5 * k) < F) (hk : deep + (k : Int) = 5) (hsub : ∀ k_ : Nat, k = k_ + 1 → RAlt tx n k_) : ∀ (f q : Nat) (last : Int) (S : PS) (I : Nat → Nat → Int), RP I tx n S → LpI n S0 k0 q last S → 1 ≤ q → q ≤ 200 → (S.1 = true → q ≤ S.2.1) → n + 1 ≤ S.2.1 + f → (∀ last' J, RP J tx n (lpG tx n cAlt (fun S => serL tx n k (advP S)) f q last S).2 → RFr I J → V μX11_alternatives F m0 post 61 [(4, vi ((lpG tx n cAlt (fun S => serL tx n k (advP S)) f q last S).1 : Int)), (3, vi last'), (0, vr 30), (1, vi deep), (2, vi one)] [] (wI m J)) → V μX11_alternatives F m0 post 11 [(4, vi (q : Int)), (3, vi last), (0, vr 30), (1, vi deep), (2, vi one)] [] (wI m I) := by
  intro f
  induction f with
  | zero =>
    intro q last S I hP hI hq1 hq2 hq3 hf kx
    have hfz := hP.2.2.2.2.1
    omega
  | succ f ih =>
    intro q last S I hP hI hq1 hq2 hq3 hf kx
    have hn120 := hP.2.2.2.2.2.2.1
    have ew : (lpG tx n cAlt (fun S => serL tx n k (advP S)) (f + 1) q last S) = (if cAlt (cS tx n S) q then (if (serL tx n k (advP S)).2.1 = true then (lpG tx n cAlt (fun S => serL tx n k (advP S)) f (q + 1) (serL tx n k (advP S)).1 (lnkP (serL tx n k (advP S)).2 last (serL tx n k (advP S)).1)) else (q, (serL tx n k (advP S)).2)) else (q, S)) := rfl
    refine V_ld (pc := 11) dX11_alternatives_11 (v := vr 30) rfl rfl ?_
    refine V_bipush (pc := 12) dX11_alternatives_12 (by unfold I32; omega) (by decide) ?_
    refine V_callV (pc := 14) dX11_alternatives_14 (F' := 0) (As := [vi 124]) (st := []) cw_RX11_132 rfl rfl hL.t30 (by decide) (Nat.le_of_ble_eq_true rfl) (by omega) (r_isAt tx n S (wI m I) 124   (by first | assumption | omega) hP (by decide)) ?_
    rintro _ _ ⟨xt, rfl, hxt, rfl⟩ ok14 le14
    refine V_if_eq (pc := 17) dX11_alternatives_17 (tgt := 61) rfl (fun h17 => ?_) (fun h17 => ?_)
    · skip
      have hc : ¬ cAlt (cS tx n S) q := by unfold cAlt at *; omega
      have h_ := kx last I (by rw [ew, if_neg hc]; exact hP) RFr.rf
      rw [ew, if_neg hc] at h_
      skip
      exact h_
    · skip
      have hc : cAlt (cS tx n S) q := by unfold cAlt at *; omega
      obtain ⟨hS1, hSl⟩ := cS_lt (tx := tx) (n := n) (S := S) (by omega)
      obtain ⟨l1, l2, l3, l4, l5, l6, l7⟩ := hI.2 hS1
      have l8 := Pth.bd l5
      have l9 := RP.c240 hP hS1
      have l10 := hq3 hS1
      refine V_ld (pc := 20) dX11_alternatives_20 (v := vr 30) rfl rfl ?_
      refine V_dup (pc := 21) dX11_alternatives_21 rfl ?_
      refine V_getIv (pc := 22) dX11_alternatives_22 (v := (S.2.1 : Int)) fw_RX11_125 rfl hL.t30 hP.2.1 (fun g22 => ?_)
      refine V_iconst (pc := 25) dX11_alternatives_25 (by unfold I32; omega) ?_
      refine V_iadd (pc := 26) dX11_alternatives_26 (by unfold I32 at *; omega) ?_
      refine V_putI (pc := 27) dX11_alternatives_27 fw_RX11_125 rfl hL.t30 (Or.inl rfl) (Or.inl rfl) ?_
      have hPa : RP (mI (setI (wI m I) 30 7 ((S.2.1 : Int) + 1))) tx n (advP S) := RP.adv hP (congrArg (fun z => z + 1) hP.2.1.symm) (show I 30 7 < I 30 6 from by have h1_ := hP.1; have h2_ := hP.2.1; omega)
      refine V_ld (pc := 30) dX11_alternatives_30 (v := vr 30) rfl rfl ?_
      refine V_ld (pc := 31) dX11_alternatives_31 (v := vi deep) rfl rfl ?_
      refine V_callV (pc := 32) dX11_alternatives_32 (F' := (5 + 5 * k)) (As := [vi deep]) (st := []) cw_RX11_189 rfl rfl hL.t30 (by decide) (Nat.le_of_ble_eq_true rfl) (by omega) (r_series tx n k (advP S) (setI (wI m I) 30 7 ((S.2.1 : Int) + 1)) deep   (by first | assumption | omega) hPa (by first | assumption | omega) (by first | assumption | omega)) ?_
      rintro _ _ ⟨x32, rfl, Ix32, rfl, rfl, hP32, hF32⟩ ok32 le32
      have hw32 := RP.wl hP32
      have hB32 := hP32.2.2.2.2.1
      refine V_st (pc := 35) dX11_alternatives_35 (ls' := [(5, vi ((serL tx n k (advP S)).1)), (4, vi (q : Int)), (3, vi last), (0, vr 30), (1, vi deep), (2, vi one)]) rfl (Nat.le_of_ble_eq_true rfl) rfl ?_
      refine V_ld (pc := 37) dX11_alternatives_37 (v := vr 30) rfl rfl ?_
      refine V_getIv (pc := 38) dX11_alternatives_38 (v := Ix32 30 8) fw_RX11_128 rfl hL.t30 rfl (fun g38 => ?_)
      refine V_if_eq (pc := 41) dX11_alternatives_41 (tgt := 58) rfl (fun h41 => ?_) (fun h41 => ?_)
      · skip
        refine V_goto (pc := 58) dX11_alternatives_58 (tgt := 11) rfl ?_
        have hdead : (serL tx n k (advP S)).2.1 = false := (hw32.resolve_left (fun h => by have := h.2; omega)).1
        have hcd := cS_dead (tx := tx) (n := n) hdead
        refine V_ld (pc := 11) dX11_alternatives_11 (v := vr 30) rfl rfl ?_
        refine V_bipush (pc := 12) dX11_alternatives_12 (by unfold I32; omega) (by decide) ?_
        refine V_callV (pc := 14) dX11_alternatives_14 (F' := 0) (As := [vi 124]) (st := []) cw_RX11_132 rfl rfl hL.t30 (by decide) (Nat.le_of_ble_eq_true rfl) (by omega) (r_isAt tx n ((serL tx n k (advP S)).2) (wI (setI (wI m I) 30 7 ((S.2.1 : Int) + 1)) Ix32) 124   (by first | assumption | omega) hP32 (by decide)) ?_
        rintro _ _ ⟨xd, rfl, hxd, rfl⟩ ok14 le14
        refine V_if_eq (pc := 17) dX11_alternatives_17 (tgt := 61) rfl (fun h17 => ?_) (fun h17 => ?_)
        · skip
          first
            | (exfalso; omega)
            | (have hnw : ¬ (serL tx n k (advP S)).2.1 = true := by rw [hdead]; exact Bool.false_ne_true
               have h_ := kx last Ix32 (by rw [ew, if_pos hc, if_neg hnw]; exact hP32) (RFr.tr (RFr.set RFr.rf (by omega)) hF32)
               rw [ew, if_pos hc, if_neg hnw] at h_
               refine V_ls (ls' := [(4, vi (q : Int)), (3, vi last), (0, vr 30), (1, vi deep), (2, vi one)]) (by intro q_ h_; simp only [List.mem_cons, List.not_mem_nil, or_false] at h_ ⊢; rcases h_ with rfl | rfl | rfl | rfl | rfl <;> simp) ?_
               exact h_)
        · skip
          exfalso; omega
      · skip
        have hw : (serL tx n k (advP S)).2.1 = true := (hw32.resolve_right (fun h => h41 h.2)).1
        obtain ⟨g1, g2, g3, g4, g5, g6, g7, g8⟩ := (serL_nice tx n k (advP S)).2 hw
        have g9 : (advP S).2.1 = S.2.1 + 1 := rfl
        refine V_ld (pc := 44) dX11_alternatives_44 (v := vr 30) rfl rfl ?_
        refine V_getRv (pc := 45) dX11_alternatives_45 (o' := 42) fw_RX11_45 rfl hL.t30 hL.r30_17 ?_
        refine V_ld (pc := 48) dX11_alternatives_48 (v := vi last) rfl rfl ?_
        refine V_ld (pc := 49) dX11_alternatives_49 (v := vi ((serL tx n k (advP S)).1)) rfl rfl ?_
        refine V_iast (pc := 51) dX11_alternatives_51 hL.t42 (by omega) ?_
        refine V_ld (pc := 52) dX11_alternatives_52 (v := vi ((serL tx n k (advP S)).1)) rfl rfl ?_
        refine V_st (pc := 54) dX11_alternatives_54 (ls' := [(3, vi ((serL tx n k (advP S)).1)), (5, vi ((serL tx n k (advP S)).1)), (4, vi (q : Int)), (0, vr 30), (1, vi deep), (2, vi one)]) rfl (Nat.le_of_ble_eq_true rfl) rfl ?_
        refine V_iinc (pc := 55) dX11_alternatives_55 (x := (q : Int)) (ls' := [(4, vi ((q : Int) + 1)), (3, vi ((serL tx n k (advP S)).1)), (5, vi ((serL tx n k (advP S)).1)), (0, vr 30), (1, vi deep), (2, vi one)]) rfl (by unfold I32 at *; omega) (Nat.le_of_ble_eq_true rfl) rfl ?_
        refine V_goto (pc := 58) dX11_alternatives_58 (tgt := 11) rfl ?_
        refine V_ls (ls' := [(4, vi ((q : Int) + 1)), (3, vi ((serL tx n k (advP S)).1)), (0, vr 30), (1, vi deep), (2, vi one)]) (by intro q_ h_; simp only [List.mem_cons, List.not_mem_nil, or_false] at h_ ⊢; rcases h_ with rfl | rfl | rfl | rfl | rfl <;> simp) ?_
        refine ih (q + 1) (serL tx n k (advP S)).1 (lnkP (serL tx n k (advP S)).2 last (serL tx n k (advP S)).1) (up2 Ix32 42 last.toNat (serL tx n k (advP S)).1) (RP.lnk hP32) (LpI.more (V := advP S) hI hS1 ⟨Nat.le_succ _, rfl⟩ hSl (serL_nice tx n k (advP S)) hw) (by omega) (by omega) (fun _ => ?_) ?_ ?_
        · show q + 1 ≤ (serL tx n k (advP S)).2.2.1; omega
        · show n + 1 ≤ (serL tx n k (advP S)).2.2.1 + f; omega
        · intro last' J hJ hFJ
          have h_ := kx last' J (by rw [ew, if_pos hc, if_pos hw]; exact hJ) (RFr.tr (RFr.set (RFr.tr (RFr.set RFr.rf (by omega)) hF32) (by omega)) hFJ)
          rw [ew, if_pos hc, if_pos hw] at h_
          exact h_

set_option maxHeartbeats 8000000 in
theorem L_any {F : Nat} {m0 m : Mem} {post : Option AV → Mem → Prop} {tx : Nat → Int} {n k : Nat} {deep one k0 : Int} {S0 : PS} (hL : Lay (mT m) (mR m)) (hFF : (6 + 5 * k) < F) (hk : deep + 1 + (k : Int) = 5) (hsub : RAlt tx n k) : ∀ (f q : Nat) (last : Int) (S : PS) (I : Nat → Nat → Int), RP I tx n S → LpI n S0 k0 q last S → 1 ≤ q → q ≤ 200 → (S.1 = true → q ≤ S.2.1) → n + 1 ≤ S.2.1 + f → (∀ last' J, RP J tx n (lpG tx n cAny (fun S => altL tx n k (advP S)) f q last S).2 → RFr I J → V μX11_anyParts F m0 post 87 [(4, vi ((lpG tx n cAny (fun S => altL tx n k (advP S)) f q last S).1 : Int)), (3, vi last'), (0, vr 30), (1, vi deep), (2, vi one)] [] (wI m J)) → V μX11_anyParts F m0 post 29 [(4, vi (q : Int)), (3, vi last), (0, vr 30), (1, vi deep), (2, vi one)] [] (wI m I) := by
  intro f
  induction f with
  | zero =>
    intro q last S I hP hI hq1 hq2 hq3 hf kx
    have hfz := hP.2.2.2.2.1
    omega
  | succ f ih =>
    intro q last S I hP hI hq1 hq2 hq3 hf kx
    have hn120 := hP.2.2.2.2.2.2.1
    have ew : (lpG tx n cAny (fun S => altL tx n k (advP S)) (f + 1) q last S) = (if cAny (cS tx n S) q then (if (altL tx n k (advP S)).2.1 = true then (lpG tx n cAny (fun S => altL tx n k (advP S)) f (q + 1) (altL tx n k (advP S)).1 (lnkP (altL tx n k (advP S)).2 last (altL tx n k (advP S)).1)) else (q, (altL tx n k (advP S)).2)) else (q, S)) := rfl
    refine V_ld (pc := 29) dX11_anyParts_29 (v := vi (q : Int)) rfl rfl ?_
    refine V_iconst (pc := 31) dX11_anyParts_31 (by unfold I32; omega) ?_
    refine V_icmp_ge (pc := 32) dX11_anyParts_32 (tgt := 87) rfl (fun h32 => ?_) (fun h32 => ?_)
    · skip
      have hc : ¬ cAny (cS tx n S) q := by unfold cAny at *; omega
      have h_ := kx last I (by rw [ew, if_neg hc]; exact hP) RFr.rf
      rw [ew, if_neg hc] at h_
      skip
      exact h_
    · skip
      refine V_ld (pc := 35) dX11_anyParts_35 (v := vr 30) rfl rfl ?_
      refine V_bipush (pc := 36) dX11_anyParts_36 (by unfold I32; omega) (by decide) ?_
      refine V_callV (pc := 38) dX11_anyParts_38 (F' := 0) (As := [vi 44]) (st := []) cw_RX11_132 rfl rfl hL.t30 (by decide) (Nat.le_of_ble_eq_true rfl) (by omega) (r_isAt tx n S (wI m I) 44   (by first | assumption | omega) hP (by decide)) ?_
      rintro _ _ ⟨xt, rfl, hxt, rfl⟩ ok38 le38
      refine V_if_eq (pc := 41) dX11_anyParts_41 (tgt := 87) rfl (fun h41 => ?_) (fun h41 => ?_)
      · skip
        have hc : ¬ cAny (cS tx n S) q := by unfold cAny at *; omega
        have h_ := kx last I (by rw [ew, if_neg hc]; exact hP) RFr.rf
        rw [ew, if_neg hc] at h_
        skip
        exact h_
      · skip
        have hc : cAny (cS tx n S) q := by unfold cAny at *; omega
        obtain ⟨hS1, hSl⟩ := cS_lt (tx := tx) (n := n) (S := S) (by omega)
        obtain ⟨l1, l2, l3, l4, l5, l6, l7⟩ := hI.2 hS1
        have l8 := Pth.bd l5
        have l9 := RP.c240 hP hS1
        have l10 := hq3 hS1
        refine V_ld (pc := 44) dX11_anyParts_44 (v := vr 30) rfl rfl ?_
        refine V_dup (pc := 45) dX11_anyParts_45 rfl ?_
        refine V_getIv (pc := 46) dX11_anyParts_46 (v := (S.2.1 : Int)) fw_RX11_125 rfl hL.t30 hP.2.1 (fun g46 => ?_)
        refine V_iconst (pc := 49) dX11_anyParts_49 (by unfold I32; omega) ?_
        refine V_iadd (pc := 50) dX11_anyParts_50 (by unfold I32 at *; omega) ?_
        refine V_putI (pc := 51) dX11_anyParts_51 fw_RX11_125 rfl hL.t30 (Or.inl rfl) (Or.inl rfl) ?_
        have hPa : RP (mI (setI (wI m I) 30 7 ((S.2.1 : Int) + 1))) tx n (advP S) := RP.adv hP (congrArg (fun z => z + 1) hP.2.1.symm) (show I 30 7 < I 30 6 from by have h1_ := hP.1; have h2_ := hP.2.1; omega)
        refine V_ld (pc := 54) dX11_anyParts_54 (v := vr 30) rfl rfl ?_
        refine V_ld (pc := 55) dX11_anyParts_55 (v := vi deep) rfl rfl ?_
        refine V_iconst (pc := 56) dX11_anyParts_56 (by unfold I32; omega) ?_
        refine V_iadd (pc := 57) dX11_anyParts_57 (by unfold I32 at *; omega) ?_
        refine V_callV (pc := 58) dX11_anyParts_58 (F' := (6 + 5 * k)) (As := [vi (deep + 1)]) (st := []) cw_RX11_150 rfl rfl hL.t30 (by decide) (Nat.le_of_ble_eq_true rfl) (by omega) (hsub (advP S) (setI (wI m I) 30 7 ((S.2.1 : Int) + 1)) (deep + 1)   (by first | assumption | omega) hPa (by omega)) ?_
        rintro _ _ ⟨x58, rfl, Ix58, rfl, rfl, hP58, hF58⟩ ok58 le58
        have hw58 := RP.wl hP58
        have hB58 := hP58.2.2.2.2.1
        refine V_st (pc := 61) dX11_anyParts_61 (ls' := [(5, vi ((altL tx n k (advP S)).1)), (4, vi (q : Int)), (3, vi last), (0, vr 30), (1, vi deep), (2, vi one)]) rfl (Nat.le_of_ble_eq_true rfl) rfl ?_
        refine V_ld (pc := 63) dX11_anyParts_63 (v := vr 30) rfl rfl ?_
        refine V_getIv (pc := 64) dX11_anyParts_64 (v := Ix58 30 8) fw_RX11_128 rfl hL.t30 rfl (fun g64 => ?_)
        refine V_if_eq (pc := 67) dX11_anyParts_67 (tgt := 84) rfl (fun h67 => ?_) (fun h67 => ?_)
        · skip
          refine V_goto (pc := 84) dX11_anyParts_84 (tgt := 29) rfl ?_
          have hdead : (altL tx n k (advP S)).2.1 = false := (hw58.resolve_left (fun h => by have := h.2; omega)).1
          have hcd := cS_dead (tx := tx) (n := n) hdead
          refine V_ld (pc := 29) dX11_anyParts_29 (v := vi (q : Int)) rfl rfl ?_
          refine V_iconst (pc := 31) dX11_anyParts_31 (by unfold I32; omega) ?_
          refine V_icmp_ge (pc := 32) dX11_anyParts_32 (tgt := 87) rfl (fun h32 => ?_) (fun h32 => ?_)
          · skip
            first
              | (exfalso; omega)
              | (have hnw : ¬ (altL tx n k (advP S)).2.1 = true := by rw [hdead]; exact Bool.false_ne_true
                 have h_ := kx last Ix58 (by rw [ew, if_pos hc, if_neg hnw]; exact hP58) (RFr.tr (RFr.set RFr.rf (by omega)) hF58)
                 rw [ew, if_pos hc, if_neg hnw] at h_
                 refine V_ls (ls' := [(4, vi (q : Int)), (3, vi last), (0, vr 30), (1, vi deep), (2, vi one)]) (by intro q_ h_; simp only [List.mem_cons, List.not_mem_nil, or_false] at h_ ⊢; rcases h_ with rfl | rfl | rfl | rfl | rfl <;> simp) ?_
                 exact h_)
          · skip
            refine V_ld (pc := 35) dX11_anyParts_35 (v := vr 30) rfl rfl ?_
            refine V_bipush (pc := 36) dX11_anyParts_36 (by unfold I32; omega) (by decide) ?_
            refine V_callV (pc := 38) dX11_anyParts_38 (F' := 0) (As := [vi 44]) (st := []) cw_RX11_132 rfl rfl hL.t30 (by decide) (Nat.le_of_ble_eq_true rfl) (by omega) (r_isAt tx n ((altL tx n k (advP S)).2) (wI (setI (wI m I) 30 7 ((S.2.1 : Int) + 1)) Ix58) 44   (by first | assumption | omega) hP58 (by decide)) ?_
            rintro _ _ ⟨xd, rfl, hxd, rfl⟩ ok38 le38
            refine V_if_eq (pc := 41) dX11_anyParts_41 (tgt := 87) rfl (fun h41 => ?_) (fun h41 => ?_)
            · skip
              first
                | (exfalso; omega)
                | (have hnw : ¬ (altL tx n k (advP S)).2.1 = true := by rw [hdead]; exact Bool.false_ne_true
                   have h_ := kx last Ix58 (by rw [ew, if_pos hc, if_neg hnw]; exact hP58) (RFr.tr (RFr.set RFr.rf (by omega)) hF58)
                   rw [ew, if_pos hc, if_neg hnw] at h_
                   refine V_ls (ls' := [(4, vi (q : Int)), (3, vi last), (0, vr 30), (1, vi deep), (2, vi one)]) (by intro q_ h_; simp only [List.mem_cons, List.not_mem_nil, or_false] at h_ ⊢; rcases h_ with rfl | rfl | rfl | rfl | rfl <;> simp) ?_
                   exact h_)
            · skip
              exfalso; omega
        · skip
          have hw : (altL tx n k (advP S)).2.1 = true := (hw58.resolve_right (fun h => h67 h.2)).1
          obtain ⟨g1, g2, g3, g4, g5, g6, g7, g8⟩ := (altL_nice tx n k (advP S)).2 hw
          have g9 : (advP S).2.1 = S.2.1 + 1 := rfl
          refine V_ld (pc := 70) dX11_anyParts_70 (v := vr 30) rfl rfl ?_
          refine V_getRv (pc := 71) dX11_anyParts_71 (o' := 42) fw_RX11_45 rfl hL.t30 hL.r30_17 ?_
          refine V_ld (pc := 74) dX11_anyParts_74 (v := vi last) rfl rfl ?_
          refine V_ld (pc := 75) dX11_anyParts_75 (v := vi ((altL tx n k (advP S)).1)) rfl rfl ?_
          refine V_iast (pc := 77) dX11_anyParts_77 hL.t42 (by omega) ?_
          refine V_ld (pc := 78) dX11_anyParts_78 (v := vi ((altL tx n k (advP S)).1)) rfl rfl ?_
          refine V_st (pc := 80) dX11_anyParts_80 (ls' := [(3, vi ((altL tx n k (advP S)).1)), (5, vi ((altL tx n k (advP S)).1)), (4, vi (q : Int)), (0, vr 30), (1, vi deep), (2, vi one)]) rfl (Nat.le_of_ble_eq_true rfl) rfl ?_
          refine V_iinc (pc := 81) dX11_anyParts_81 (x := (q : Int)) (ls' := [(4, vi ((q : Int) + 1)), (3, vi ((altL tx n k (advP S)).1)), (5, vi ((altL tx n k (advP S)).1)), (0, vr 30), (1, vi deep), (2, vi one)]) rfl (by unfold I32 at *; omega) (Nat.le_of_ble_eq_true rfl) rfl ?_
          refine V_goto (pc := 84) dX11_anyParts_84 (tgt := 29) rfl ?_
          refine V_ls (ls' := [(4, vi ((q : Int) + 1)), (3, vi ((altL tx n k (advP S)).1)), (0, vr 30), (1, vi deep), (2, vi one)]) (by intro q_ h_; simp only [List.mem_cons, List.not_mem_nil, or_false] at h_ ⊢; rcases h_ with rfl | rfl | rfl | rfl | rfl <;> simp) ?_
          refine ih (q + 1) (altL tx n k (advP S)).1 (lnkP (altL tx n k (advP S)).2 last (altL tx n k (advP S)).1) (up2 Ix58 42 last.toNat (altL tx n k (advP S)).1) (RP.lnk hP58) (LpI.more (V := advP S) hI hS1 ⟨Nat.le_succ _, rfl⟩ hSl (altL_nice tx n k (advP S)) hw) (by omega) (by omega) (fun _ => ?_) ?_ ?_
          · show q + 1 ≤ (altL tx n k (advP S)).2.2.1; omega
          · show n + 1 ≤ (altL tx n k (advP S)).2.2.1 + f; omega
          · intro last' J hJ hFJ
            have h_ := kx last' J (by rw [ew, if_pos hc, if_pos hw]; exact hJ) (RFr.tr (RFr.set (RFr.tr (RFr.set RFr.rf (by omega)) hF58) (by omega)) hFJ)
            rw [ew, if_pos hc, if_pos hw] at h_
            exact h_
