/-! PATTERNS: the table of a pattern that is read: its parts, how deep, how high, how long spelled -/
theorem times_wf {S V : PS} {x lo hi mo d9 d10 : Int} (w1 : WfT V.2.2.2 S.2.2.1 V.2.2.1) (hx : (S.2.2.1 : Int) ≤ x ∧ x < V.2.2.1) (h8 : V.2.2.2 x.toNat 8 = -5) (h6 : V.2.2.2 x.toNat 6 = -5) (h9 : 0 ≤ d9) (h10 : 0 ≤ d10) (w4 : V.2.2.2 x.toNat 9 ≤ d9) (w5 : V.2.2.2 x.toNat 10 ≤ d10) (hb : 0 ≤ lo ∧ lo ≤ 99 ∧ 1 ≤ hi ∧ hi ≤ 100 ∧ lo ≤ hi ∧ (mo = 0 ∨ mo = 1)) (hlen : V.2.2.2 x.toNat 11 + penB 5 (V.2.2.2 x.toNat 0) + qLen lo hi mo + (S.2.1 : Int) ≤ V.2.1) : Wf 3 d9 (d10 + 1) S (timesP V x lo hi mo) := fun _ => by
  have hP : Pth V.2.2.2 S.2.2.1 V.2.2.1 1 x x := ⟨rfl, hx.1, hx.2⟩
  have w2 : Wth V.2.2.2 (-5) 1 x := ⟨h6, trivial⟩
  obtain ⟨g1, g2, g3, g4, g5⟩ := nod_fact hP w2 rfl (so := 5)
  show WfT (up2 (up2 (up2 (up2 (wiT 1 x V.2.2.1 (mkT V.2.2.2 V.2.2.1 5 (-5) ((1 : Nat) : Int) x (gT V.2.2.2 5 x 1))) V.2.2.1 11 (gT V.2.2.2 5 x 1 11 + qLen lo hi mo)) V.2.2.1 3 lo) V.2.2.1 4 hi) V.2.2.1 5 mo) S.2.2.1 (V.2.2.1 + 1) ∧ up2 (up2 (up2 (up2 (wiT 1 x V.2.2.1 (mkT V.2.2.2 V.2.2.1 5 (-5) ((1 : Nat) : Int) x (gT V.2.2.2 5 x 1))) V.2.2.1 11 (gT V.2.2.2 5 x 1 11 + qLen lo hi mo)) V.2.2.1 3 lo) V.2.2.1 4 hi) V.2.2.1 5 mo ((V.2.2.1 : Int)).toNat 6 = -5 ∧ up2 (up2 (up2 (up2 (wiT 1 x V.2.2.1 (mkT V.2.2.2 V.2.2.1 5 (-5) ((1 : Nat) : Int) x (gT V.2.2.2 5 x 1))) V.2.2.1 11 (gT V.2.2.2 5 x 1 11 + qLen lo hi mo)) V.2.2.1 3 lo) V.2.2.1 4 hi) V.2.2.1 5 mo ((V.2.2.1 : Int)).toNat 11 + penB 3 (up2 (up2 (up2 (up2 (wiT 1 x V.2.2.1 (mkT V.2.2.2 V.2.2.1 5 (-5) ((1 : Nat) : Int) x (gT V.2.2.2 5 x 1))) V.2.2.1 11 (gT V.2.2.2 5 x 1 11 + qLen lo hi mo)) V.2.2.1 3 lo) V.2.2.1 4 hi) V.2.2.1 5 mo ((V.2.2.1 : Int)).toNat 0) + (S.2.1 : Int) ≤ V.2.1 ∧ up2 (up2 (up2 (up2 (wiT 1 x V.2.2.1 (mkT V.2.2.2 V.2.2.1 5 (-5) ((1 : Nat) : Int) x (gT V.2.2.2 5 x 1))) V.2.2.1 11 (gT V.2.2.2 5 x 1 11 + qLen lo hi mo)) V.2.2.1 3 lo) V.2.2.1 4 hi) V.2.2.1 5 mo ((V.2.2.1 : Int)).toNat 9 ≤ d9 ∧ up2 (up2 (up2 (up2 (wiT 1 x V.2.2.1 (mkT V.2.2.2 V.2.2.1 5 (-5) ((1 : Nat) : Int) x (gT V.2.2.2 5 x 1))) V.2.2.1 11 (gT V.2.2.2 5 x 1 11 + qLen lo hi mo)) V.2.2.1 3 lo) V.2.2.1 4 hi) V.2.2.1 5 mo ((V.2.2.1 : Int)).toNat 10 ≤ d10 + 1
  rw [Int.toNat_natCast]
  generalize wiT 1 x V.2.2.1 (mkT V.2.2.2 V.2.2.1 5 (-5) ((1 : Nat) : Int) x (gT V.2.2.2 5 x 1)) = G at *
  have eG : ∀ G', G' = up2 (up2 (up2 (up2 G V.2.2.1 11 (gT V.2.2.2 5 x 1 11 + qLen lo hi mo)) V.2.2.1 3 lo) V.2.2.1 4 hi) V.2.2.1 5 mo → (∀ p w, p ≠ V.2.2.1 → G' p w = G p w) ∧ (∀ w, w ≠ 11 → w ≠ 3 → w ≠ 4 → w ≠ 5 → G' V.2.2.1 w = G V.2.2.1 w) ∧ G' V.2.2.1 11 = gT V.2.2.2 5 x 1 11 + qLen lo hi mo ∧ G' V.2.2.1 3 = lo ∧ G' V.2.2.1 4 = hi ∧ G' V.2.2.1 5 = mo := by
    rintro _ rfl
    refine ⟨fun p w hp => ?_, fun w h1 h2 h3 h4 => ?_, ?_, ?_, ?_, ?_⟩
    · rw [up2_no hp, up2_no hp, up2_no hp, up2_no hp]
    · rw [up2_nk h4, up2_nk h3, up2_nk h2, up2_nk h1]
    · rw [up2_nk (by decide), up2_nk (by decide), up2_nk (by decide), up2_s]
    · rw [up2_nk (by decide), up2_nk (by decide), up2_s]
    · rw [up2_nk (by decide), up2_s]
    · rw [up2_s]
  generalize hGe : up2 (up2 (up2 (up2 G V.2.2.1 11 (gT V.2.2.2 5 x 1 11 + qLen lo hi mo)) V.2.2.1 3 lo) V.2.2.1 4 hi) V.2.2.1 5 mo = G'
  obtain ⟨e1, e2, e11, e3, e4, e5⟩ := eG G' hGe.symm
  have f0 : G' V.2.2.1 0 = 5 := by rw [e2 0 (by decide) (by decide) (by decide) (by decide), g4 0 (by decide), mkT_s]; rfl
  have f9 : G' V.2.2.1 9 = mxC V.2.2.2 9 1 x + (if (5 : Int) = 3 then 1 else 0) := by rw [e2 9 (by decide) (by decide) (by decide) (by decide), g4 9 (by decide), mkT_s]; rfl
  have f10 : G' V.2.2.1 10 = mxC V.2.2.2 10 1 x + 1 := by rw [e2 10 (by decide) (by decide) (by decide) (by decide), g4 10 (by decide), mkT_s]; rfl
  have f2 : G' V.2.2.1 2 = ((1 : Nat) : Int) := by rw [e2 2 (by decide) (by decide) (by decide) (by decide), g4 2 (by decide), mkT_s]; rfl
  have f7 : G' V.2.2.1 7 = x := by rw [e2 7 (by decide) (by decide) (by decide) (by decide), g4 7 (by decide), mkT_s]; rfl
  have f6 : G' V.2.2.1 6 = -5 := by rw [e2 6 (by decide) (by decide) (by decide) (by decide)]; exact g5
  have f11 : G' V.2.2.1 11 = smC V.2.2.2 5 1 x + qLen lo hi mo := by
    rw [e11]
    show smC V.2.2.2 5 1 x + 0 + qLen lo hi mo = _
    omega
  have m9 : mxC V.2.2.2 9 1 x = max (V.2.2.2 x.toNat 9) 0 := rfl
  have m10 : mxC V.2.2.2 10 1 x = max (V.2.2.2 x.toNat 10) 0 := rfl
  have m11 : smC V.2.2.2 5 1 x = V.2.2.2 x.toNat 11 + penB 5 (V.2.2.2 x.toNat 0) + 0 := rfl
  refine ⟨WfT.node w1 hP h8 (fun p w hp h => (e1 p w (by omega)).trans (g1 p w hp h)) (fun p w hp h => (e1 p w (by omega)).trans (g2 p w hp h)) (Wth.same (a := S.2.2.1) (b := V.2.2.1) (by omega) (fun p w _ hp => e1 p w (by omega)) (Pth.mono (by omega) (Int.le_refl _) (fun p _ hp => g2 p 8 (by omega) (by decide)) hP) g3) f0 (by decide) f2 f7 f9 f10 (by rw [f11, e3, e4, e5]; rfl) (fun _ => by rw [e3, e4, e5]; exact ⟨rfl, hb⟩) (fun h => absurd rfl h) (fun h => by cases h), f6, ?_, ?_, ?_⟩
  · rw [f11, f0, m11, show penB 3 5 = 0 from by decide]
    omega
  · rw [f9, m9, if_neg (by decide)]
    omega
  · rw [f10, m10]
    omega
theorem rep_wf {tx : Nat → Int} {n : Nat} {S : PS} {A : Int × PS} {d9 d10 : Int} (h9 : 0 ≤ d9) (h10 : 0 ≤ d10) (hN : Nice n S A) (h : Wf 5 d9 d10 S A) : Wf 3 d9 (d10 + 1) S (repP tx n A) := by
  unfold repP
  by_cases hc : cS tx n A.2 = 42 ∨ cS tx n A.2 = 43 ∨ cS tx n A.2 = 63 ∨ cS tx n A.2 = 123
  · rw [if_pos hc]
    have ht := cS_lt (tx := tx) (n := n) (S := A.2) (by omega)
    obtain ⟨h1, h2, h3, h4, h5, h6, h7, h8⟩ := hN.2 ht.1
    obtain ⟨a1, a2, a3, a4, a5⟩ := h ht.1
    have hq : (quantP tx n A.2).2.2.2.2 = A.2.2.2 ∧ ((quantP tx n A.2).2.2.1 = true → qLen (quantP tx n A.2).1 (quantP tx n A.2).2.1 1 + (A.2.2.1 : Int) ≤ (quantP tx n A.2).2.2.2.1 ∧ 0 ≤ (quantP tx n A.2).1 ∧ (quantP tx n A.2).1 ≤ 99 ∧ 1 ≤ (quantP tx n A.2).2.1 ∧ (quantP tx n A.2).2.1 ≤ 100 ∧ (quantP tx n A.2).1 ≤ (quantP tx n A.2).2.1) := by
      unfold quantP
      by_cases h9 : cS tx n A.2 = 123
      · rw [if_pos h9]
        obtain ⟨c1, c2, c3, c4, c5, c6, c7⟩ := curl_fact tx n A.2 h9
        exact ⟨c2, fun e => ⟨curl_len tx n A.2 e, c3, c4, (c7 e).2.2.1, c6, (c7 e).2.2.2⟩⟩
      · rw [if_neg h9]
        refine ⟨rfl, fun _ => ?_⟩
        show qLen (if cS tx n A.2 = 43 then 1 else 0) (if cS tx n A.2 = 63 then 1 else 100) 1 + (A.2.2.1 : Int) ≤ ((A.2.2.1 + 1 : Nat) : Int) ∧ 0 ≤ (if cS tx n A.2 = 43 then (1 : Int) else 0) ∧ (if cS tx n A.2 = 43 then (1 : Int) else 0) ≤ 99 ∧ 1 ≤ (if cS tx n A.2 = 63 then (1 : Int) else 100) ∧ (if cS tx n A.2 = 63 then (1 : Int) else 100) ≤ 100 ∧ (if cS tx n A.2 = 43 then (1 : Int) else 0) ≤ (if cS tx n A.2 = 63 then (1 : Int) else 100)
        rcases hc with hc | hc | hc | hc
        · rw [if_neg (by omega), if_neg (by omega)]
          have : qLen 0 100 1 = 1 := rfl
          omega
        · rw [if_pos (by omega), if_neg (by omega)]
          have : qLen 1 100 1 = 1 := rfl
          omega
        · rw [if_neg (by omega), if_pos (by omega)]
          have : qLen 0 1 1 = 1 := rfl
          omega
        · exact absurd hc h9
    generalize quantP tx n A.2 = Q at hq ⊢
    obtain ⟨q2, q3⟩ := hq
    by_cases hw : Q.2.2.1 = true
    · rw [if_pos hw]
      have q4 := q3 hw
      have e0 : qLen Q.1 Q.2.1 0 = qLen Q.1 Q.2.1 1 + 1 := by
        unfold qLen
        rw [if_pos rfl, if_neg (show ¬ (1 : Int) = 0 by decide)]
        omega
      have key : ∀ (V : PS) (mo : Int), V.2.2 = A.2.2.2 → (mo = 0 ∨ mo = 1) → qLen Q.1 Q.2.1 mo + (A.2.2.1 : Int) ≤ V.2.1 → Wf 3 d9 (d10 + 1) S (timesP V A.1 Q.1 Q.2.1 mo) := by
        intro V mo v3 hm v4
        have hc' : V.2.2.1 = A.2.2.2.1 := by rw [v3]
        have hF : V.2.2.2 = A.2.2.2.2 := by rw [v3]
        refine times_wf ?_ ⟨h5, by omega⟩ ?_ ?_ h9 h10 ?_ ?_ ⟨q4.2.1, q4.2.2.1, q4.2.2.2.1, q4.2.2.2.2.1, q4.2.2.2.2.2, hm⟩ ?_
        · rw [hF, hc']; exact a1
        · rw [hF]; exact h7
        · rw [hF]; exact a2
        · rw [hF]; exact a4
        · rw [hF]; exact a5
        · rw [hF]; omega
      by_cases hz : cS tx n Q.2.2 = 63
      · rw [if_pos hz]
        refine key _ 0 q2 (Or.inl rfl) ?_
        show _ ≤ ((Q.2.2.2.1 + 1 : Nat) : Int)
        omega
      · rw [if_neg hz]
        exact key _ 1 q2 (Or.inr rfl) q4.1
    · rw [if_neg hw]
      exact fun e => absurd e hw
  · rw [if_neg hc]
    intro hw
    obtain ⟨a1, a2, a3, a4, a5⟩ := h hw
    have hp := penB_le (i := A.2.2.2.2 A.1.toNat 0)
    exact ⟨a1, a2, by omega, a4, by omega⟩
theorem ser_wf {tx : Nat → Int} {n : Nat} {rep : PS → Int × PS} {d9 d10 : Int} (h9 : 0 ≤ d9) (h10 : 0 ≤ d10) (hr : ∀ S, Nice n S (rep S)) (hW : ∀ S, Wf 3 d9 d10 S (rep S)) (S : PS) : Wf 4 (d9 + 1) (d10 + 1) S (serP tx n rep S) := by
  unfold serP lstP
  have hv : ∀ (U : PS) (q : Nat), cSer (cS tx n U) q → U.1 = true ∧ U.2.1 < n := fun U q hc => cS_lt (tx := tx) (n := n) (S := U) (by unfold cSer isAt1 at hc; omega)
  have h := lpG_nice (tx := tx) (cond := cSer) (g := rep) (vv := id) hr (fun U q hc => ⟨(hv U q hc).1, Nat.le_refl _, Nat.le_of_lt (hv U q hc).2, rfl⟩) (n + 1) 1 _ _ (LpI.one (hr S))
  have g := lpG_wf (tx := tx) (cond := cSer) (g := rep) (vv := id) (sep := 0) h9 h10 hr hW (fun U q hc => ⟨(hv U q hc).1, (Int.add_zero _).symm, Nat.le_refl _, Nat.le_of_lt (hv U q hc).2, rfl⟩) (n + 1) 1 _ _ (LpI.one (hr S)) (LpW.one h9 h10 (hW S))
  exact end_wf h.2 g (Or.inl ⟨rfl, rfl, rfl⟩)
theorem alt_wf {tx : Nat → Int} {n : Nat} {ser : PS → Int × PS} {d9 d10 : Int} (h9 : 0 ≤ d9) (h10 : 0 ≤ d10) (hr : ∀ S, Nice n S (ser S)) (hW : ∀ S, Wf 4 d9 d10 S (ser S)) (S : PS) : Wf 6 d9 (d10 + 1) S (altP tx n ser S) := by
  unfold altP lstP
  have hv : ∀ (U : PS) (q : Nat), cAlt (cS tx n U) q → U.1 = true ∧ U.2.1 < n := fun U q hc => cS_lt (tx := tx) (n := n) (S := U) (by unfold cAlt at hc; omega)
  have h := lpG_nice (tx := tx) (cond := cAlt) (g := ser) (vv := advP) hr (fun U q hc => ⟨(hv U q hc).1, Nat.le_succ _, (hv U q hc).2, rfl⟩) (n + 1) 1 _ _ (LpI.one (hr S))
  have g := lpG_wf (tx := tx) (cond := cAlt) (g := ser) (vv := advP) (sep := 1) h9 h10 hr hW (fun U q hc => ⟨(hv U q hc).1, Int.natCast_add _ _, Nat.le_succ _, (hv U q hc).2, rfl⟩) (n + 1) 1 _ _ (LpI.one (hr S)) (LpW.one h9 h10 (hW S))
  have e := end_wf (o' := 6) h.2 g (Or.inr ⟨rfl, rfl, rfl⟩)
  rw [if_neg (by decide), Int.add_zero] at e
  exact e
