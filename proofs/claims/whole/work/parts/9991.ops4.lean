/-! part(), told(), spell(), holds(): class and reference in one step -/
theorem op_part {tt : Nat} {m : Mem} (h : Inv tt m) (p w : Int) : Op tt m μX10_part μX11_part 1 33 [vi p, vi w] := by
  obtain ⟨⟨hr, hL, ha⟩, ⟨g1, g2, g3, g4⟩, hk, M, M2, hM, r1, r2, s1, s2, s3, s4, s5, s6⟩ := id h
  have hM' : M = 5 ∨ M = 18 := by omega
  have e1 : mI m 2 1 = mI m 31 64 ∧ 0 ≤ mI m 31 64 ∧ mI m 31 64 ≤ 32 := s2.1
  have e2 : ∀ k, k < 64 → mI m 3 k = mI m 31 k ∧ -999 ≤ mI m 31 k ∧ mI m 31 k ≤ 1000 := s2.2
  have e3 := g1.1
  have tM := hL.mat hM'
  obtain ⟨tx, n, ⟨p1, p2, p3⟩, p4⟩ := s4
  have hv : n ≠ 0 → PatW tx n := fun q => by
    rcases p4 with ⟨q1, _⟩ | ⟨_, q2, _⟩
    · exact absurd q1 q
    · exact q2
  rcases p4 with ⟨q1, q2⟩ | ⟨q1, q2, P, A, L, q3, q4, q5, q6⟩
  · refine ⟨_, c_partN m p w hL q2, fun x m1 hp => ?_⟩
    obtain ⟨rfl, rfl⟩ := hp
    refine ⟨(by first | exact hL.t30 | exact L1.t30 | exact (hC.lay hS).t30 | (rw [T1]; exact hL.t30) | (rw [b1]; exact hL.t30)), _, r_partI tx n m p w hL ⟨p1, p2⟩ p3 hv, fun y m2 hq => ?_⟩
    obtain ⟨I_, rfl, hy, hF⟩ := hq
    exact ⟨by rw [hy, if_pos q1], h.quiet rfl rfl rfl rfl (fun q => q.fr (fun o k ho => hF o k (by omega) (by omega))) (fun o k ho => hF o k (by omega) (by omega))⟩
  · refine ⟨_, c_partS P _ _ m p w hL ⟨q3, q4.p⟩, fun x m1 hp => ?_⟩
    obtain ⟨hx, rfl⟩ := hp
    refine ⟨(by first | exact hL.t30 | exact L1.t30 | exact (hC.lay hS).t30 | (rw [T1]; exact hL.t30) | (rw [b1]; exact hL.t30)), _, r_partI tx n m p w hL ⟨p1, p2⟩ p3 hv, fun y m2 hq => ?_⟩
    obtain ⟨I_, rfl, hy, hF⟩ := hq
    exact ⟨by rw [hy, hx, if_neg (by omega)], h.quiet rfl rfl rfl rfl (fun q => q.fr (fun o k ho => hF o k (by omega) (by omega))) (fun o k ho => hF o k (by omega) (by omega))⟩

theorem toldV_congr {f g : Nat → Int} {k : Int} (h : ∀ i, i ≤ 9 → f i = g i) : toldV f k = toldV g k := by
  unfold toldV
  by_cases c : 0 ≤ k ∧ k ≤ 9
  · rw [if_pos c, if_pos c, h _ (by omega)]
  · rw [if_neg c, if_neg c]
theorem CndG.msk {m : Mem} (h : CndG m 4 31) : mskF (fun j_ : Nat => (mR m 4 j_).isSome) 26 = mskF (fun j_ : Nat => decide (0 < mI m 31 (186 + 121 * j_))) 26 :=
  mskF_congr 26 (fun j hj => by
    obtain ⟨tx, n, h1, h2⟩ := h j hj
    rcases h2 with ⟨h3, h4⟩ | ⟨h3, h4, c, A, h5, h6⟩
    · show (mR m 4 j).isSome = decide (0 < mI m 31 (186 + 121 * j))
      rw [h4, h1.1, h3]; rfl
    · show (mR m 4 j).isSome = decide (0 < mI m 31 (186 + 121 * j))
      rw [h5, h1.1]
      exact (decide_eq_true (by omega)).symm)

theorem op_told {tt : Nat} {m : Mem} (h : Inv tt m) (w : Int) : Op tt m μX10_told μX11_told 4 33 [vi w] := by
  obtain ⟨⟨hr, hL, ha⟩, ⟨g1, g2, g3, g4⟩, hk, M, M2, hM, r1, r2, s1, s2, s3, s4, s5, s6⟩ := id h
  have hM' : M = 5 ∨ M = 18 := by omega
  have e1 : mI m 2 1 = mI m 31 64 ∧ 0 ≤ mI m 31 64 ∧ mI m 31 64 ≤ 32 := s2.1
  have e2 : ∀ k, k < 64 → mI m 3 k = mI m 31 k ∧ -999 ≤ mI m 31 k ∧ mI m 31 k ≤ 1000 := s2.2
  have e3 := g1.1
  have tM := hL.mat hM'
  obtain ⟨tx, n, ⟨p1, p2, p3⟩, p4⟩ := s4
  have hv : n ≠ 0 → PatW tx n := fun q => by
    rcases p4 with ⟨q1, _⟩ | ⟨_, q2, _⟩
    · exact absurd q1 q
    · exact q2
  obtain ⟨Ms, hl, hC, hR, hO⟩ := id s6
  have hMat := hR.mat hl hO e1.2.2
  have hc3 := hC.1
  have hnm : ∀ {q : Int}, 0 ≤ q ∧ q < 2 → ∀ r, -999 ≤ numC m 2 3 q r ∧ numC m 2 3 q r ≤ 1000 := fun hq r => numC_bd s2 hq r
  have tMM := tM
  have h8 : cn0 (fun i_ : Nat => covF (fun j_ : Nat => mI m (M + 3) ((j_ : Int) * 32 + (i_ : Int)).toNat) (mI m M 3).toNat) (mI m 2 1).toNat = cn0 (fun i_ : Nat => covF (fun j_ : Nat => labR m (j_ : Int) (i_ : Int)) (mI m 31 3336).toNat) (mI m 31 64).toNat := by
    rw [e1.1, hc3, hl.2]
    refine cn0_congr _ (fun i hi => covF_congr _ (fun j hj => ?_))
    rw [show ((j : Int) * 32 + (i : Int)).toNat = 32 * j + i by omega]
    exact (lab_at hC hR hO e1.2.2 (by omega) (by omega)).1
  rcases p4 with ⟨q1, q2⟩ | ⟨q1, q2, P, A, L, q3, q4, q5, q6⟩
  · refine ⟨_, c_toldN m w M (M + 1) (M + 2) (M + 3) hL r1 tM.1 tM.2.1 tM.2.2.1 tM.2.2.2.1 tM.2.2.2.2.1 tM.2.2.2.2.2.1 tM.2.2.2.2.2.2 (by omega) (by omega) q2, fun x m1 hp => ?_⟩
    obtain ⟨hx, rfl⟩ := hp
    refine ⟨(by first | exact hL.t30 | exact L1.t30 | exact (hC.lay hS).t30 | (rw [T1]; exact hL.t30) | (rw [b1]; exact hL.t30)), _, r_toldI tx n m w hL ⟨p1, p2⟩ p3 hv hMat e1.2, fun y m2 hq => ?_⟩
    obtain ⟨I_, rfl, hy, hF⟩ := hq
    refine ⟨?_, h.quiet rfl rfl rfl rfl (fun q => q.fr (fun o k ho => hF o k (by omega) (by omega))) (fun o k ho => hF o k (by omega) (by omega))⟩
    rw [hy, hx]
    refine (toldV_congr (fun i hi => ?_)).symm
    rcases (show i = 0 ∨ i = 1 ∨ i = 2 ∨ i = 3 ∨ i = 4 ∨ i = 5 ∨ i = 6 ∨ i = 7 ∨ i = 8 ∨ i = 9 by omega) with rfl | rfl | rfl | rfl | rfl | rfl | rfl | rfl | rfl | rfl
    · exact e1.1
    · exact (if_pos q1).symm
    · exact hc3.trans hl.2.symm
    · exact s3.1.1
    · exact s3.2.1.1
    · exact s3.2.2.1
    · exact s3.2.2.2.1
    · exact s5.msk
    · exact h8
    · exact e3.1
  · refine ⟨_, c_toldS P _ _ m w M (M + 1) (M + 2) (M + 3) hL r1 tM.1 tM.2.1 tM.2.2.1 tM.2.2.2.1 tM.2.2.2.2.1 tM.2.2.2.2.2.1 tM.2.2.2.2.2.2 (by omega) (by omega) ⟨q3, q4.p⟩, fun x m1 hp => ?_⟩
    obtain ⟨hx, rfl⟩ := hp
    refine ⟨(by first | exact hL.t30 | exact L1.t30 | exact (hC.lay hS).t30 | (rw [T1]; exact hL.t30) | (rw [b1]; exact hL.t30)), _, r_toldI tx n m w hL ⟨p1, p2⟩ p3 hv hMat e1.2, fun y m2 hq => ?_⟩
    obtain ⟨I_, rfl, hy, hF⟩ := hq
    refine ⟨?_, h.quiet rfl rfl rfl rfl (fun q => q.fr (fun o k ho => hF o k (by omega) (by omega))) (fun o k ho => hF o k (by omega) (by omega))⟩
    rw [hy, hx]
    refine (toldV_congr (fun i hi => ?_)).symm
    rcases (show i = 0 ∨ i = 1 ∨ i = 2 ∨ i = 3 ∨ i = 4 ∨ i = 5 ∨ i = 6 ∨ i = 7 ∨ i = 8 ∨ i = 9 by omega) with rfl | rfl | rfl | rfl | rfl | rfl | rfl | rfl | rfl | rfl
    · exact e1.1
    · exact (if_neg (by omega)).symm
    · exact hc3.trans hl.2.symm
    · exact s3.1.1
    · exact s3.2.1.1
    · exact s3.2.2.1
    · exact s3.2.2.2.1
    · exact s5.msk
    · exact h8
    · exact e3.1

theorem op_spell {tt : Nat} {m : Mem} (h : Inv tt m)  : Op tt m μX10_spell μX11_spell 52 33 [] := by
  obtain ⟨⟨hr, hL, ha⟩, ⟨g1, g2, g3, g4⟩, hk, M, M2, hM, r1, r2, s1, s2, s3, s4, s5, s6⟩ := id h
  have hM' : M = 5 ∨ M = 18 := by omega
  have e1 : mI m 2 1 = mI m 31 64 ∧ 0 ≤ mI m 31 64 ∧ mI m 31 64 ≤ 32 := s2.1
  have e2 : ∀ k, k < 64 → mI m 3 k = mI m 31 k ∧ -999 ≤ mI m 31 k ∧ mI m 31 k ≤ 1000 := s2.2
  have e3 := g1.1
  have tM := hL.mat hM'
  obtain ⟨tx, n, ⟨p1, p2, p3⟩, p4⟩ := s4
  have hv : n ≠ 0 → PatW tx n := fun q => by
    rcases p4 with ⟨q1, _⟩ | ⟨_, q2, _⟩
    · exact absurd q1 q
    · exact q2
  rcases p4 with ⟨q1, q2⟩ | ⟨q1, q2, P, A, L, q3, q4, q5, q6⟩
  · refine ⟨_, c_spellN m hL q2, fun x m1 hp => ?_⟩
    obtain ⟨rfl, rfl⟩ := hp
    refine ⟨(by first | exact hL.t30 | exact L1.t30 | exact (hC.lay hS).t30 | (rw [T1]; exact hL.t30) | (rw [b1]; exact hL.t30)), _, r_spell tx n _ _ m hL ⟨p1, p2⟩ p3 hv ⟨rfl, rfl⟩, fun y m2 hq => ?_⟩
    obtain ⟨I_, rfl, hy, hF, hn0, hn1⟩ := hq
    have hz := hn0 q1
    refine ⟨by rw [hy, if_pos q1], h.low rfl rfl rfl rfl (fun o k ho => hF o k (by omega) (by omega)) (fun q => q.fr (fun o k ho => hF o k (by omega) (by omega))) (fun q => q.fr (fun o k ho => ?_)) (fun q => q.fr (fun o k ho => hF o k (by omega) (by omega))) (fun q => q.fr (fun o k ho => hF o k (by omega) (by omega))) r1 ⟨fun q => q.fr (hF _ _ (by omega) (by omega)) (fun k _ => hF _ _ (by omega) (by omega)) (fun k _ => hF _ _ (by omega) (by omega)), fun q => q.fr (fun k _ _ => hF _ _ (by omega) (by omega)) (fun k _ _ => hF _ _ (by omega) (by omega)), fun k _ _ => hF _ _ (by omega) (by omega), fun q => q.mv (fun x k _ _ => hF _ _ (by omega) (by omega)) (hF _ _ (by omega) (by omega)) (fun k _ => hF _ _ (by omega) (by omega))⟩⟩
    rcases (show (o = 30 ∧ k = 22) ∨ o = 44 ∨ (o = 15 ∧ k = 1 ∨ o = 16) by omega) with ⟨rfl, rfl⟩ | rfl | c
    · exact hz.1
    · exact hz.2 k
    · exact hF o k (by omega) (by omega)
  · obtain ⟨w1, w2, w3, w4, w5, w6, w7, w8⟩ := pat_wf q2 _ _ _ rfl rfl rfl
    refine ⟨_, c_spellS P _ _ m hL ⟨q3, q4.p⟩ ⟨w3, w1, w8, by omega⟩, fun x m1 hp => ?_⟩
    obtain ⟨hx, hm⟩ := hp
    have hlen := splF_len w3 24 _ (show (altL tx n 5 S0).2.2.2.1 - 1 < (altL tx n 5 S0).2.2.2.1 by omega) (by omega)
    generalize hl : splF (altL tx n 5 S0).2.2.2.2 24 ((altL tx n 5 S0).2.2.2.1 - 1) = sl at hx hm hlen
    have T1 : mT m1 = mT m := by rw [← hm]; rfl
    have R1 : mR m1 = mR m := by rw [← hm]; rfl
    have N1 : mN m1 = mN m := by rw [← hm]; rfl
    have Z1 : mZ m1 = mZ m := by rw [← hm]; rfl
    have P1 : PapL (mI m1) 15 1 16 sl := by rw [← hm]; exact PapL.ap (by decide) mI_sets
    have I1 : ∀ o k, ¬ (o = 15 ∧ k = 1 ∨ o = 16) → mI m1 o k = mI m o k := fun o k ho => by
      rw [← hm, apM_ne (by omega) (by omega)]
      exact mI_setne (by omega)
    clear hm
    refine ⟨(by first | exact hL.t30 | exact L1.t30 | exact (hC.lay hS).t30 | (rw [T1]; exact hL.t30) | (rw [b1]; exact hL.t30)), _, r_spell tx n _ _ m1 (by rw [T1, R1]; exact hL) ⟨(I1 _ _ (by omega)).trans p1, p2⟩ (fun k hk => by rw [I1 _ _ (by omega)]; exact p3 k hk) hv ⟨rfl, rfl⟩, fun y m2 hq => ?_⟩
    obtain ⟨I_, hm2, hy, hF, hn0, hn1⟩ := hq
    rw [hl] at hy hn1
    have hp2 := hn1 (by omega)
    have T2 : mT m2 = mT m := by rw [← hm2]; exact T1
    have R2 : mR m2 = mR m := by rw [← hm2]; exact R1
    have N2 : mN m2 = mN m := by rw [← hm2]; exact N1
    have Z2 : mZ m2 = mZ m := by rw [← hm2]; exact Z1
    have I2 : mI m2 = I_ := by rw [← hm2]; rfl
    have fr : ∀ o k, ¬ (o = 15 ∧ k = 1 ∨ o = 16 ∨ (34 ≤ o ∧ o ≤ 44) ∨ o = 30 ∧ k ≠ 2 ∧ k ≠ 4 ∧ k ≠ 27) → mI m2 o k = mI m o k := fun o k ho => by
      rw [I2, hF o k (by omega) (by omega)]
      exact I1 o k (by omega)
    have hpap : PapG m2 := ⟨sl, by omega, ⟨by rw [I2, hF 15 1 (by omega) (by omega)]; exact P1.1, fun k x hk => by rw [I2, hF 16 k (by omega) (by omega)]; exact P1.2 k x hk⟩, by rw [I2]; exact hp2⟩
    exact ⟨by rw [hy, hx, if_neg (by omega)], h.low T2 R2 N2 Z2 (fun o k ho => fr o k (by omega)) (fun q => q.fr (fun o k ho => fr o k (by omega))) (fun _ => hpap) (fun q => q.fr (fun o k ho => fr o k (by omega))) (fun q => q.fr (fun o k ho => fr o k (by omega))) r1 ⟨(fun q => q.fr (fr _ _ (by omega)) (fun k _ => fr _ _ (by omega)) (fun k _ => fr _ _ (by omega))), (fun q => q.fr (fun k _ _ => fr _ _ (by omega)) (fun k _ _ => fr _ _ (by omega))), (fun k _ _ => fr _ _ (by omega)), (fun q => q.mv (fun x k _ _ => fr _ _ (by omega)) (fr _ _ (by omega)) (fun k _ => fr _ _ (by omega)))⟩⟩

theorem cd_eq {tx : Nat → Int} {n : Nat} {e : CEnv} (hn : 0 < n) (hw : (eitL tx n 4 (true, 0)).2.2.1 = true) : cdV e (some (eitL tx n 4 (true, 0)).1) = cdR e tx n := by
  unfold cdR
  rw [if_neg (by omega)]
  show (if and64 (runL e (eitL tx n 4 (true, 0)).1 0) 1 = 1 then (1 : Int) else 0) = _
  rw [eit_run tx n (true, 0) hw e]
  cases (eitL tx n 4 (true, 0)).2.1 e with
  | true => decide
  | false => decide
theorem cd_none {tx : Nat → Int} {n : Nat} {e : CEnv} (hn : n = 0) : cdV e none = cdR e tx n := by
  unfold cdR
  rw [if_pos hn]
  rfl

theorem op_holds {tt : Nat} {m : Mem} (h : Inv tt m) (w r : Int) : Op tt m μX10_holds μX11_holds 6 21 [vi w, vi r] := by
  obtain ⟨⟨hr, hL, ha⟩, ⟨g1, g2, g3, g4⟩, hk, M, M2, hM, r1, r2, s1, s2, s3, s4, s5, s6⟩ := id h
  have hM' : M = 5 ∨ M = 18 := by omega
  have e1 : mI m 2 1 = mI m 31 64 ∧ 0 ≤ mI m 31 64 ∧ mI m 31 64 ≤ 32 := s2.1
  have e2 : ∀ k, k < 64 → mI m 3 k = mI m 31 k ∧ -999 ≤ mI m 31 k ∧ mI m 31 k ≤ 1000 := s2.2
  have e3 := g1.1
  have tM := hL.mat hM'
  by_cases hb : 0 ≤ w ∧ w < 26 ∧ 0 ≤ r ∧ r < mI m 31 64
  · obtain ⟨tx, n, h1, h2⟩ := s5 w.toNat (by omega)
    rcases h2 with ⟨h3, h4⟩ | ⟨h3, h4, h5⟩
    · refine ⟨_, c_holdsN (envH (mI (setI (setI m 9 6 r) 10 r.toNat w)) r r w) (mI m 31 64) m w r hL e1 hb h4, fun x m1 hp => ?_⟩
      obtain ⟨hx, hm⟩ := hp
      rw [hm] at hx
      have T1 : mT m1 = mT m := by rw [← hm]; rfl
      have R1 : mR m1 = mR m := by rw [← hm]; rfl
      have N1 : mN m1 = mN m := by rw [← hm]; rfl
      have Z1 : mZ m1 = mZ m := by rw [← hm]; rfl
      have I1 : ∀ o k, mI m1 o k = (if o = 10 ∧ k = r.toNat then w else if o = 9 ∧ k = 6 then r else mI m o k) := fun o k => by rw [← hm]; rfl
      clear hm
      have J31 : ∀ k, mI m1 31 k = mI m 31 k := fun k => by rw [I1]; (repeat (first | rw [if_pos (by omega)] | rw [if_neg (by omega)]))
      have J30 : mI m1 30 27 = mI m 30 27 := by rw [I1]; (repeat (first | rw [if_pos (by omega)] | rw [if_neg (by omega)]))
      refine ⟨(by first | exact hL.t30 | exact L1.t30 | exact (hC.lay hS).t30 | (rw [T1]; exact hL.t30) | (rw [b1]; exact hL.t30)), _, r_holds tx n m1 w r (by rw [T1, R1]; exact hL) ⟨by rw [J31]; exact e1.2.1, by rw [J31]; exact e1.2.2, by rw [J30]; exact g4.2.2, fun k hk => by rw [J31]; exact (e2 k hk).2⟩ (by rw [J31]; omega) ⟨(J31 _).trans h1.1, h1.2.1, fun k hk => by rw [J31]; exact h1.2.2 k hk⟩ (fun hne => absurd h3 hne), fun y m2 hq => ?_⟩
      obtain ⟨I_, hm2, hy, hF, hw1, hw2⟩ := hq
      have T2 : mT m2 = mT m := by rw [← hm2]; exact T1
      have R2 : mR m2 = mR m := by rw [← hm2]; exact R1
      have N2 : mN m2 = mN m := by rw [← hm2]; exact N1
      have Z2 : mZ m2 = mZ m := by rw [← hm2]; exact Z1
      have I2 : mI m2 = I_ := by rw [← hm2]; rfl
      have J45 : ∀ k, k ≠ r.toNat → mI m2 45 k = mI m 45 k := fun k hk => by
        rw [I2, hF 45 k (by omega) (by omega) (by omega), I1]; (repeat (first | rw [if_pos (by omega)] | rw [if_neg (by omega)]))
      refine ⟨?_, h.quiet T2 R2 N2 Z2 (fun q => ⟨fun k hk => ?_, fun k => ?_, by rw [I2]; exact hw2⟩) (fun o k ho => ?_)⟩
      · rw [hy, hx]; exact (cd_none h3).symm
      · by_cases c3 : k = r.toNat
        · have w1 : mI m2 45 k = w := by rw [I2, c3]; exact hw1
          have w2 : mI m2 10 k = w := by rw [I2, hF 10 k (by omega) (by omega) (by omega), I1]; (repeat (first | rw [if_pos (by omega)] | rw [if_neg (by omega)]))
          rw [w1, w2]
        · have w2 : mI m2 10 k = mI m 10 k := by rw [I2, hF 10 k (by omega) (by omega) (by omega), I1]; (repeat (first | rw [if_pos (by omega)] | rw [if_neg (by omega)]))
          rw [J45 k c3, w2]; exact q.1 k hk
      · by_cases c3 : k = r.toNat
        · have w1 : mI m2 45 k = w := by rw [I2, c3]; exact hw1
          omega
        · rw [J45 k c3]; exact q.2.1 k
      · rw [I2, hF o k (by omega) (by omega) (by omega), I1]; (repeat (first | rw [if_pos (by omega)] | rw [if_neg (by omega)]))
    · refine ⟨_, c_holdsS (envH (mI (setI (setI m 9 6 r) 10 r.toNat w)) r r w) _ (mI m 31 64) m w r hL e1 hb h5.at ?_, fun x m1 hp => ?_⟩
      · obtain ⟨b, hb'⟩ : ∃ b, b = setI (setI m 9 6 r) 10 r.toNat w := ⟨_, rfl⟩
        have IB : ∀ o k, mI b o k = (if o = 10 ∧ k = r.toNat then w else if o = 9 ∧ k = 6 then r else mI m o k) := fun o k => by rw [hb']; rfl
        rw [← hb']
        clear hb'
        refine ⟨?_, rfl, fun k hk => ?_, ?_, fun k hk => ?_, ?_, ?_, ?_, ?_, ?_, fun k hk => ?_⟩
        · show r = mI b 9 6
          rw [IB]; (repeat (first | rw [if_pos (by omega)] | rw [if_neg (by omega)]))
        · show up2 (mI b) 45 r.toNat w 45 k = mI b 10 k
          unfold up2
          rw [IB, IB]
          by_cases c3 : k = r.toNat
          · (repeat (first | rw [if_pos (by omega)] | rw [if_neg (by omega)]))
          · (repeat (first | rw [if_pos (by omega)] | rw [if_neg (by omega)]))
            exact (g4.1 k hk).symm
        · show mI b 31 64 = mI b 2 1
          rw [IB, IB]; (repeat (first | rw [if_pos (by omega)] | rw [if_neg (by omega)]))
          exact e1.1.symm
        · show mI b 31 k = mI b 3 k
          rw [IB, IB]; (repeat (first | rw [if_pos (by omega)] | rw [if_neg (by omega)]))
          exact ((e2 k hk).1).symm
        · (rw [IB]; (repeat (first | rw [if_pos (by omega)] | rw [if_neg (by omega)]))) <;> omega
        · (rw [IB]; (repeat (first | rw [if_pos (by omega)] | rw [if_neg (by omega)]))) <;> omega
        · (rw [IB]; (repeat (first | rw [if_pos (by omega)] | rw [if_neg (by omega)]))) <;> omega
        · (rw [IB]; (repeat (first | rw [if_pos (by omega)] | rw [if_neg (by omega)]))) <;> omega
        · (rw [IB]; (repeat (first | rw [if_pos (by omega)] | rw [if_neg (by omega)]))) <;> omega
        · rw [IB]; (repeat (first | rw [if_pos (by omega)] | rw [if_neg (by omega)]))
          have := e2 k hk
          omega
      · obtain ⟨hx, hm⟩ := hp
        rw [hm] at hx
        have T1 : mT m1 = mT m := by rw [← hm]; rfl
        have R1 : mR m1 = mR m := by rw [← hm]; rfl
        have N1 : mN m1 = mN m := by rw [← hm]; rfl
        have Z1 : mZ m1 = mZ m := by rw [← hm]; rfl
        have I1 : ∀ o k, mI m1 o k = (if o = 10 ∧ k = r.toNat then w else if o = 9 ∧ k = 6 then r else mI m o k) := fun o k => by rw [← hm]; rfl
        clear hm
        have J31 : ∀ k, mI m1 31 k = mI m 31 k := fun k => by rw [I1]; (repeat (first | rw [if_pos (by omega)] | rw [if_neg (by omega)]))
        have J30 : mI m1 30 27 = mI m 30 27 := by rw [I1]; (repeat (first | rw [if_pos (by omega)] | rw [if_neg (by omega)]))
        refine ⟨(by first | exact hL.t30 | exact L1.t30 | exact (hC.lay hS).t30 | (rw [T1]; exact hL.t30) | (rw [b1]; exact hL.t30)), _, r_holds tx n m1 w r (by rw [T1, R1]; exact hL) ⟨by rw [J31]; exact e1.2.1, by rw [J31]; exact e1.2.2, by rw [J30]; exact g4.2.2, fun k hk => by rw [J31]; exact (e2 k hk).2⟩ (by rw [J31]; omega) ⟨(J31 _).trans h1.1, h1.2.1, fun k hk => by rw [J31]; exact h1.2.2 k hk⟩ (fun hne => h4), fun y m2 hq => ?_⟩
        obtain ⟨I_, hm2, hy, hF, hw1, hw2⟩ := hq
        have T2 : mT m2 = mT m := by rw [← hm2]; exact T1
        have R2 : mR m2 = mR m := by rw [← hm2]; exact R1
        have N2 : mN m2 = mN m := by rw [← hm2]; exact N1
        have Z2 : mZ m2 = mZ m := by rw [← hm2]; exact Z1
        have I2 : mI m2 = I_ := by rw [← hm2]; rfl
        have J45 : ∀ k, k ≠ r.toNat → mI m2 45 k = mI m 45 k := fun k hk => by
          rw [I2, hF 45 k (by omega) (by omega) (by omega), I1]; (repeat (first | rw [if_pos (by omega)] | rw [if_neg (by omega)]))
        refine ⟨?_, h.quiet T2 R2 N2 Z2 (fun q => ⟨fun k hk => ?_, fun k => ?_, by rw [I2]; exact hw2⟩) (fun o k ho => ?_)⟩
        · rw [hy, hx]; exact (cd_eq h3 h4).symm
        · by_cases c3 : k = r.toNat
          · have w1 : mI m2 45 k = w := by rw [I2, c3]; exact hw1
            have w2 : mI m2 10 k = w := by rw [I2, hF 10 k (by omega) (by omega) (by omega), I1]; (repeat (first | rw [if_pos (by omega)] | rw [if_neg (by omega)]))
            rw [w1, w2]
          · have w2 : mI m2 10 k = mI m 10 k := by rw [I2, hF 10 k (by omega) (by omega) (by omega), I1]; (repeat (first | rw [if_pos (by omega)] | rw [if_neg (by omega)]))
            rw [J45 k c3, w2]; exact q.1 k hk
        · by_cases c3 : k = r.toNat
          · have w1 : mI m2 45 k = w := by rw [I2, c3]; exact hw1
            omega
          · rw [J45 k c3]; exact q.2.1 k
        · rw [I2, hF o k (by omega) (by omega) (by omega), I1]; (repeat (first | rw [if_pos (by omega)] | rw [if_neg (by omega)]))
  · refine ⟨_, c_holdsB (mI m 31 64) m w r hL e1 hb, fun x m1 hp => ?_⟩
    obtain ⟨rfl, rfl⟩ := hp
    refine ⟨(by first | exact hL.t30 | exact L1.t30 | exact (hC.lay hS).t30 | (rw [T1]; exact hL.t30) | (rw [b1]; exact hL.t30)), _, r_holdsB m w r hL e1.2 (by omega), fun y m2 hq => ?_⟩
    obtain ⟨rfl, rfl⟩ := hq
    exact ⟨rfl, h.tick⟩
