/-! first(), tries(), way(), ways(), spans(), fits(): class and reference in one step -/
theorem ArrG.low {m : Mem} (ha : ArrG m) {o : Nat} (ho : o < 59 ∧ o ≠ 11 ∧ o ≠ 12) : noFa m o := by
  obtain ⟨A0, B0, LA, LB, h1, h2, h3, h4, h5, h6, h7, h8, h9⟩ := ha
  refine ⟨fun e => ?_, fun e => ?_⟩
  · rw [h1] at e; cases Option.some.inj e; omega
  · rw [h5] at e; cases Option.some.inj e; omega
theorem Lay.zn {m m1 : Mem} (hL : Lay (mT m) (mR m)) (hn : 59 ≤ mN m) (hT : ∀ o, o < mN m → mT m1 o = mT m o) (hR : ∀ o k, o < mN m → ¬ (o = 9 ∧ (k = 2 ∨ k = 4)) → mR m1 o k = mR m o k) : Lay (mT m1) (mR m1) := by
  refine ⟨fun p hp => ?_, fun p hp => ?_⟩
  · have hl : p.1 < 59 := by
      have : ∀ q ∈ layT, q.1 < 59 := by decide
      exact this p hp
    rw [hT p.1 (by omega)]
    exact hL.1 p hp
  · have hl : p.1.1 < 59 ∧ ¬ (p.1.1 = 9 ∧ (p.1.2 = 2 ∨ p.1.2 = 4)) := by
      have : ∀ q ∈ layR, q.1.1 < 59 ∧ ¬ (q.1.1 = 9 ∧ (q.1.2 = 2 ∨ q.1.2 = 4)) := by decide
      exact this p hp
    rw [hR p.1.1 _ (by omega) hl.2]
    exact hL.2 p hp
/-- behind a search: the room, the layout, what was there -/
theorem Inv.zone {tt : Nat} {m m1 : Mem} (h : Inv tt m) (hr : ∃ A B LA LB, CZr m m1 A B LA LB) (hN : mN m ≤ mN m1) (hT : ∀ o, o < mN m → mT m1 o = mT m o) (hR : ∀ o k, o < mN m → ¬ (o = 9 ∧ (k = 2 ∨ k = 4)) → mR m1 o k = mR m o k) (hI : ∀ o k, 59 ≤ o → o < mN m → mR m 9 2 ≠ some o → mR m 9 4 ≠ some o → mI m1 o k = mI m o k) : (RmG (tt + 1) m1 ∧ Lay (mT m1) (mR m1) ∧ ArrG m1) ∧ FrS m m1 := by
  obtain ⟨⟨h1, hL, A0, B0, LA0, LB0, a1, a2, a3, a4, a5, a6, a7, a8, a9⟩, _⟩ := h
  obtain ⟨A, B, LA, LB, ⟨r1, r2, r3, r4, r5, r6, r7⟩, ⟨s1, s2, s3, s4, s5, s6, s7⟩, t1, t2, t3⟩ := hr
  have eA : lnA m1 = LA := by unfold lnA; rw [r1]; show (mT m1 A).2 = LA; rw [r2]
  have eB : lnB m1 = LB := by unfold lnB; rw [s1]; show (mT m1 B).2 = LB; rw [s2]
  have dA : A = A0 ∨ mN m ≤ A := r7.imp (fun e => by rw [a1] at e; exact (Option.some.inj e).symm) id
  have dB : B = B0 ∨ mN m ≤ B := s7.imp (fun e => by rw [a5] at e; exact (Option.some.inj e).symm) id
  have h59 := h1.1
  refine ⟨⟨?_, hL.zn h59 hT hR, A, B, LA, LB, r1, r2, r4, r5, s1, s2, s4, s5, r3, r6, s3, s6, t1, by omega, by omega⟩, hN, hT, fun X hX hn => ⟨fun e => ?_, fun e => ?_⟩, fun x k h5 hx => hR x k hx (by omega), fun x k h5 hx hn => hI x k h5 hx hn.1 hn.2, hR 0 6 (by omega) (by omega)⟩
  · unfold RmG at *; rw [eA, eB]; omega
  · rw [r1] at e
    have eX := Option.some.inj e
    rcases dA with q | q
    · exact hn.1 (by rw [a1, ← q, eX])
    · omega
  · rw [s1] at e
    have eX := Option.some.inj e
    rcases dB with q | q
    · exact hn.2 (by rw [a5, ← q, eX])
    · omega
theorem CZ.low {m m1 : Mem} {F : Tb} {J : SJ} (h : CZ m m1 F J) (ha : ArrG m) (hn : 59 ≤ mN m) {o k : Nat} (ho : o < 59 ∧ o ≠ 9 ∧ o ≠ 10 ∧ o ≠ 11 ∧ o ≠ 12) : mI m1 o k = mI m o k :=
  h.f.2.2.2.2 o k (by omega) ho.2.1 ho.2.2.1 (ha.low ⟨ho.1, ho.2.2.2.1, ho.2.2.2.2⟩).1 (ha.low ⟨ho.1, ho.2.2.2.1, ho.2.2.2.2⟩).2
theorem RB1.mv {I I' : Nat → Nat → Int} {n may : Int} {hcn : Nat → CEnv → Int} {cl : Nat → Int} (h : RB1 I n may hcn cl) (hI : ∀ k, I' 31 k = I 31 k) : RB1 I' n may hcn cl := by
  refine ⟨?_, ⟨fun k => (hI k).trans (h.2.1.1 k), h.2.1.2⟩, fun w hw => ?_⟩
  · rw [hI, hI]; exact h.1
  · obtain ⟨tx, n', h1, h2, h3⟩ := h.2.2 w hw
    refine ⟨tx, n', ⟨(hI _).trans h1.1, h1.2.1, fun k hk => ?_⟩, h2, h3⟩
    rw [hI]; exact h1.2.2 k hk
/-- behind a search of both -/
theorem Inv.srch {tt : Nat} {m m1 m2 : Mem} {F : Tb} {I_ : Nat → Nat → Int} {r : Int × SJ} (h : Inv tt m) (hC : CZ m m1 F r.2) (hl : LtrOK r.2) (hm : wI m1 I_ = m2) (hq : SrQ (mI m1) I_ r) : Inv (tt + 1) m2 := by
  obtain ⟨x, hF, q1, q2, _⟩ := hq
  have h' := h
  obtain ⟨⟨hr, hL, ha⟩, ⟨g1, g2, g3, g4⟩, hk, M, M2, hM, r1, r2, hs⟩ := h
  have hf := hC.f
  have hn := hr.1
  obtain ⟨⟨z1, z2, z3⟩, zF⟩ := h'.zone (by obtain ⟨A, B, LA, LB, w, _⟩ := hC; exact ⟨A, B, LA, LB, w⟩) hf.1 hf.2.2.1 hf.2.2.2.1 (fun o k h5 ho a b => hf.2.2.2.2 o k ho (by omega) (by omega) a b)
  have I2 : mI m2 = I_ := by rw [← hm]; rfl
  have T2 : mT m2 = mT m1 := by rw [← hm]; rfl
  have R2 : mR m2 = mR m1 := by rw [← hm]; rfl
  have N2 : mN m2 = mN m1 := by rw [← hm]; rfl
  have Z2 : mZ m2 = mZ m1 := by rw [← hm]; rfl
  have fr : ∀ o k, o < 59 → ¬ (o = 9 ∨ o = 10 ∨ o = 11 ∨ o = 12 ∨ (34 ≤ o ∧ o ≤ 43) ∨ o = 45 ∨ (49 ≤ o ∧ o ≤ 54) ∨ o = 30 ∧ k ≠ 2 ∧ k ≠ 4 ∧ k ≠ 22) → mI m2 o k = mI m o k := fun o k h5 ho => by
    rw [I2, hF o k (by omega) (by omega) (by omega) (by omega)]
    exact hC.low ha hn (by omega)
  have zF2 : FrS m m2 := zF.tr (FrS.low T2 R2 N2 (fun x k h5 => by rw [I2]; exact hF x k (by omega) (by omega) (by omega) (by omega)))
  have Rf : ∀ o k, o < mN m → ¬ (o = 9 ∧ (k = 2 ∨ k = 4)) → mR m2 o k = mR m o k := fun o k ho hk => by rw [R2]; exact hf.2.2.2.1 o k ho hk
  refine ⟨⟨by unfold RmG lnA lnB at *; rw [T2, R2, N2, Z2]; exact z1, by rw [T2, R2]; exact z2, z3.same T2 R2 N2⟩, ⟨g1.fr (fun o k ho => fr o k (by omega) (by omega)), g2.fr (fun o k ho => fr o k (by omega) (by omega)), g3.fr (fun o k ho => fr o k (by omega) (by omega)), ⟨fun k hk => ?_, fun k => ?_, by rw [I2]; exact q2⟩⟩, hk.fr ha hn zF2 (fun o k ho => fr o k (by omega) (by omega)), M, M2, hM, (Rf _ _ (by omega) (by omega)).trans r1, (Rf _ _ (by omega) (by omega)).trans r2, hs.fr zF2.m (by omega) (fun x k hx => Rf x k (by omega) (by omega)) (fun x k hx => fr x k (by omega) (by omega))⟩
  · rw [I2, hF 10 k (by omega) (by omega) (by omega) (by omega), q1, hC.l hk]
  · rw [I2, q1]; exact hl k
/-- what a search needs: of the class, of the reference -/
theorem Inv.sb {tt : Nat} {m : Mem} (h : Inv tt m) (ht : tt ≤ 512) : (mR m 1 2 = none ∧ mI m 31 65 = 0) ∨ ∃ (tx : Nat → Int) (nt P A L : Nat) (hc : Nat → CEnv → Int), (0 < nt ∧ PatW tx nt ∧ mI m 31 65 = (nt : Int) ∧ nt ≤ 120 ∧ txR (mI m) 31 66 tx nt) ∧ SB m P A L (altL tx nt 5 S0).2.2.2.2 (altL tx nt 5 S0).2.2.2.1 (mI m 31 64) (mI m 31 3335) hc (fun k => mI m 31 k) ∧ RB1 (mI m) (mI m 31 64) (mI m 31 3335) hc (fun k => mI m 31 k) := by
  obtain ⟨⟨hr, hL, ha⟩, ⟨g1, g2, g3, g4⟩, hk, M, M2, hM, r1, r2, s1, s2, s3, s4, s5, s6⟩ := h
  have e1 : mI m 2 1 = mI m 31 64 ∧ 0 ≤ mI m 31 64 ∧ mI m 31 64 ≤ 32 := s2.1
  have e2 : ∀ k, k < 64 → mI m 3 k = mI m 31 k ∧ -999 ≤ mI m 31 k ∧ mI m 31 k ≤ 1000 := s2.2
  obtain ⟨tx, n, ⟨p1, p2, p3⟩, p4⟩ := s4
  rcases p4 with ⟨q1, q2⟩ | ⟨q1, q2, P, A, L, q3, q4, q5, q6⟩
  · exact Or.inl ⟨q2, by rw [p1, q1]; rfl⟩
  · have hcs : ∀ w : Nat, ∃ g : CEnv → Int, w < 26 → (∃ q, CdAt m 4 w q ∧ ∀ e, cdV e q = g e) ∧ ∃ tx n', CdTx (mI m) 31 w tx n' ∧ (n' ≠ 0 → (eitL tx n' 4 (true, 0)).2.2.1 = true) ∧ ∀ e, cdR e tx n' = g e := fun w => by
      by_cases hw : w < 26
      · obtain ⟨tx, n', c1, c2⟩ := s5 w hw
        refine ⟨fun e => cdR e tx n', fun _ => ⟨?_, tx, n', c1, ?_, fun _ => rfl⟩⟩
        · rcases c2 with ⟨c3, c4⟩ | ⟨c3, c4, c5⟩
          · exact ⟨none, c4, fun e => cd_none c3⟩
          · exact ⟨_, c5.at, fun e => cd_eq c3 c4⟩
        · intro hne
          rcases c2 with ⟨c3, _⟩ | ⟨_, c4, _⟩
          · exact absurd c3 hne
          · exact c4
      · exact ⟨fun _ => 0, fun q => absurd q hw⟩
    have hcx : ∃ hc : Nat → CEnv → Int, ∀ w, w < 26 → (∃ q, CdAt m 4 w q ∧ ∀ e, cdV e q = hc w e) ∧ ∃ tx n', CdTx (mI m) 31 w tx n' ∧ (n' ≠ 0 → (eitL tx n' 4 (true, 0)).2.2.1 = true) ∧ ∀ e, cdR e tx n' = hc w e := Classical.axiomOfChoice hcs
    obtain ⟨hc, hcw⟩ := hcx
    obtain ⟨w1, w2, w3, w4, w5, w6, w7, w8⟩ := pat_wf q2 _ _ _ rfl rfl rfl
    obtain ⟨b1, b2, b3, b4, b5, b6, b7, b8, b9, b10, b11, b12⟩ := q4
    have hz : lnA m ≤ 65536 ∧ lnB m ≤ 65536 := by
      obtain ⟨A0, B0, LA0, LB0, a1, a2, a3, a4, a5, a6, a7, a8, a9⟩ := ha
      unfold lnA lnB
      rw [a1, a5]
      show (mT m A0).2 ≤ 65536 ∧ (mT m B0).2 ≤ 65536
      rw [a2, a6]
      exact ⟨a4, a8⟩
    obtain ⟨u1, u2, u3⟩ := hr
    refine Or.inr ⟨tx, n, P, A, L, hc, ⟨q1, q2, p1, p2, p3⟩, ⟨⟨hL, u1, by unfold NN; omega, by unfold ZZ; omega⟩, ⟨q3, b1, b2, b3, b4, b5, b7, b8, q6.1.1, q6.1.2⟩, ⟨b9, by omega, b11, b12, w3⟩, ⟨e1.1, e1.2.1, e1.2.2, s3.2.2.2.1, s3.2.2.2.2.1, s3.2.2.2.2.2⟩, fun k hk => e2 k hk, fun w hw => (hcw w hw).1, ha⟩, ⟨rfl, e1.2.1, e1.2.2, rfl, s3.2.2.2.2.1, s3.2.2.2.2.2⟩, ⟨fun _ => rfl, fun k hk => (e2 k hk).2⟩, fun w hw => (hcw w hw).2⟩

theorem op_first {tt : Nat} {m : Mem} (h : Inv tt m) (ht : tt ≤ 512) (st : Int) : Op tt m μX10_first μX11_first 8 34 [vi st] := by
  obtain ⟨⟨hr, hL, ha⟩, ⟨g1, g2, g3, g4⟩, hk, M, M2, hM, r1, r2, s1, s2, s3, s4, s5, s6⟩ := id h
  have hM' : M = 5 ∨ M = 18 := by omega
  have e1 : mI m 2 1 = mI m 31 64 ∧ 0 ≤ mI m 31 64 ∧ mI m 31 64 ≤ 32 := s2.1
  have e2 : ∀ k, k < 64 → mI m 3 k = mI m 31 k ∧ -999 ≤ mI m 31 k ∧ mI m 31 k ≤ 1000 := s2.2
  have e3 := g1.1
  have tM := hL.mat hM'
  have hsb := h.sb ht
  have hn := hr.1
  by_cases hb : 0 ≤ st ∧ st ≤ mI m 31 64
  · rcases hsb with ⟨q1, q2⟩ | ⟨tx, nt, P, A, L, hc, ⟨p1, p2, p3, p4, p5⟩, hS, hB⟩
    · refine ⟨_, z_firstN (mI m 31 64) m st hL e1 q1 hb, fun x m1 hp => ?_⟩
      obtain ⟨rfl, rfl⟩ := hp
      refine ⟨(by first | exact hL.t30 | exact L1.t30 | exact (hC.lay hS).t30 | (rw [T1]; exact hL.t30) | (rw [b1]; exact hL.t30)), _, y_firstB m st hL (Or.inr q2) e1.2, fun y m2 hq => ?_⟩
      obtain ⟨hy, rfl⟩ := hq
      exact ⟨by rw [hy, if_pos hb], h.tick⟩
    · obtain ⟨w1, w2, w3, w4, w5, w6, w7, w8⟩ := pat_wf p2 _ _ _ rfl rfl rfl
      obtain ⟨J, hJ⟩ : ∃ J : SJ, J = ((fun _ => 0), (fun k => mI m 45 k), (fun _ _ => 0), (fun _ _ => 0)) := ⟨_, rfl⟩
      have hJl : J.2.1 = fun k => mI m 45 k := by rw [hJ]
      have hlt : LtrOK J := fun k => by rw [hJl]; exact g4.2.1 k
      refine ⟨_, z_firstS P A L _ _ (mI m 31 64) (mI m 31 3335) hc (fun k => mI m 31 k) J m st hS ⟨w1, w7, w8⟩ (fun k hk => by rw [hJl]; exact g4.1 k hk) hb, fun x m1 hp => ?_⟩
      obtain ⟨hx, hC⟩ := hp
      have J31 : ∀ k, mI m1 31 k = mI m 31 k := fun k => hC.low ha hn (by omega)
      refine ⟨(by first | exact hL.t30 | exact L1.t30 | exact (hC.lay hS).t30 | (rw [T1]; exact hL.t30) | (rw [b1]; exact hL.t30)), _, y_firstS tx nt _ _ (mI m 31 64) (mI m 31 3335) hc (fun k => mI m 31 k) J m1 st (hC.lay hS) ⟨(J31 _).trans p3, p1, p4⟩ ⟨fun k hk => by rw [J31]; exact p5 k hk, p2⟩ ⟨rfl, rfl⟩ (hB.mv J31) ⟨fun k => by rw [hJl]; exact hC.low ha hn (by omega), by rw [hC.low ha hn (by omega)]; exact g4.2.2⟩ hb, fun y m2 hq => ?_⟩
      obtain ⟨I_, hm, hy, hq⟩ := hq
      refine ⟨?_, h.srch hC (seekA_lt w3 ⟨w1, w7, w8⟩ (by omega) ⟨s3.2.2.2.2.1, s3.2.2.2.2.2⟩ hlt) hm hq⟩
      rw [hy, hx]
  · refine ⟨_, z_firstB (mI m 31 64) m st hL e1 hb, fun x m1 hp => ?_⟩
    obtain ⟨rfl, rfl⟩ := hp
    refine ⟨(by first | exact hL.t30 | exact L1.t30 | exact (hC.lay hS).t30 | (rw [T1]; exact hL.t30) | (rw [b1]; exact hL.t30)), _, y_firstB m st hL (Or.inl hb) e1.2, fun y m2 hq => ?_⟩
    obtain ⟨hy, rfl⟩ := hq
    exact ⟨by rw [hy, if_neg hb], h.tick⟩

theorem op_tries {tt : Nat} {m : Mem} (h : Inv tt m) (ht : tt ≤ 512) (st : Int) : Op tt m μX10_tries μX11_tries 8 34 [vi st] := by
  obtain ⟨⟨hr, hL, ha⟩, ⟨g1, g2, g3, g4⟩, hk, M, M2, hM, r1, r2, s1, s2, s3, s4, s5, s6⟩ := id h
  have hM' : M = 5 ∨ M = 18 := by omega
  have e1 : mI m 2 1 = mI m 31 64 ∧ 0 ≤ mI m 31 64 ∧ mI m 31 64 ≤ 32 := s2.1
  have e2 : ∀ k, k < 64 → mI m 3 k = mI m 31 k ∧ -999 ≤ mI m 31 k ∧ mI m 31 k ≤ 1000 := s2.2
  have e3 := g1.1
  have tM := hL.mat hM'
  have hsb := h.sb ht
  have hn := hr.1
  by_cases hb : 0 ≤ st ∧ st ≤ mI m 31 64
  · rcases hsb with ⟨q1, q2⟩ | ⟨tx, nt, P, A, L, hc, ⟨p1, p2, p3, p4, p5⟩, hS, hB⟩
    · refine ⟨_, z_triesN (mI m 31 64) m st hL e1 q1 hb, fun x m1 hp => ?_⟩
      obtain ⟨rfl, rfl⟩ := hp
      refine ⟨(by first | exact hL.t30 | exact L1.t30 | exact (hC.lay hS).t30 | (rw [T1]; exact hL.t30) | (rw [b1]; exact hL.t30)), _, y_triesB m st hL (Or.inr q2) e1.2, fun y m2 hq => ?_⟩
      obtain ⟨hy, rfl⟩ := hq
      exact ⟨by rw [hy, if_pos hb], h.tick⟩
    · obtain ⟨w1, w2, w3, w4, w5, w6, w7, w8⟩ := pat_wf p2 _ _ _ rfl rfl rfl
      obtain ⟨J, hJ⟩ : ∃ J : SJ, J = ((fun _ => 0), (fun k => mI m 45 k), (fun _ _ => 0), (fun _ _ => 0)) := ⟨_, rfl⟩
      have hJl : J.2.1 = fun k => mI m 45 k := by rw [hJ]
      have hlt : LtrOK J := fun k => by rw [hJl]; exact g4.2.1 k
      refine ⟨_, z_triesS P A L _ _ (mI m 31 64) (mI m 31 3335) hc (fun k => mI m 31 k) J m st hS ⟨w1, w7, w8⟩ (fun k hk => by rw [hJl]; exact g4.1 k hk) hb, fun x m1 hp => ?_⟩
      obtain ⟨hx, hC⟩ := hp
      have J31 : ∀ k, mI m1 31 k = mI m 31 k := fun k => hC.low ha hn (by omega)
      refine ⟨(by first | exact hL.t30 | exact L1.t30 | exact (hC.lay hS).t30 | (rw [T1]; exact hL.t30) | (rw [b1]; exact hL.t30)), _, y_triesS tx nt _ _ (mI m 31 64) (mI m 31 3335) hc (fun k => mI m 31 k) J m1 st (hC.lay hS) ⟨(J31 _).trans p3, p1, p4⟩ ⟨fun k hk => by rw [J31]; exact p5 k hk, p2⟩ ⟨rfl, rfl⟩ (hB.mv J31) ⟨fun k => by rw [hJl]; exact hC.low ha hn (by omega), by rw [hC.low ha hn (by omega)]; exact g4.2.2⟩ hb, fun y m2 hq => ?_⟩
      obtain ⟨I_, hm, hy, hq⟩ := hq
      refine ⟨?_, h.srch hC (seekA_lt w3 ⟨w1, w7, w8⟩ (by omega) ⟨s3.2.2.2.2.1, s3.2.2.2.2.2⟩ hlt) hm hq⟩
      rw [hy, hx]
  · refine ⟨_, z_triesB (mI m 31 64) m st hL e1 hb, fun x m1 hp => ?_⟩
    obtain ⟨rfl, rfl⟩ := hp
    refine ⟨(by first | exact hL.t30 | exact L1.t30 | exact (hC.lay hS).t30 | (rw [T1]; exact hL.t30) | (rw [b1]; exact hL.t30)), _, y_triesB m st hL (Or.inl hb) e1.2, fun y m2 hq => ?_⟩
    obtain ⟨hy, rfl⟩ := hq
    exact ⟨by rw [hy, if_neg hb], h.tick⟩

theorem op_way {tt : Nat} {m : Mem} (h : Inv tt m) (ht : tt ≤ 512) (st i : Int) : Op tt m μX10_way μX11_way 8 34 [vi st, vi i] := by
  obtain ⟨⟨hr, hL, ha⟩, ⟨g1, g2, g3, g4⟩, hk, M, M2, hM, r1, r2, s1, s2, s3, s4, s5, s6⟩ := id h
  have hM' : M = 5 ∨ M = 18 := by omega
  have e1 : mI m 2 1 = mI m 31 64 ∧ 0 ≤ mI m 31 64 ∧ mI m 31 64 ≤ 32 := s2.1
  have e2 : ∀ k, k < 64 → mI m 3 k = mI m 31 k ∧ -999 ≤ mI m 31 k ∧ mI m 31 k ≤ 1000 := s2.2
  have e3 := g1.1
  have tM := hL.mat hM'
  have hsb := h.sb ht
  have hn := hr.1
  by_cases hb : 0 ≤ st ∧ st ≤ mI m 31 64
  · rcases hsb with ⟨q1, q2⟩ | ⟨tx, nt, P, A, L, hc, ⟨p1, p2, p3, p4, p5⟩, hS, hB⟩
    · refine ⟨_, z_wayN (mI m 31 64) m st i hL e1 q1 hb, fun x m1 hp => ?_⟩
      obtain ⟨rfl, rfl⟩ := hp
      refine ⟨(by first | exact hL.t30 | exact L1.t30 | exact (hC.lay hS).t30 | (rw [T1]; exact hL.t30) | (rw [b1]; exact hL.t30)), _, y_wayB m st i hL (Or.inr q2) e1.2, fun y m2 hq => ?_⟩
      obtain ⟨hy, rfl⟩ := hq
      exact ⟨by rw [hy, if_pos hb], h.tick⟩
    · obtain ⟨w1, w2, w3, w4, w5, w6, w7, w8⟩ := pat_wf p2 _ _ _ rfl rfl rfl
      obtain ⟨J, hJ⟩ : ∃ J : SJ, J = ((fun _ => 0), (fun k => mI m 45 k), (fun _ _ => 0), (fun _ _ => 0)) := ⟨_, rfl⟩
      have hJl : J.2.1 = fun k => mI m 45 k := by rw [hJ]
      have hlt : LtrOK J := fun k => by rw [hJl]; exact g4.2.1 k
      refine ⟨_, z_wayS P A L _ _ (mI m 31 64) (mI m 31 3335) hc (fun k => mI m 31 k) J m st i hS ⟨w1, w7, w8⟩ (fun k hk => by rw [hJl]; exact g4.1 k hk) hb, fun x m1 hp => ?_⟩
      obtain ⟨hx, hC⟩ := hp
      have J31 : ∀ k, mI m1 31 k = mI m 31 k := fun k => hC.low ha hn (by omega)
      refine ⟨(by first | exact hL.t30 | exact L1.t30 | exact (hC.lay hS).t30 | (rw [T1]; exact hL.t30) | (rw [b1]; exact hL.t30)), _, y_wayS tx nt _ _ (mI m 31 64) (mI m 31 3335) hc (fun k => mI m 31 k) J m1 st i (hC.lay hS) ⟨(J31 _).trans p3, p1, p4⟩ ⟨fun k hk => by rw [J31]; exact p5 k hk, p2⟩ ⟨rfl, rfl⟩ (hB.mv J31) ⟨fun k => by rw [hJl]; exact hC.low ha hn (by omega), by rw [hC.low ha hn (by omega)]; exact g4.2.2⟩ hb, fun y m2 hq => ?_⟩
      obtain ⟨I_, hm, hy, hq⟩ := hq
      refine ⟨?_, h.srch hC (seekA_lt w3 ⟨w1, w7, w8⟩ (by omega) ⟨s3.2.2.2.2.1, s3.2.2.2.2.2⟩ hlt) hm hq⟩
      rw [hy, hx]
  · refine ⟨_, z_wayB (mI m 31 64) m st i hL e1 hb, fun x m1 hp => ?_⟩
    obtain ⟨rfl, rfl⟩ := hp
    refine ⟨(by first | exact hL.t30 | exact L1.t30 | exact (hC.lay hS).t30 | (rw [T1]; exact hL.t30) | (rw [b1]; exact hL.t30)), _, y_wayB m st i hL (Or.inl hb) e1.2, fun y m2 hq => ?_⟩
    obtain ⟨hy, rfl⟩ := hq
    exact ⟨by rw [hy, if_neg hb], h.tick⟩

theorem op_ways {tt : Nat} {m : Mem} (h : Inv tt m) (ht : tt ≤ 512) (st : Int) : Op tt m μX10_ways μX11_ways 8 34 [vi st] := by
  obtain ⟨⟨hr, hL, ha⟩, ⟨g1, g2, g3, g4⟩, hk, M, M2, hM, r1, r2, s1, s2, s3, s4, s5, s6⟩ := id h
  have hM' : M = 5 ∨ M = 18 := by omega
  have e1 : mI m 2 1 = mI m 31 64 ∧ 0 ≤ mI m 31 64 ∧ mI m 31 64 ≤ 32 := s2.1
  have e2 : ∀ k, k < 64 → mI m 3 k = mI m 31 k ∧ -999 ≤ mI m 31 k ∧ mI m 31 k ≤ 1000 := s2.2
  have e3 := g1.1
  have tM := hL.mat hM'
  have hsb := h.sb ht
  have hn := hr.1
  by_cases hb : 0 ≤ st ∧ st ≤ mI m 31 64
  · rcases hsb with ⟨q1, q2⟩ | ⟨tx, nt, P, A, L, hc, ⟨p1, p2, p3, p4, p5⟩, hS, hB⟩
    · refine ⟨_, z_waysN (mI m 31 64) m st hL e1 q1 hb, fun x m1 hp => ?_⟩
      obtain ⟨rfl, rfl⟩ := hp
      refine ⟨(by first | exact hL.t30 | exact L1.t30 | exact (hC.lay hS).t30 | (rw [T1]; exact hL.t30) | (rw [b1]; exact hL.t30)), _, y_waysB m st hL (Or.inr q2) e1.2, fun y m2 hq => ?_⟩
      obtain ⟨hy, rfl⟩ := hq
      exact ⟨by rw [hy, if_pos hb], h.tick⟩
    · obtain ⟨w1, w2, w3, w4, w5, w6, w7, w8⟩ := pat_wf p2 _ _ _ rfl rfl rfl
      obtain ⟨J, hJ⟩ : ∃ J : SJ, J = ((fun _ => 0), (fun k => mI m 45 k), (fun _ _ => 0), (fun _ _ => 0)) := ⟨_, rfl⟩
      have hJl : J.2.1 = fun k => mI m 45 k := by rw [hJ]
      have hlt : LtrOK J := fun k => by rw [hJl]; exact g4.2.1 k
      refine ⟨_, z_waysS P A L _ _ (mI m 31 64) (mI m 31 3335) hc (fun k => mI m 31 k) J m st hS ⟨w1, w7, w8⟩ (fun k hk => by rw [hJl]; exact g4.1 k hk) hb, fun x m1 hp => ?_⟩
      obtain ⟨hx, hC⟩ := hp
      have J31 : ∀ k, mI m1 31 k = mI m 31 k := fun k => hC.low ha hn (by omega)
      refine ⟨(by first | exact hL.t30 | exact L1.t30 | exact (hC.lay hS).t30 | (rw [T1]; exact hL.t30) | (rw [b1]; exact hL.t30)), _, y_waysS tx nt _ _ (mI m 31 64) (mI m 31 3335) hc (fun k => mI m 31 k) J m1 st (hC.lay hS) ⟨(J31 _).trans p3, p1, p4⟩ ⟨fun k hk => by rw [J31]; exact p5 k hk, p2⟩ ⟨rfl, rfl⟩ (hB.mv J31) ⟨fun k => by rw [hJl]; exact hC.low ha hn (by omega), by rw [hC.low ha hn (by omega)]; exact g4.2.2⟩ hb, fun y m2 hq => ?_⟩
      obtain ⟨I_, hm, hy, hq⟩ := hq
      refine ⟨?_, h.srch hC (seekA_lt w3 ⟨w1, w7, w8⟩ (by omega) ⟨s3.2.2.2.2.1, s3.2.2.2.2.2⟩ hlt) hm hq⟩
      rw [hy, hx]
  · refine ⟨_, z_waysB (mI m 31 64) m st hL e1 hb, fun x m1 hp => ?_⟩
    obtain ⟨rfl, rfl⟩ := hp
    refine ⟨(by first | exact hL.t30 | exact L1.t30 | exact (hC.lay hS).t30 | (rw [T1]; exact hL.t30) | (rw [b1]; exact hL.t30)), _, y_waysB m st hL (Or.inl hb) e1.2, fun y m2 hq => ?_⟩
    obtain ⟨hy, rfl⟩ := hq
    exact ⟨by rw [hy, if_neg hb], h.tick⟩

theorem op_spans {tt : Nat} {m : Mem} (h : Inv tt m) (ht : tt ≤ 512) (st w : Int) : Op tt m μX10_spans μX11_spans 8 34 [vi st, vi w] := by
  obtain ⟨⟨hr, hL, ha⟩, ⟨g1, g2, g3, g4⟩, hk, M, M2, hM, r1, r2, s1, s2, s3, s4, s5, s6⟩ := id h
  have hM' : M = 5 ∨ M = 18 := by omega
  have e1 : mI m 2 1 = mI m 31 64 ∧ 0 ≤ mI m 31 64 ∧ mI m 31 64 ≤ 32 := s2.1
  have e2 : ∀ k, k < 64 → mI m 3 k = mI m 31 k ∧ -999 ≤ mI m 31 k ∧ mI m 31 k ≤ 1000 := s2.2
  have e3 := g1.1
  have tM := hL.mat hM'
  have hsb := h.sb ht
  have hn := hr.1
  by_cases hb : (0 ≤ st ∧ st ≤ mI m 31 64) ∧ (w = 0 ∨ w = 1)
  · rcases hsb with ⟨q1, q2⟩ | ⟨tx, nt, P, A, L, hc, ⟨p1, p2, p3, p4, p5⟩, hS, hB⟩
    · refine ⟨_, z_spansN (mI m 31 64) m st w hL e1 q1 hb.1 hb.2, fun x m1 hp => ?_⟩
      obtain ⟨rfl, rfl⟩ := hp
      refine ⟨(by first | exact hL.t30 | exact L1.t30 | exact (hC.lay hS).t30 | (rw [T1]; exact hL.t30) | (rw [b1]; exact hL.t30)), _, y_spansB m st w hL (Or.inr q2) e1.2, fun y m2 hq => ?_⟩
      obtain ⟨hy, rfl⟩ := hq
      exact ⟨by rw [hy, if_pos hb], h.tick⟩
    · obtain ⟨w1, w2, w3, w4, w5, w6, w7, w8⟩ := pat_wf p2 _ _ _ rfl rfl rfl
      obtain ⟨J, hJ⟩ : ∃ J : SJ, J = ((fun _ => 0), (fun k => mI m 45 k), (fun _ _ => 0), (fun _ _ => 0)) := ⟨_, rfl⟩
      have hJl : J.2.1 = fun k => mI m 45 k := by rw [hJ]
      have hlt : LtrOK J := fun k => by rw [hJl]; exact g4.2.1 k
      refine ⟨_, z_spansS P A L _ _ (mI m 31 64) (mI m 31 3335) hc (fun k => mI m 31 k) J m st w hS ⟨w1, w7, w8⟩ (fun k hk => by rw [hJl]; exact g4.1 k hk) hb.1 hb.2, fun x m1 hp => ?_⟩
      obtain ⟨hx, hC⟩ := hp
      have J31 : ∀ k, mI m1 31 k = mI m 31 k := fun k => hC.low ha hn (by omega)
      refine ⟨(by first | exact hL.t30 | exact L1.t30 | exact (hC.lay hS).t30 | (rw [T1]; exact hL.t30) | (rw [b1]; exact hL.t30)), _, y_spansS tx nt _ _ (mI m 31 64) (mI m 31 3335) hc (fun k => mI m 31 k) J m1 st w (hC.lay hS) ⟨(J31 _).trans p3, p1, p4⟩ ⟨fun k hk => by rw [J31]; exact p5 k hk, p2⟩ ⟨rfl, rfl⟩ (hB.mv J31) ⟨fun k => by rw [hJl]; exact hC.low ha hn (by omega), by rw [hC.low ha hn (by omega)]; exact g4.2.2⟩ hb.1 hb.2, fun y m2 hq => ?_⟩
      obtain ⟨I_, hm, hy, hq⟩ := hq
      refine ⟨?_, h.srch hC (seekA_lt w3 ⟨w1, w7, w8⟩ (by omega) ⟨s3.2.2.2.2.1, s3.2.2.2.2.2⟩ hlt) hm hq⟩
      rw [hy, hx]
  · refine ⟨_, z_spansB (mI m 31 64) m st w hL e1 (by omega), fun x m1 hp => ?_⟩
    obtain ⟨rfl, rfl⟩ := hp
    refine ⟨(by first | exact hL.t30 | exact L1.t30 | exact (hC.lay hS).t30 | (rw [T1]; exact hL.t30) | (rw [b1]; exact hL.t30)), _, y_spansB m st w hL (Or.inl hb) e1.2, fun y m2 hq => ?_⟩
    obtain ⟨hy, rfl⟩ := hq
    exact ⟨by rw [hy, if_neg hb], h.tick⟩

theorem op_fits {tt : Nat} {m : Mem} (h : Inv tt m) (ht : tt ≤ 512) (st e : Int) : Op tt m μX10_fits μX11_fits 8 34 [vi st, vi e] := by
  obtain ⟨⟨hr, hL, ha⟩, ⟨g1, g2, g3, g4⟩, hk, M, M2, hM, r1, r2, s1, s2, s3, s4, s5, s6⟩ := id h
  have hM' : M = 5 ∨ M = 18 := by omega
  have e1 : mI m 2 1 = mI m 31 64 ∧ 0 ≤ mI m 31 64 ∧ mI m 31 64 ≤ 32 := s2.1
  have e2 : ∀ k, k < 64 → mI m 3 k = mI m 31 k ∧ -999 ≤ mI m 31 k ∧ mI m 31 k ≤ 1000 := s2.2
  have e3 := g1.1
  have tM := hL.mat hM'
  have hsb := h.sb ht
  have hn := hr.1
  by_cases hb : (0 ≤ st ∧ st ≤ mI m 31 64) ∧ (st ≤ e ∧ e ≤ mI m 31 64)
  · rcases hsb with ⟨q1, q2⟩ | ⟨tx, nt, P, A, L, hc, ⟨p1, p2, p3, p4, p5⟩, hS, hB⟩
    · refine ⟨_, z_fitsN (mI m 31 64) m st e hL e1 q1 hb.1 hb.2, fun x m1 hp => ?_⟩
      obtain ⟨rfl, rfl⟩ := hp
      refine ⟨(by first | exact hL.t30 | exact L1.t30 | exact (hC.lay hS).t30 | (rw [T1]; exact hL.t30) | (rw [b1]; exact hL.t30)), _, y_fitsB m st e hL (Or.inr q2) e1.2, fun y m2 hq => ?_⟩
      obtain ⟨hy, rfl⟩ := hq
      exact ⟨by rw [hy, if_pos hb], h.tick⟩
    · obtain ⟨w1, w2, w3, w4, w5, w6, w7, w8⟩ := pat_wf p2 _ _ _ rfl rfl rfl
      obtain ⟨J, hJ⟩ : ∃ J : SJ, J = ((fun _ => 0), (fun k => mI m 45 k), (fun _ _ => 0), (fun _ _ => 0)) := ⟨_, rfl⟩
      have hJl : J.2.1 = fun k => mI m 45 k := by rw [hJ]
      have hlt : LtrOK J := fun k => by rw [hJl]; exact g4.2.1 k
      refine ⟨_, z_fitsS P A L _ _ (mI m 31 64) (mI m 31 3335) hc (fun k => mI m 31 k) J m st e hS ⟨w1, w7, w8⟩ (fun k hk => by rw [hJl]; exact g4.1 k hk) hb.1 hb.2, fun x m1 hp => ?_⟩
      obtain ⟨hx, hC⟩ := hp
      have J31 : ∀ k, mI m1 31 k = mI m 31 k := fun k => hC.low ha hn (by omega)
      refine ⟨(by first | exact hL.t30 | exact L1.t30 | exact (hC.lay hS).t30 | (rw [T1]; exact hL.t30) | (rw [b1]; exact hL.t30)), _, y_fitsS tx nt _ _ (mI m 31 64) (mI m 31 3335) hc (fun k => mI m 31 k) J m1 st e (hC.lay hS) ⟨(J31 _).trans p3, p1, p4⟩ ⟨fun k hk => by rw [J31]; exact p5 k hk, p2⟩ ⟨rfl, rfl⟩ (hB.mv J31) ⟨fun k => by rw [hJl]; exact hC.low ha hn (by omega), by rw [hC.low ha hn (by omega)]; exact g4.2.2⟩ hb.1 hb.2, fun y m2 hq => ?_⟩
      obtain ⟨I_, hm, hy, hq⟩ := hq
      refine ⟨?_, h.srch hC (seekA_lt w3 ⟨w1, w7, w8⟩ (by omega) ⟨s3.2.2.2.2.1, s3.2.2.2.2.2⟩ hlt) hm hq⟩
      have hv := seekA_inv (hc := hc) (cl := fun k => mI m 31 k) (J := J) (st := st) (e := e) (n := mI m 31 64) (may := mI m 31 3335) w3 ⟨w1, w7, w8⟩ (by omega) ⟨s3.2.2.2.2.1, s3.2.2.2.2.2⟩
      rw [hy, hx]
      rcases hv with c | ⟨c | c, _⟩
      · rw [c]; rfl
      · rw [c]; rfl
      · rw [c]; rfl
  · refine ⟨_, z_fitsB (mI m 31 64) m st e hL e1 (by omega), fun x m1 hp => ?_⟩
    obtain ⟨rfl, rfl⟩ := hp
    refine ⟨(by first | exact hL.t30 | exact L1.t30 | exact (hC.lay hS).t30 | (rw [T1]; exact hL.t30) | (rw [b1]; exact hL.t30)), _, y_fitsB m st e hL (Or.inl hb) e1.2, fun y m2 hq => ?_⟩
    obtain ⟨hy, rfl⟩ := hq
    exact ⟨by rw [hy, if_neg hb], h.tick⟩
