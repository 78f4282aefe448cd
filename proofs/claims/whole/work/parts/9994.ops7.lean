/-! pattern(), define(): class and reference in one step -/
/-- behind a call that makes objects and leaves the search alone -/
theorem Inv.grow {tt : Nat} {m m1 : Mem} (h : Inv tt m) (hN : mN m ≤ mN m1) (hN2 : mN m1 ≤ mN m + 85) (hZ : mZ m1 ≤ mZ m + 5114) (hT : ∀ o, o < mN m → mT m1 o = mT m o) (h9 : ∀ k, mR m1 9 k = mR m 9 k) : RmG (tt + 1) m1 ∧ ArrG m1 := by
  obtain ⟨⟨hr, hL, A0, B0, LA0, LB0, a1, a2, a3, a4, a5, a6, a7, a8, a9⟩, _⟩ := h
  have eA : lnA m1 = lnA m := by
    unfold lnA; rw [h9, a1]; show (mT m1 A0).2 = (mT m A0).2; rw [hT A0 a9.1]
  have eB : lnB m1 = lnB m := by
    unfold lnB; rw [h9, a5]; show (mT m1 B0).2 = (mT m B0).2; rw [hT B0 a9.2.2.1]
  exact ⟨hr.up hN eA eB hN2 hZ, A0, B0, LA0, LB0, (h9 2).trans a1, (hT A0 a9.1).trans a2, a3, a4, (h9 4).trans a5, (hT B0 a9.2.2.1).trans a6, a7, a8, Nat.lt_of_lt_of_le a9.1 hN, a9.2.1, Nat.lt_of_lt_of_le a9.2.2.1 hN, a9.2.2.2⟩
/-- the search's arrays are old -/
theorem ArrG.new {m : Mem} (h : ArrG m) {A : Nat} (hA : mN m ≤ A) : noFa m A := by
  obtain ⟨A0, B0, LA0, LB0, a1, a2, a3, a4, a5, a6, a7, a8, a9⟩ := h
  refine ⟨fun e => ?_, fun e => ?_⟩
  · rw [a1] at e; have := Option.some.inj e; omega
  · rw [a5] at e; have := Option.some.inj e; omega
theorem KepG.new {m : Mem} (h : KepG m) {X : Nat} (hX : mN m ≤ X) : ∀ K, mR m 0 6 = some K → ¬ (K ≤ X ∧ X < K + 8) := fun K hK => by
  rcases h with ⟨h1, _⟩ | ⟨K2, h1, _, h3, h4, _⟩
  · rw [h1] at hK; cases hK
  · rw [h1] at hK; cases Option.some.inj hK; omega

theorem op_pattern {tt : Nat} {m : Mem} (h : Inv tt m) (ht : tt ≤ 512) : Op tt m μX10_pattern μX11_pattern 34 32 [] := by
  obtain ⟨⟨hr, hL, ha⟩, ⟨g1, g2, g3, g4⟩, hk, M, M2, hM, r1, r2, s1, s2, s3, s4, s5, s6⟩ := id h
  have hM' : M = 5 ∨ M = 18 := by omega
  have e1 : mI m 2 1 = mI m 31 64 ∧ 0 ≤ mI m 31 64 ∧ mI m 31 64 ≤ 32 := s2.1
  have e2 : ∀ k, k < 64 → mI m 3 k = mI m 31 k ∧ -999 ≤ mI m 31 k ∧ mI m 31 k ≤ 1000 := s2.2
  have e3 := g1.1
  have tM := hL.mat hM'
  have hn := hr.1
  have hz : lnA m ≤ 65536 ∧ lnB m ≤ 65536 := by
    obtain ⟨A0, B0, LA0, LB0, a1, a2, a3, a4, a5, a6, a7, a8, a9⟩ := id ha
    unfold lnA lnB
    rw [a1, a5]
    show (mT m A0).2 ≤ 65536 ∧ (mT m B0).2 ≤ 65536
    rw [a2, a6]
    exact ⟨a4, a8⟩
  obtain ⟨n, hnn⟩ : ∃ n : Nat, mI m 30 4 = (n : Int) := ⟨(mI m 30 4).toNat, by omega⟩
  have u := hr
  unfold RmG at u
  have htx : ∀ k, k < n → mI m 14 k = (fun k => mI m 33 k) k ∧ 1 ≤ (fun k => mI m 33 k) k ∧ (fun k => mI m 33 k) k ≤ 127 := fun k hk => g1.2 k (by omega)
  obtain ⟨tx, htx0⟩ : ∃ tx : Nat → Int, tx = fun k => mI m 33 k := ⟨_, rfl⟩
  rw [← htx0] at htx
  refine ⟨_, c_pattern2 tx n m M hL r1 tM.1 hM' ⟨by omega, by omega⟩ htx ⟨hn, by unfold NN; omega, by unfold ZZ; omega⟩, fun x m1 hp => ?_⟩
  obtain ⟨_, ⟨k1, k2, k3, k4, k5, k6, k7⟩, kA⟩ := hp
  have J31 : ∀ k, mI m1 31 k = mI m 31 k := fun k => k5 31 k (by omega) (by omega) (by omega)
  have L1 : Lay (mT m1) (mR m1) := by
    refine ⟨fun p hp => ?_, fun p hp => ?_⟩
    · have hl : p.1 < 59 := by
        have : ∀ q ∈ layT, q.1 < 59 := by decide
        exact this p hp
      rw [k3 p.1 (by omega)]
      exact hL.1 p hp
    · have hl : p.1.1 < 59 ∧ ¬ (p.1.1 = 1 ∧ p.1.2 = 2) := by
        have : ∀ q ∈ layR, q.1.1 < 59 ∧ ¬ (q.1.1 = 1 ∧ q.1.2 = 2) := by decide
        exact this p hp
      rw [k6 p.1.1 _ (by omega) hl.2]
      exact hL.2 p hp
  refine ⟨(by first | exact hL.t30 | exact L1.t30 | exact (hC.lay hS).t30 | (rw [T1]; exact hL.t30) | (rw [b1]; exact hL.t30)), _, r_pattern tx n m1 L1 ⟨by rw [k5 30 4 (by omega) (by omega) (by omega)]; exact hnn, by omega⟩ (fun k hk => by rw [k5 33 k (by omega) (by omega) (by omega), htx0]; exact ⟨rfl, (g1.2 k (by omega)).2⟩), fun y m2 hq => ?_⟩
  obtain ⟨I_, hm2, hF, w4, hy⟩ := hq
  have I2 : mI m2 = I_ := by rw [← hm2]; rfl
  have T2 : mT m2 = mT m1 := by rw [← hm2]; rfl
  have R2 : mR m2 = mR m1 := by rw [← hm2]; rfl
  have N2 : mN m2 = mN m1 := by rw [← hm2]; rfl
  have Z2 : mZ m2 = mZ m1 := by rw [← hm2]; rfl
  have fr : ∀ o k, o < mN m → ¬ (o = 13 ∧ k = 1 ∨ o = M ∧ k = 3 ∨ (34 ≤ o ∧ o ≤ 43) ∨ o = 31 ∨ (o = 30 ∧ k ≠ 2 ∧ k ≠ 22 ∧ k ≠ 27)) → mI m2 o k = mI m o k := fun o k ho h1 => by
    rw [I2, hF o k (by omega) (by omega) (by omega)]
    exact k5 o k ho (by omega) (by omega)
  have Rf : ∀ o k, o < mN m → ¬ (o = 1 ∧ k = 2) → mR m2 o k = mR m o k := fun o k ho h1 => by rw [R2]; exact k6 o k ho h1
  have Tf : ∀ o, o < mN m → mT m2 o = mT m o := fun o ho => by rw [T2]; exact k3 o ho
  obtain ⟨hroom, harr⟩ := h.grow (m1 := m2) (by omega) (by omega) (by omega) Tf (fun k => Rf 9 k (by omega) (by omega))
  have zF : FrS m m2 := ⟨by omega, Tf, fun A _ hA => by unfold noFa at *; rw [Rf 9 2 (by omega) (by omega), Rf 9 4 (by omega) (by omega)]; exact hA, fun x k h5 hx => Rf x k hx (by omega), fun x k h5 hx _ => fr x k hx (by omega), Rf 0 6 (by omega) (by omega)⟩
  have L2 : Lay (mT m2) (mR m2) := by rw [T2, R2]; exact L1
  have hkep : KepG m2 := hk.fr ha hn zF (fun o k ho => fr o k (by omega) (by omega))
  have htap : TapG m2 := by
    have e13 : mI m2 13 1 = 0 := by rw [I2, hF 13 1 (by omega) (by omega) (by omega)]; exact k4
    have e30 : mI m2 30 4 = 0 := by rw [I2]; exact w4
    exact ⟨by omega, fun k hk => by omega⟩
  have hfour : TapG m2 ∧ PapG m2 ∧ LstG m2 ∧ LtrG m2 := ⟨htap, g2.fr (fun o k ho => fr o k (by omega) (by omega)), g3.fr (fun o k ho => fr o k (by omega) (by omega)), g4.fr (fun o k ho => fr o k (by omega) (by omega))⟩
  have t1 : SitL (mT m2) (mR m2) 1 M := ⟨L2.t1, L2.r1_0, L2.r1_1, (Rf 1 3 (by omega) (by omega)).trans r1, L2.t2, L2.r2_0, L2.t3, L2.t4, L2.mat hM'⟩
  rcases k7 with ⟨c1, hx, kp, km⟩ | ⟨c1, hx, kp, km, kH⟩
  · rcases hy with ⟨_, hy, f31⟩ | ⟨c2, _⟩
    · have f31 : ∀ k, mI m2 31 k = mI m 31 k := fun k => by rw [I2, f31 k]; exact J31 k
      have fM : ∀ x k, M ≤ x → x ≤ M + 3 → mI m2 x k = mI m x k := fun x k h1 h2 => by
        by_cases c3 : x = M ∧ k = 3
        · rw [c3.1, c3.2, I2, hF M 3 (by omega) (by omega) (by omega)]; exact km
        · exact fr x k (by omega) (by omega)
      exact ⟨by rw [hy, hx], ⟨hroom, L2, harr⟩, hfour, hkep, M, M2, hM, (Rf 1 3 (by omega) (by omega)).trans r1, (Rf 0 5 (by omega) (by omega)).trans r2, t1, s2.fr (fr _ _ (by omega) (by omega)) (fun k _ => fr _ _ (by omega) (by omega)) (fun k _ => f31 k), s3.fr (fun k _ _ => fr _ _ (by omega) (by omega)) (fun k _ _ => f31 k), s4.fr zF.m (by rw [R2]; exact kp) (fun k _ _ => f31 k), s5.fr zF.m (fun w _ => Rf _ _ (by omega) (by omega)) (fun k _ _ => f31 k), s6.mv fM (f31 _) (fun k _ => f31 k)⟩
    · exact absurd c2 c1
  · rcases hy with ⟨c2, _⟩ | ⟨_, hy, y1, y2, y3, y4⟩
    · exact absurd c1 c2
    · have f31 : ∀ k, k ≠ 3336 → ¬ (65 ≤ k ∧ k < 66 + n) → mI m2 31 k = mI m 31 k := fun k h1 h2 => by rw [I2, y4 k h1 h2]; exact J31 k
      obtain ⟨w1, w2, _⟩ := pat_wf c1 _ _ _ rfl rfl rfl
      have hA := kA c1
      obtain ⟨A, L, b1, b2, b3, b4, b5, b6, b7, b8, b9, b10, b11, b12⟩ := kH
      rw [hA] at b2
      cases Option.some.inj b2
      have kHB : HasPB m2 (mN m + 1) (mN m + 2) L (altL tx n 5 S0).2.2.2.2 (altL tx n 5 S0).2.2.2.1 := ⟨by rw [T2]; exact b1, by rw [R2]; exact hA, by rw [T2]; exact b3, b4, b5, b6, by omega, by omega, by rw [I2, hF _ _ (by omega) (by omega) (by omega)]; exact b9, b10, b11, fun p w hp hw => by rw [I2, hF _ _ (by omega) (by omega) (by omega)]; exact b12 p w hp hw⟩
      have nf : ∀ X, mN m ≤ X → noFr m2 X := fun X hX => by
        have q := ha.new hX
        have q2 := hk.new hX
        unfold noFr noFa at *
        rw [Rf 9 2 (by omega) (by omega), Rf 9 4 (by omega) (by omega), Rf 0 6 (by omega) (by omega)]
        exact ⟨q, q2⟩
      refine ⟨by rw [hy, hx], ⟨hroom, L2, harr⟩, hfour, hkep, M, M2, hM, (Rf 1 3 (by omega) (by omega)).trans r1, (Rf 0 5 (by omega) (by omega)).trans r2, t1, s2.fr (fr _ _ (by omega) (by omega)) (fun k _ => fr _ _ (by omega) (by omega)) (fun k _ => f31 k (by omega) (by omega)), s3.fr (fun k _ _ => fr _ _ (by omega) (by omega)) (fun k _ _ => f31 k (by omega) (by omega)), ⟨tx, n, ⟨by rw [I2]; exact y2, by omega, fun k hk => by rw [I2, y3 k hk]; exact ⟨rfl, (htx k hk).2⟩⟩, Or.inr ⟨by omega, c1, mN m + 1, mN m + 2, L, by rw [R2]; exact kp, kHB, nf _ (by omega), nf _ (by omega)⟩⟩, s5.fr zF.m (fun w _ => Rf _ _ (by omega) (by omega)) (fun k _ _ => f31 k (by omega) (by omega)), MatG.nil ?_ (by rw [I2]; exact y1)⟩
      rw [I2, hF M 3 (by omega) (by omega) (by omega)]; exact km

theorem op_define {tt : Nat} {m : Mem} (h : Inv tt m) (ht : tt ≤ 512) : Op tt m μX10_define μX11_define 22 20 [] := by
  obtain ⟨⟨hr, hL, ha⟩, ⟨g1, g2, g3, g4⟩, hk, M, M2, hM, r1, r2, s1, s2, s3, s4, s5, s6⟩ := id h
  have hM' : M = 5 ∨ M = 18 := by omega
  have e1 : mI m 2 1 = mI m 31 64 ∧ 0 ≤ mI m 31 64 ∧ mI m 31 64 ≤ 32 := s2.1
  have e2 : ∀ k, k < 64 → mI m 3 k = mI m 31 k ∧ -999 ≤ mI m 31 k ∧ mI m 31 k ≤ 1000 := s2.2
  have e3 := g1.1
  have tM := hL.mat hM'
  have hn := hr.1
  have hz : lnA m ≤ 65536 ∧ lnB m ≤ 65536 := by
    obtain ⟨A0, B0, LA0, LB0, a1, a2, a3, a4, a5, a6, a7, a8, a9⟩ := id ha
    unfold lnA lnB
    rw [a1, a5]
    show (mT m A0).2 ≤ 65536 ∧ (mT m B0).2 ≤ 65536
    rw [a2, a6]
    exact ⟨a4, a8⟩
  obtain ⟨n, hnn⟩ : ∃ n : Nat, mI m 30 4 = (n : Int) := ⟨(mI m 30 4).toNat, by omega⟩
  have u := hr
  unfold RmG at u
  have htx : ∀ k, k < n → mI m 14 k = (fun k => mI m 33 k) k ∧ 1 ≤ (fun k => mI m 33 k) k ∧ (fun k => mI m 33 k) k ≤ 127 := fun k hk => g1.2 k (by omega)
  obtain ⟨tx, htx0⟩ : ∃ tx : Nat → Int, tx = fun k => mI m 33 k := ⟨_, rfl⟩
  rw [← htx0] at htx
  refine ⟨_, c_define2 tx n m M hL r1 tM.1 hM' ⟨by omega, by omega⟩ htx ⟨hn, by unfold NN; omega, by unfold ZZ; omega⟩, fun x m1 hp => ?_⟩
  obtain ⟨_, k1, k1', k2, k3, k4, k5, k6, k7⟩ := hp
  have J31 : ∀ k, mI m1 31 k = mI m 31 k := fun k => k5 31 k (by omega) (by omega) (by omega)
  have L1 : Lay (mT m1) (mR m1) := by
    refine ⟨fun p hp => ?_, fun p hp => ?_⟩
    · have hl : p.1 < 59 := by
        have : ∀ q ∈ layT, q.1 < 59 := by decide
        exact this p hp
      rw [k3 p.1 (by omega)]
      exact hL.1 p hp
    · have hl : p.1.1 < 59 ∧ p.1.1 ≠ 4 := by
        have : ∀ q ∈ layR, q.1.1 < 59 ∧ q.1.1 ≠ 4 := by decide
        exact this p hp
      rw [k6 p.1.1 _ (by omega) hl.2]
      exact hL.2 p hp
  refine ⟨(by first | exact hL.t30 | exact L1.t30 | exact (hC.lay hS).t30 | (rw [T1]; exact hL.t30) | (rw [b1]; exact hL.t30)), _, r_define tx n m1 L1 ⟨by rw [k5 30 4 (by omega) (by omega) (by omega)]; exact hnn, by omega⟩ (fun k hk => by rw [k5 33 k (by omega) (by omega) (by omega), htx0]; exact ⟨rfl, (g1.2 k (by omega)).2⟩) ⟨by rw [J31]; exact e1.2.1, by rw [J31]; exact e1.2.2, by rw [k5 30 27 (by omega) (by omega) (by omega)]; exact g4.2.2, fun k hk => by rw [J31]; exact (e2 k hk).2⟩, fun y m2 hq => ?_⟩
  obtain ⟨I_, hm2, hF, w4, w27, hy⟩ := hq
  have I2 : mI m2 = I_ := by rw [← hm2]; rfl
  have T2 : mT m2 = mT m1 := by rw [← hm2]; rfl
  have R2 : mR m2 = mR m1 := by rw [← hm2]; rfl
  have N2 : mN m2 = mN m1 := by rw [← hm2]; rfl
  have Z2 : mZ m2 = mZ m1 := by rw [← hm2]; rfl
  have fr : ∀ o k, o < mN m → ¬ (o = 13 ∧ k = 1 ∨ o = M ∧ k = 3 ∨ o = 34 ∨ (46 ≤ o ∧ o ≤ 48) ∨ o = 31 ∨ (o = 30 ∧ k ≠ 2 ∧ k ≠ 22)) → mI m2 o k = mI m o k := fun o k ho h1 => by
    rw [I2, hF o k (by omega) (by omega) (by omega) (by omega)]
    exact k5 o k ho (by omega) (by omega)
  have Rf : ∀ o k, o < mN m → o ≠ 4 → mR m2 o k = mR m o k := fun o k ho h1 => by rw [R2]; exact k6 o k ho h1
  have Tf : ∀ o, o < mN m → mT m2 o = mT m o := fun o ho => by rw [T2]; exact k3 o ho
  obtain ⟨hroom, harr⟩ := h.grow (m1 := m2) (by omega) (by omega) (by omega) Tf (fun k => Rf 9 k (by omega) (by omega))
  have zF : FrS m m2 := ⟨by omega, Tf, fun A _ hA => by unfold noFa at *; rw [Rf 9 2 (by omega) (by omega), Rf 9 4 (by omega) (by omega)]; exact hA, fun x k h5 hx => Rf x k hx (by omega), fun x k h5 hx _ => fr x k hx (by omega), Rf 0 6 (by omega) (by omega)⟩
  have L2 : Lay (mT m2) (mR m2) := by rw [T2, R2]; exact L1
  have hkep : KepG m2 := hk.fr ha hn zF (fun o k ho => fr o k (by omega) (by omega))
  have htap : TapG m2 := by
    have e13 : mI m2 13 1 = 0 := by rw [I2, hF 13 1 (by omega) (by omega) (by omega) (by omega)]; exact k4
    have e30 : mI m2 30 4 = 0 := by rw [I2]; exact w4
    exact ⟨by omega, fun k hk => by omega⟩
  have hltr : LtrG m2 := ⟨fun k hk => by rw [fr 10 k (by omega) (by omega), fr 45 k (by omega) (by omega)]; exact g4.1 k hk, fun k => by rw [fr 45 k (by omega) (by omega)]; exact g4.2.1 k, by rw [I2]; exact w27⟩
  have hfour : TapG m2 ∧ PapG m2 ∧ LstG m2 ∧ LtrG m2 := ⟨htap, g2.fr (fun o k ho => fr o k (by omega) (by omega)), g3.fr (fun o k ho => fr o k (by omega) (by omega)), hltr⟩
  have t1 : SitL (mT m2) (mR m2) 1 M := ⟨L2.t1, L2.r1_0, L2.r1_1, (Rf 1 3 (by omega) (by omega)).trans r1, L2.t2, L2.r2_0, L2.t3, L2.t4, L2.mat hM'⟩
  rcases k7 with ⟨c1, hx, kp, km⟩ | ⟨c1, hx, km, kH⟩
  · rcases hy with ⟨_, hy, f31⟩ | ⟨c2, _⟩
    · have f31 : ∀ k, mI m2 31 k = mI m 31 k := fun k => by rw [I2, f31 k]; exact J31 k
      have fM : ∀ x k, M ≤ x → x ≤ M + 3 → mI m2 x k = mI m x k := fun x k h1 h2 => by
        by_cases c3 : x = M ∧ k = 3
        · rw [c3.1, c3.2, I2, hF M 3 (by omega) (by omega) (by omega) (by omega)]; exact km
        · exact fr x k (by omega) (by omega)
      exact ⟨by rw [hy, hx], ⟨hroom, L2, harr⟩, hfour, hkep, M, M2, hM, (Rf 1 3 (by omega) (by omega)).trans r1, (Rf 0 5 (by omega) (by omega)).trans r2, t1, s2.fr (fr _ _ (by omega) (by omega)) (fun k _ => fr _ _ (by omega) (by omega)) (fun k _ => f31 k), s3.fr (fun k _ _ => fr _ _ (by omega) (by omega)) (fun k _ _ => f31 k), s4.fr zF.m (Rf _ _ (by omega) (by omega)) (fun k _ _ => f31 k), s5.fr zF.m (fun w _ => by rw [R2]; exact kp w) (fun k _ _ => f31 k), s6.mv fM (f31 _) (fun k _ => f31 k)⟩
    · exact absurd c2 c1
  · rcases hy with ⟨c2, _⟩ | ⟨_, hy, y1, y2, y4⟩
    · exact absurd c1 c2
    · have f31 : ∀ k, k ≠ 3336 → ¬ (186 ≤ k ∧ k < 3332) → mI m2 31 k = mI m 31 k := fun k h1 h2 => by rw [I2, y4 k h1 h2]; exact J31 k
      have nf : ∀ X, mN m ≤ X → noFr m2 X := fun X hX => by
        have q := ha.new hX
        have q2 := hk.new hX
        unfold noFr noFa at *
        rw [Rf 9 2 (by omega) (by omega), Rf 9 4 (by omega) (by omega), Rf 0 6 (by omega) (by omega)]
        exact ⟨q, q2⟩
      have hcnd : CndG m2 4 31 := fun w hw => by
        have a1 := kH w hw
        have a2 := y2 w hw
        cases hl : lastP (defL tx n (n + 1) (true, 0)).1 (w : Int) with
        | none =>
          rw [hl] at a1 a2
          obtain ⟨t, nt, ⟨h1, h2, h3⟩, h4⟩ := s5 w hw
          have f : ∀ j, j < 121 → mI m2 31 (186 + 121 * w + j) = mI m 31 (186 + 121 * w + j) := fun j hj => by rw [I2, a2 j hj]; exact J31 _
          refine ⟨t, nt, ⟨(f 0 (by omega)).trans h1, h2, fun k hk => ?_⟩, ?_⟩
          · have e := f (1 + k) (by omega)
            rw [show 186 + 121 * w + (1 + k) = 187 + 121 * w + k by omega] at e
            rw [e]; exact h3 k hk
          · have hC : mR m2 4 w = mR m 4 w := by rw [R2]; exact a1
            rcases h4 with ⟨h5, h6⟩ | ⟨h5, h6, h7⟩
            · exact Or.inl ⟨h5, hC.trans h6⟩
            · exact Or.inr ⟨h5, h6, h7.frm zF.m hC⟩
        | some p =>
          rw [hl] at a1 a2
          have a1 : CdN (mN m) m1 4 w p.2.2.2 := a1
          have a2 : mI m2 31 (186 + 121 * w) = ((p.2.2.1 - p.2.1 : Nat) : Int) ∧ ∀ j, j < p.2.2.1 - p.2.1 → mI m2 31 (187 + 121 * w + j) = tx (p.2.1 + j) := by rw [I2]; exact a2
          obtain ⟨d1, d2, d3, d4, d5, d6⟩ := defL_ok (n + 1) (true, 0) (Nat.zero_le _) c1.1 c1.2 p (lastP_mem hl)
          refine ⟨fun k => tx (p.2.1 + k), p.2.2.1 - p.2.1, ⟨a2.1, by omega, fun k hk => ?_⟩, ?_⟩
          · rw [a2.2 k hk]
            exact ⟨rfl, (htx (p.2.1 + k) (by omega)).2⟩
          · rcases d6 with ⟨e1', e2'⟩ | ⟨e1', e2', e3'⟩
            · rw [e1'] at a1
              exact Or.inl ⟨by omega, by rw [R2]; exact a1⟩
            · have hs : Sub tx n p.2.1 (fun k => tx (p.2.1 + k)) (p.2.2.1 - p.2.1) := ⟨fun _ _ => rfl, by omega, fun hh => by rw [show p.2.1 + (p.2.2.1 - p.2.1) = p.2.2.1 by omega] at hh ⊢; exact d5 hh⟩
              have hsh := eitL_sh hs 4 (S := (true, 0)) (Nat.zero_le _)
              have hsh : eitL tx n 4 (true, p.2.1) = shR p.2.1 (eitL (fun k => tx (p.2.1 + k)) (p.2.2.1 - p.2.1) 4 (true, 0)) := hsh
              rw [hsh] at e1' e2'
              rw [e1'] at a1
              obtain ⟨c, z1, A, z2, z3, z4, z5, z6, z7, z8, z9, z10, z11⟩ := a1
              have hC : CdF m2 4 w (eitL (fun k => tx (p.2.1 + k)) (p.2.2.1 - p.2.1) 4 (true, 0)).1 := ⟨c, A, by rw [R2]; exact z1, ⟨by rw [T2]; exact z2, by rw [R2]; exact z3, by rw [T2]; exact z4, by omega, by omega, by omega, by omega, fun k x hx => by rw [I2, hF A k (by omega) (by omega) (by omega) (by omega)]; exact z9 k x hx, z10, z11⟩, nf _ z5, nf _ z6⟩
              refine Or.inr ⟨by omega, ?_, hC⟩
              exact congrArg Prod.fst e2'
      refine ⟨by rw [hy, hx], ⟨hroom, L2, harr⟩, hfour, hkep, M, M2, hM, (Rf 1 3 (by omega) (by omega)).trans r1, (Rf 0 5 (by omega) (by omega)).trans r2, t1, s2.fr (fr _ _ (by omega) (by omega)) (fun k _ => fr _ _ (by omega) (by omega)) (fun k _ => f31 k (by omega) (by omega)), s3.fr (fun k _ _ => fr _ _ (by omega) (by omega)) (fun k _ _ => f31 k (by omega) (by omega)), s4.fr zF.m (Rf _ _ (by omega) (by omega)) (fun k _ _ => f31 k (by omega) (by omega)), hcnd, MatG.nil ?_ (by rw [I2]; exact y1)⟩
      rw [I2, hF M 3 (by omega) (by omega) (by omega) (by omega)]; exact km
