/-! image(), undo(): class and reference in one step -/
theorem SitG.cp {m m' : Mem} {S M o S2 M2 o2 : Nat} (hF : FrM m m') (hs : SitL (mT m') (mR m') S M) (b1 : mI m' (S + 1) 1 = mI m (S2 + 1) 1) (b2 : ∀ k, k < 64 → mI m' (S + 2) k = mI m (S2 + 2) k) (b3 : mI m' M 3 = mI m M2 3) (b4 : ∀ k, k < 33 → mI m' (M + 1) k = mI m (M2 + 1) k) (b5 : ∀ k, k < 33 → mI m' (M + 2) k = mI m (M2 + 2) k) (b6 : ∀ k, k < 1056 → mI m' (M + 3) k = mI m (M2 + 3) k) (b7 : ∀ k, 4 ≤ k → k ≤ 7 → mI m' S k = mI m S2 k) (b8 : ∀ k, k < 26 → mR m' (S + 3) k = mR m (S2 + 3) k) (b9 : mR m' S 2 = mR m S2 2) (hI : ∀ k, k < 4459 → mI m' o k = mI m o2 k) (h : SitG m S2 M2 o2) : SitG m' S M o :=
  ⟨hs, h.2.1.fr b1 b2 (fun k _ => hI k (by omega)), h.2.2.1.fr b7 (fun k _ _ => hI k (by omega)), h.2.2.2.1.fr hF b9 (fun k _ _ => hI k (by omega)), h.2.2.2.2.1.fr hF b8 (fun k _ _ => hI k (by omega)), h.2.2.2.2.2.fr b3 b4 b5 b6 h.2.1.1.2.2 (hI 64 (by omega)) (fun k _ h => hI k h)⟩
/-- the conditions' and the pattern's objects -/
theorem CndG.el {m : Mem} {C o : Nat} (h : CndG m C o) : ∀ k q, k < 26 → mR m C k = some q → mT m q = (0, 1) ∧ q < mN m := fun k q hk hq => by
  obtain ⟨tx, n, _, h4⟩ := h k hk
  rcases h4 with ⟨_, h6⟩ | ⟨_, _, c, A, h7, h8, _⟩
  · rw [h6] at hq; cases hq
  · rw [h7] at hq; cases Option.some.inj hq
    exact ⟨h8.1, h8.2.2.2.2.2.1⟩
theorem PatG.el {m : Mem} {S o : Nat} (h : PatG m S o) : ∀ q, mR m S 2 = some q → mT m q = (4, 2) ∧ q < mN m := fun q hq => by
  obtain ⟨tx, n, _, h4⟩ := h
  rcases h4 with ⟨_, h6⟩ | ⟨_, _, P, A, L, h7, h8, _⟩
  · rw [h6] at hq; cases hq
  · rw [h7] at hq; cases Option.some.inj hq
    exact ⟨h8.1, h8.2.2.2.2.2.2.1⟩
theorem Inv.small {tt : Nat} {m : Mem} (h : Inv tt m) (ht : tt ≤ 512) : mN m + 100000 ≤ NN ∧ mZ m + 100000 ≤ ZZ ∧ 59 ≤ mN m := by
  obtain ⟨⟨hr, hL, ha⟩, _⟩ := h
  obtain ⟨A0, B0, LA0, LB0, a1, a2, a3, a4, a5, a6, a7, a8, a9⟩ := ha
  have hz : lnA m ≤ 65536 ∧ lnB m ≤ 65536 := by
    unfold lnA lnB
    rw [a1, a5]
    show (mT m A0).2 ≤ 65536 ∧ (mT m B0).2 ≤ 65536
    rw [a2, a6]
    exact ⟨a4, a8⟩
  obtain ⟨u1, u2, u3⟩ := hr
  unfold NN ZZ
  omega
/-- behind the class's image(): the image K is what is now -/
def ImgF (m m1 : Mem) (M K : Nat) : Prop := (mN m ≤ mN m1 ∧ mN m1 ≤ mN m + 8 ∧ mZ m1 ≤ mZ m + 1226 ∧ K + 8 ≤ mN m1 ∧ 59 ≤ K) ∧ (mR m1 0 6 = some K ∧ SitL (mT m1) (mR m1) K (K + 4) ∧ noFa m1 (K + 7)) ∧ (∀ o, o < mN m → mT m1 o = mT m o) ∧ (∀ o k, o < mN m → ¬ (K ≤ o ∧ o < K + 8) → mI m1 o k = mI m o k) ∧ (∀ o k, o < mN m → ¬ (K ≤ o ∧ o < K + 8) → ¬ (o = 0 ∧ k = 6) → mR m1 o k = mR m o k) ∧ (∀ A, A < mN m → noFr m A → ¬ (K ≤ A ∧ A < K + 8)) ∧ (mI m1 (K + 1) 1 = mI m 2 1 ∧ (∀ k, k < 64 → mI m1 (K + 2) k = mI m 3 k) ∧ mI m1 (K + 4) 3 = mI m M 3 ∧ (∀ k, k < 33 → mI m1 (K + 4 + 1) k = mI m (M + 1) k) ∧ (∀ k, k < 33 → mI m1 (K + 4 + 2) k = mI m (M + 2) k) ∧ (∀ k, k < 1056 → mI m1 (K + 4 + 3) k = mI m (M + 3) k) ∧ (∀ k, 4 ≤ k → k ≤ 7 → mI m1 K k = mI m 1 k) ∧ (∀ k, k < 26 → mR m1 (K + 3) k = mR m 4 k) ∧ mR m1 K 2 = mR m 1 2)
theorem ImgF.ofS {m m1 : Mem} {M K : Nat} (hM : M = 5 ∨ M = 18) (hB : SitB m m1 K (K + 4) 1 M) (h59 : 59 ≤ K) (hN : K + 8 ≤ mN m) (h0 : mR m 0 6 = some K) (hs : SitL (mT m) (mR m) K (K + 4)) (hn : noFa m (K + 7)) : ImgF m m1 M K := by
  obtain ⟨b1, b2, b3, b4, b5, b6, b7, b8, b9, b10, b11, b12, b13, b14⟩ := hB
  refine ⟨⟨by omega, by omega, by omega, by omega, h59⟩, ⟨(b14 _ _ (by omega) (by omega)).trans h0, hs.mv (fun o _ => congrFun b1 o) (fun o k ho hk => b14 o k (by omega) hk) (by omega), ?_⟩, fun o _ => congrFun b1 o, fun o k ho hk => b11 o k (by omega) (by omega) (by omega) (by omega), fun o k ho hk _ => b14 o k (by omega) (by omega), fun A hA hnA => hnA.2 K h0, b4, b5, b6, b7, b8, b9, b10, b12, b13⟩
  unfold noFa at *
  rw [b14 9 2 (by omega) (by omega), b14 9 4 (by omega) (by omega)]
  exact hn
theorem ImgF.ofN {m m1 : Mem} {M : Nat} (hM : M = 5 ∨ M = 18) (hB : ImgN m m1 M) (h59 : 59 ≤ mN m) (h0 : mR m 0 6 = none) (ha : ArrG m) : ImgF m m1 M (mN m) := by
  obtain ⟨mm, hS, b1, b2, b3, b4, b5, b6, b7, b8, b9, b10, b11, b12, b13, b14⟩ := hB
  rw [mN_setR] at b2
  rw [mZ_setRs] at b3
  rw [mI_setR] at b4 b5 b6 b7 b8 b9 b10 b11
  have n1 : mN mm = mN m + 8 := hS.2.1
  have z1 : mZ mm = mZ m + 8 + 1218 := hS.2.2.1
  have RR : ∀ o k, o < mN m → ¬ (o = 0 ∧ k = 6) → mR m1 o k = mR m o k := fun o k ho hk => (b14 o k (by omega) (by omega)).trans ((mR_setne (by omega)).trans (hS.oR ho))
  have hnf := ha.new (A := mN m + 7) (by omega)
  refine ⟨⟨by omega, by omega, by omega, by omega, h59⟩, ⟨(b14 _ _ (by omega) (by omega)).trans mR_sets, hS.1.mv (fun o _ => (congrFun b1 o).trans (congrFun mT_setR o)) (fun o k ho hk => (b14 o k (by omega) hk).trans (mR_setne (by omega))) (by omega), ?_⟩, fun o ho => (congrFun b1 o).trans ((congrFun mT_setR o).trans (hS.oT ho)), fun o k ho hk => (b11 o k (by omega) (by omega) (by omega) (by omega)).trans (hS.oI ho), fun o k ho _ hk => RR o k ho hk, fun A hA _ => by omega, b4.trans (hS.oI (by omega)), fun k hk => (b5 k hk).trans (hS.oI (by omega)), b6.trans (hS.oI (by omega)), fun k hk => (b7 k hk).trans (hS.oI (by omega)), fun k hk => (b8 k hk).trans (hS.oI (by omega)), fun k hk => (b9 k hk).trans (hS.oI (by omega)), fun k h4 h7 => (b10 k h4 h7).trans (hS.oI (by omega)), fun k hk => (b12 k hk).trans ((mR_setne (by omega)).trans (hS.oR (by omega))), b13.trans ((mR_setne (by omega)).trans (hS.oR (by omega)))⟩
  unfold noFa at *
  rw [RR 9 2 (by omega) (by omega), RR 9 4 (by omega) (by omega)]
  exact hnf
/-- both have an image -/
theorem Inv.img {tt : Nat} {m m1 m2 : Mem} {M M2 K : Nat} (h : Inv tt m) (hM : M = 5 ∧ M2 = 18 ∨ M = 18 ∧ M2 = 5) (r1 : mR m 1 3 = some M) (r2 : mR m 0 5 = some M2) (hG : SitG m 1 M 31) (hi : ImgF m m1 M K) (hm : setI (cpyI m1 31 0 32 0 4459) 30 2 1 = m2) : Inv (tt + 1) m2 := by
  obtain ⟨⟨i1, i2, i3, i4, i5⟩, ⟨i6, i7, i8⟩, iT, iI, iR, iA, b1, b2, b3, b4, b5, b6, b7, b8, b9⟩ := hi
  have h' := h
  obtain ⟨⟨hr, hL, ha⟩, ⟨g1, g2, g3, g4⟩, _, _⟩ := h
  have hn := hr.1
  have T2 : mT m2 = mT m1 := by rw [← hm]; rfl
  have R2 : mR m2 = mR m1 := by rw [← hm]; rfl
  have N2 : mN m2 = mN m1 := by rw [← hm]; rfl
  have Z2 : mZ m2 = mZ m1 := by rw [← hm]; rfl
  have I2 : ∀ o k, mI m2 o k = (if o = 30 ∧ k = 2 then 1 else if o = 32 ∧ 0 ≤ k ∧ k < 0 + 4459 then mI m1 31 (0 + (k - 0)) else mI m1 o k) := fun o k => by rw [← hm]; rfl
  clear hm
  have Is : ∀ o k, ¬ (o = 30 ∧ k = 2 ∨ o = 32) → mI m2 o k = mI m1 o k := fun o k ho => by rw [I2, if_neg (by omega), if_neg (by omega)]
  have fr : ∀ o k, o < mN m → ¬ (K ≤ o ∧ o < K + 8) → ¬ (o = 30 ∧ k = 2 ∨ o = 32) → mI m2 o k = mI m o k := fun o k ho hk h1 => (Is o k h1).trans (iI o k ho hk)
  have Rf : ∀ o k, o < mN m → ¬ (K ≤ o ∧ o < K + 8) → ¬ (o = 0 ∧ k = 6) → mR m2 o k = mR m o k := fun o k ho hk h1 => by rw [R2]; exact iR o k ho hk h1
  have Tf : ∀ o, o < mN m → mT m2 o = mT m o := fun o ho => by rw [T2]; exact iT o ho
  obtain ⟨hroom, harr⟩ := h'.grow (m1 := m2) (by omega) (by omega) (by omega) Tf (fun k => Rf 9 k (by omega) (by omega) (by omega))
  have zF : FrM m m2 := ⟨by omega, Tf, fun A hA hnA => ⟨by
    have q := hnA.1
    unfold noFa at *
    rw [Rf 9 2 (by omega) (by omega) (by omega), Rf 9 4 (by omega) (by omega) (by omega)]
    exact q, fun K' hK' => by
    rw [R2, i6] at hK'
    cases Option.some.inj hK'
    exact iA A hA hnA⟩, fun x k h5 hx hnx => Rf x k hx (iA x hx hnx) (by omega), fun x k h5 hx hnx => fr x k hx (iA x hx hnx) (by omega)⟩
  have L2 : Lay (mT m2) (mR m2) := by
    refine ⟨fun p hp => ?_, fun p hp => ?_⟩
    · have hl : p.1 < 59 := by
        have : ∀ q ∈ layT, q.1 < 59 := by decide
        exact this p hp
      rw [Tf p.1 (by omega)]
      exact hL.1 p hp
    · have hl : p.1.1 < 59 ∧ ¬ (p.1.1 = 0 ∧ p.1.2 = 6) := by
        have : ∀ q ∈ layR, q.1.1 < 59 ∧ ¬ (q.1.1 = 0 ∧ q.1.2 = 6) := by decide
        exact this p hp
      rw [Rf p.1.1 _ (by omega) (by omega) hl.2]
      exact hL.2 p hp
  have hK32 : ∀ k, k < 4459 → mI m2 32 k = mI m 31 k := fun k hk => by
    rw [I2, if_neg (by omega), if_pos (by omega), iI _ _ (by omega) (by omega)]
    exact congrArg (mI m 31) (by omega)
  refine ⟨⟨hroom, L2, harr⟩, ⟨g1.fr (fun o k ho => fr o k (by omega) (by omega) (by omega)), g2.fr (fun o k ho => fr o k (by omega) (by omega) (by omega)), g3.fr (fun o k ho => fr o k (by omega) (by omega) (by omega)), g4.fr (fun o k ho => fr o k (by omega) (by omega) (by omega))⟩, Or.inr ⟨K, by rw [R2]; exact i6, by rw [I2, if_pos (by omega)], i5, by omega, by unfold noFa at *; rw [R2]; exact i8, SitG.cp zF (by rw [T2, R2]; exact i7) ((Is _ _ (by omega)).trans b1) (fun k hk => (Is _ _ (by omega)).trans (b2 k hk)) ((Is _ _ (by omega)).trans b3) (fun k hk => (Is _ _ (by omega)).trans (b4 k hk)) (fun k hk => (Is _ _ (by omega)).trans (b5 k hk)) (fun k hk => (Is _ _ (by omega)).trans (b6 k hk)) (fun k h4 h7 => (Is _ _ (by omega)).trans (b7 k h4 h7)) (fun k hk => by rw [R2]; exact b8 k hk) (by rw [R2]; exact b9) hK32 hG⟩, M, M2, hM, (Rf _ _ (by omega) (by omega) (by omega)).trans r1, (Rf _ _ (by omega) (by omega) (by omega)).trans r2, hG.fr zF (by omega) (fun x k hx => Rf x k (by omega) (by omega) (by omega)) (fun x k hx => fr x k (by omega) (by omega) (by omega))⟩

theorem op_image {tt : Nat} {m : Mem} (h : Inv tt m) (ht : tt ≤ 512) : Op tt m μX10_image μX11_image 4 1 [] := by
  obtain ⟨⟨hr, hL, ha⟩, ⟨g1, g2, g3, g4⟩, hk, M, M2, hM, r1, r2, s1, s2, s3, s4, s5, s6⟩ := id h
  have hM' : M = 5 ∨ M = 18 := by omega
  have e1 : mI m 2 1 = mI m 31 64 ∧ 0 ≤ mI m 31 64 ∧ mI m 31 64 ≤ 32 := s2.1
  have e2 : ∀ k, k < 64 → mI m 3 k = mI m 31 k ∧ -999 ≤ mI m 31 k ∧ mI m 31 k ≤ 1000 := s2.2
  have e3 := g1.1
  have tM := hL.mat hM'
  have hsm := h.small ht
  have hG : SitG m 1 M 31 := ⟨s1, s2, s3, s4, s5, s6⟩
  have fin : ∀ (x : Int) (m1 : Mem) (K : Nat), x = mI m1 2 1 → ImgF m m1 M K → mT m1 30 = (11, 53) ∧ ∃ Q : Int → Mem → Prop, Ct μX11_image 1 [vr 30] m1 (ri Q) ∧ ∀ y m2, Q y m2 → y = x ∧ Inv (tt + 1) m2 := fun x m1 K hx hi => by
    have iI := hi.2.2.2.1
    have iR := hi.2.2.2.2.1
    have iT := hi.2.2.1
    have i5 := hi.1.2.2.2.2
    have L1 : Lay (mT m1) (mR m1) := by
      refine ⟨fun p hp => ?_, fun p hp => ?_⟩
      · have hl : p.1 < 59 := by
          have : ∀ q ∈ layT, q.1 < 59 := by decide
          exact this p hp
        rw [iT p.1 (by omega)]
        exact hL.1 p hp
      · have hl : p.1.1 < 59 ∧ ¬ (p.1.1 = 0 ∧ p.1.2 = 6) := by
          have : ∀ q ∈ layR, q.1.1 < 59 ∧ ¬ (q.1.1 = 0 ∧ q.1.2 = 6) := by decide
          exact this p hp
        rw [iR p.1.1 _ (by omega) (by omega) hl.2]
        exact hL.2 p hp
    refine ⟨(by first | exact hL.t30 | exact L1.t30 | exact (hC.lay hS).t30 | (rw [T1]; exact hL.t30) | (rw [b1]; exact hL.t30)), _, r_image m1 L1, fun y m2 hq => ?_⟩
    obtain ⟨hy, hm2⟩ := hq
    refine ⟨?_, h.img hM r1 r2 hG hi hm2⟩
    rw [hy, hx, iI 31 64 (by omega) (by omega), iI 2 1 (by omega) (by omega)]
    exact e1.1.symm
  rcases hk with ⟨k1, k2⟩ | ⟨K, k1, k2, k3, k4, k5, k6⟩
  · refine ⟨_, c_imageN M m hL k1 s1 ⟨hM', by omega, by omega, by omega⟩ s5.el s4.el, fun x m1 hp => ?_⟩
    exact fin x m1 (mN m) hp.1 (ImgF.ofN hM' hp.2 (by omega) k1 ha)
  · refine ⟨_, c_imageS M K m hL k1 ⟨s1, k6.1⟩ ⟨hM', k3, by have := hsm.1; unfold NN at this; unfold SC; omega⟩ (fun k o hk ho => (s5.el k o hk ho).1) (fun o ho => ⟨(s4.el o ho).1, by have := (s4.el o ho).2; have := hsm.1; unfold NN at this; unfold SC; omega⟩), fun x m1 hp => ?_⟩
    exact fin x m1 K hp.1 (ImgF.ofS hM' hp.2 k3 k4 k1 k6.1 k5)
theorem op_undo {tt : Nat} {m : Mem} (h : Inv tt m) (ht : tt ≤ 512) : Op tt m μX10_undo μX11_undo 3 1 [] := by
  obtain ⟨⟨hr, hL, ha⟩, ⟨g1, g2, g3, g4⟩, hk, M, M2, hM, r1, r2, s1, s2, s3, s4, s5, s6⟩ := id h
  have hM' : M = 5 ∨ M = 18 := by omega
  have e1 : mI m 2 1 = mI m 31 64 ∧ 0 ≤ mI m 31 64 ∧ mI m 31 64 ≤ 32 := s2.1
  have e2 : ∀ k, k < 64 → mI m 3 k = mI m 31 k ∧ -999 ≤ mI m 31 k ∧ mI m 31 k ≤ 1000 := s2.2
  have e3 := g1.1
  have tM := hL.mat hM'
  have hsm := h.small ht
  have hn := hr.1
  rcases id hk with ⟨k1, k2⟩ | ⟨K, k1, k2, k3, k4, k5, k6⟩
  · refine ⟨_, c_undoN m hL k1, fun x m1 hp => ?_⟩
    obtain ⟨rfl, rfl⟩ := hp
    refine ⟨(by first | exact hL.t30 | exact L1.t30 | exact (hC.lay hS).t30 | (rw [T1]; exact hL.t30) | (rw [b1]; exact hL.t30)), _, r_undoN m hL k2, fun y m2 hq => ?_⟩
    obtain ⟨rfl, rfl⟩ := hq
    exact ⟨rfl, h.tick⟩
  · refine ⟨_, c_undoS M K m hL k1 ⟨s1, k6.1⟩ ⟨hM', k3, by have := hsm.1; unfold NN at this; unfold SC; omega⟩ (fun k o hk ho => (k6.2.2.2.2.1.el k o hk ho).1) (fun o ho => ⟨(k6.2.2.2.1.el o ho).1, by have := (k6.2.2.2.1.el o ho).2; have := hsm.1; unfold NN at this; unfold SC; omega⟩), fun x m1 hp => ?_⟩
    obtain ⟨hx, b1, b2, b3, b4, b5, b6, b7, b8, b9, b10, b11, b12, b13, b14⟩ := hp
    have L1 : Lay (mT m1) (mR m1) := by
      rw [b1]
      refine ⟨hL.1, fun p hp => ?_⟩
      have hl : ¬ (p.1.1 = 1 + 3 ∧ p.1.2 < 26) ∧ ¬ (p.1.1 = 1 ∧ p.1.2 = 2) := by
        have : ∀ q ∈ layR, ¬ (q.1.1 = 1 + 3 ∧ q.1.2 < 26) ∧ ¬ (q.1.1 = 1 ∧ q.1.2 = 2) := by decide
        exact this p hp
      rw [b14 _ _ hl.1 hl.2]
      exact hL.2 p hp
    refine ⟨(by first | exact hL.t30 | exact L1.t30 | exact (hC.lay hS).t30 | (rw [T1]; exact hL.t30) | (rw [b1]; exact hL.t30)), _, r_undoS m1 L1 (by rw [b11 30 2 (by omega) (by omega) (by omega) (by omega)]; exact k2), fun y m2 hq => ?_⟩
    obtain ⟨hy, hm⟩ := hq
    have T2 : mT m2 = mT m := by rw [← hm]; exact b1
    have R2 : mR m2 = mR m1 := by rw [← hm]; rfl
    have N2 : mN m2 = mN m := by rw [← hm]; exact b2
    have Z2 : mZ m2 = mZ m := by rw [← hm]; exact b3
    have I2 : ∀ o k, mI m2 o k = (if o = 31 ∧ 0 ≤ k ∧ k < 0 + 4459 then mI m1 32 (0 + (k - 0)) else mI m1 o k) := fun o k => by rw [← hm]; rfl
    clear hm
    have Is : ∀ o k, o ≠ 31 → mI m2 o k = mI m1 o k := fun o k ho => by rw [I2, if_neg (by omega)]
    have fr : ∀ o k, ¬ ((1 ≤ o ∧ o ≤ 3) ∨ (M ≤ o ∧ o ≤ M + 3) ∨ o = 31) → mI m2 o k = mI m o k := fun o k ho => (Is o k (by omega)).trans (b11 o k (by omega) (by omega) (by omega) (by omega))
    have Rf : ∀ o k, ¬ (o = 4 ∨ o = 1 ∧ k = 2) → mR m2 o k = mR m o k := fun o k ho => by rw [R2]; exact b14 o k (by omega) (by omega)
    obtain ⟨hroom, harr⟩ := h.grow (m1 := m2) (by omega) (by omega) (by omega) (fun o _ => by rw [T2]) (fun k => Rf 9 k (by omega))
    have zF : FrS m m2 := ⟨by omega, fun o _ => by rw [T2], fun A _ hA => by unfold noFa at *; rw [Rf 9 2 (by omega), Rf 9 4 (by omega)]; exact hA, fun x k h5 hx => Rf x k (by omega), fun x k h5 hx _ => fr x k (by omega), Rf 0 6 (by omega)⟩
    have L2 : Lay (mT m2) (mR m2) := by rw [T2, R2, ← b1]; exact L1
    have r13 : mR m2 1 3 = some M := (Rf 1 3 (by omega)).trans r1
    have hI : ∀ k, k < 4459 → mI m2 31 k = mI m 32 k := fun k hk => by
      rw [I2, if_pos (by omega), b11 _ _ (by omega) (by omega) (by omega) (by omega)]
      exact congrArg (mI m 32) (by omega)
    refine ⟨?_, ⟨hroom, L2, harr⟩, ⟨g1.fr (fun o k ho => fr o k (by omega)), g2.fr (fun o k ho => fr o k (by omega)), g3.fr (fun o k ho => fr o k (by omega)), g4.fr (fun o k ho => fr o k (by omega))⟩, hk.fr ha hn zF (fun o k ho => fr o k (by omega)), M, M2, hM, r13, (Rf _ _ (by omega)).trans r2, SitG.cp zF.m ⟨L2.t1, L2.r1_0, L2.r1_1, r13, L2.t2, L2.r2_0, L2.t3, L2.t4, L2.mat hM'⟩ ((Is _ _ (by omega)).trans b4) (fun k hk => (Is _ _ (by omega)).trans (b5 k hk)) ((Is _ _ (by omega)).trans b6) (fun k hk => (Is _ _ (by omega)).trans (b7 k hk)) (fun k hk => (Is _ _ (by omega)).trans (b8 k hk)) (fun k hk => (Is _ _ (by omega)).trans (b9 k hk)) (fun k h4 h7 => (Is _ _ (by omega)).trans (b10 k h4 h7)) (fun k hk => by rw [R2]; exact b12 k hk) (by rw [R2]; exact b13) hI k6⟩
    have kt := k6.2.1.1.1
    rw [hy, hx, b11 32 64 (by omega) (by omega) (by omega) (by omega)]
    have b4' : mI m1 2 1 = mI m (K + 1) 1 := b4
    rw [b4', kt]
