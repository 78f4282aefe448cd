/-! THE LAW: what it has made when it begins to ask -/
def St1 (m : Mem) : Prop := St m 30 3397 [(29, 21, 40), (28, 2, 2), (27, 21, 40), (26, 2, 2), (25, 21, 40), (24, 2, 2), (23, 21, 40), (22, 2, 2), (21, 20, 1056), (20, 20, 33), (19, 20, 33), (18, 3, 4), (17, 22, 4), (16, 20, 120), (15, 9, 2), (14, 20, 120), (13, 9, 2), (12, 20, 320), (11, 20, 256), (10, 20, 32), (9, 6, 14), (8, 20, 1056), (7, 20, 33), (6, 20, 33), (5, 3, 4), (4, 23, 26), (3, 20, 64), (2, 8, 2), (1, 7, 8), (0, 10, 7)] [(17, 3, some 28), (28, 0, some 29), (17, 2, some 26), (26, 0, some 27), (17, 1, some 24), (24, 0, some 25), (17, 0, some 22), (22, 0, some 23), (0, 5, some 18), (18, 2, some 21), (18, 1, some 20), (18, 0, some 19), (0, 4, some 17), (0, 3, some 15), (15, 0, some 16), (0, 2, some 13), (13, 0, some 14), (0, 1, some 9), (9, 0, some 1), (9, 4, some 12), (9, 2, some 11), (9, 1, some 10), (0, 0, some 1), (1, 3, some 5), (5, 2, some 8), (5, 1, some 7), (5, 0, some 6), (1, 1, some 4), (1, 0, some 2), (2, 0, some 3)] [(28, 1, (-1)), (26, 1, (-1)), (24, 1, (-1)), (22, 1, (-1)), (1, 7, 5000), (1, 6, 1), (1, 4, 0)]
def In1 (m : Mem) : Prop := (mN m = 30 ∧ mZ m = 3397) ∧ Lay (mT m) (mR m) ∧ (mR m 1 3 = some 5 ∧ mR m 0 5 = some 18 ∧ mR m 9 2 = some 11 ∧ mR m 9 4 = some 12 ∧ ∀ w, mR m 4 w = none) ∧ (mT m 11 = (20, 256) ∧ mT m 12 = (20, 320)) ∧ (mI m 13 1 = 0 ∧ mI m 5 3 = 0 ∧ mI m 2 1 = 0 ∧ mI m 1 4 = 0 ∧ mI m 1 5 = 0) ∧ ∀ k, mI m 3 k = 0

set_option maxHeartbeats 4000000 in
theorem init_in1 {m : Mem} (h : St1 m) : In1 m := by
  refine ⟨⟨h.1, h.2.1⟩, ⟨fun p hp => ?_, fun p hp => ?_⟩, ⟨St.r h 1 3 rfl, St.r h 0 5 rfl, St.r h 9 2 rfl, St.r h 9 4 rfl, fun w => St.r h 4 w rfl⟩, ⟨St.t h 11 rfl rfl, St.t h 12 rfl rfl⟩, ⟨St.i h 13 1 rfl, St.i h 5 3 rfl, St.i h 2 1 rfl, St.i h 1 4 rfl, St.i h 1 5 rfl⟩, fun k => St.i h 3 k rfl⟩
  · have q : ∀ p ∈ layT, Nat.blt p.1 30 = true ∧ lkT [(29, 21, 40), (28, 2, 2), (27, 21, 40), (26, 2, 2), (25, 21, 40), (24, 2, 2), (23, 21, 40), (22, 2, 2), (21, 20, 1056), (20, 20, 33), (19, 20, 33), (18, 3, 4), (17, 22, 4), (16, 20, 120), (15, 9, 2), (14, 20, 120), (13, 9, 2), (12, 20, 320), (11, 20, 256), (10, 20, 32), (9, 6, 14), (8, 20, 1056), (7, 20, 33), (6, 20, 33), (5, 3, 4), (4, 23, 26), (3, 20, 64), (2, 8, 2), (1, 7, 8), (0, 10, 7)] p.1 = p.2 := by decide
    exact St.t h p.1 (q p hp).1 (q p hp).2
  · have q : ∀ p ∈ layR, lkR [(17, 3, some 28), (28, 0, some 29), (17, 2, some 26), (26, 0, some 27), (17, 1, some 24), (24, 0, some 25), (17, 0, some 22), (22, 0, some 23), (0, 5, some 18), (18, 2, some 21), (18, 1, some 20), (18, 0, some 19), (0, 4, some 17), (0, 3, some 15), (15, 0, some 16), (0, 2, some 13), (13, 0, some 14), (0, 1, some 9), (9, 0, some 1), (9, 4, some 12), (9, 2, some 11), (9, 1, some 10), (0, 0, some 1), (1, 3, some 5), (5, 2, some 8), (5, 1, some 7), (5, 0, some 6), (1, 1, some 4), (1, 0, some 2), (2, 0, some 3)] p.1.1 p.1.2 = some p.2 ∧ Nat.blt p.1.1 1000 = true := by decide
    exact St.r h p.1.1 p.1.2 (q p hp).1 (q p hp).2
theorem Lay.of38 {T T' : Nat → Nat × Nat} {R R' : Nat → Nat → Option Nat} (h : Lay T R) (hT : ∀ o, o < 30 → T' o = T o) (hR : ∀ o k, o < 30 → o ≠ 4 → ¬ (o = 1 ∧ k = 2) → R' o k = R o k) : Lay T' R' := by
  have k1 : ∀ p ∈ layT, p.1 < 30 := by decide +kernel
  have k2 : ∀ p ∈ layR, p.1.1 < 30 ∧ p.1.1 ≠ 4 ∧ ¬ (p.1.1 = 1 ∧ p.1.2 = 2) := by decide +kernel
  exact ⟨fun p hp => (hT _ (k1 p hp)).trans (h.1 p hp), fun p hp => (hR _ _ (k2 p hp).1 (k2 p hp).2.1 (k2 p hp).2.2).trans (h.2 p hp)⟩
theorem RwI.x {m0 m : Mem} {n : Nat} {v : Nat → Nat → Int} (h : RwI m0 m n n v) (hn : n ≤ 7) : RwX m (mN m0) n v := ⟨h.2.2.2.1, hn, by have := h.2.1; omega, fun r hr => h.2.2.2.2 r hr⟩
/-- the rows' numbers, nothing elsewhere -/
theorem RwI.bd {m0 m : Mem} {n : Nat} {v : Nat → Nat → Int} (h : RwI m0 m n n v) : ∃ v', RwI m0 m n n v' ∧ ∀ r c, -10 ≤ v' r c ∧ v' r c ≤ 1000 := by
  obtain ⟨h1, h2, h3, h4, h5⟩ := h
  refine ⟨fun r c => if r < n ∧ c < 2 then v r c else 0, ⟨h1, h2, h3, h4, fun k hk => ?_⟩, fun r c => ?_⟩
  · obtain ⟨g1, g2, g3, g4, g5⟩ := h5 k hk
    have e0 : (if k < n ∧ 0 < 2 then v k 0 else 0) = v k 0 := if_pos ⟨hk, by decide⟩
    have e1 : (if k < n ∧ 1 < 2 then v k 1 else 0) = v k 1 := if_pos ⟨hk, by decide⟩
    show mR m (mN m0) k = _ ∧ mT m (mN m0 + 1 + k) = _ ∧ (mI m (mN m0 + 1 + k) 0 = (if k < n ∧ 0 < 2 then v k 0 else 0) ∧ mI m (mN m0 + 1 + k) 1 = (if k < n ∧ 1 < 2 then v k 1 else 0)) ∧ (-10 ≤ (if k < n ∧ 0 < 2 then v k 0 else 0) ∧ (if k < n ∧ 0 < 2 then v k 0 else 0) ≤ 1000) ∧ -10 ≤ (if k < n ∧ 1 < 2 then v k 1 else 0) ∧ (if k < n ∧ 1 < 2 then v k 1 else 0) ≤ 1000
    rw [e0, e1]
    exact ⟨g1, g2, g3, g4, g5⟩
  · show -10 ≤ (if r < n ∧ c < 2 then v r c else 0) ∧ (if r < n ∧ c < 2 then v r c else 0) ≤ 1000
    by_cases d : r < n ∧ c < 2
    · rw [if_pos d]
      obtain ⟨g1, g2, g3, g4, g5⟩ := h5 r d.1
      rcases (show c = 0 ∨ c = 1 by omega) with rfl | rfl
      · exact g4
      · exact g5
    · rw [if_neg d]; omega
theorem In1.cnd {m1 m2 : Mem} {nn : Nat} {v : Nat → Nat → Int} (h1 : In1 m1) (h2 : RwI m1 m2 nn nn v) : Lay (mT m2) (mR m2) ∧ mR m2 1 3 = some 5 ∧ (mN m2 = 31 + nn ∧ mZ m2 = 3397 + 3 * nn) ∧ (mI m2 13 1 = 0 ∧ mI m2 5 3 = 0) ∧ ∀ w, w < 26 → mR m2 4 w = none := by
  obtain ⟨⟨n1, z1⟩, hL, ⟨r1, r2, r3, r4, r5⟩, -, ⟨i1, i2, -⟩, -⟩ := h1
  obtain ⟨hk, n2, z2, -⟩ := h2
  rw [n1] at hk
  have k := fun o (ho : o < 30) => hk o (Or.inl ho)
  exact ⟨hL.of38 (fun o ho => (k o ho).1) (fun o q ho _ _ => (k o ho).2.2 q), ((k 1 (by decide)).2.2 3).trans r1, ⟨by omega, by omega⟩, ⟨((k 13 (by decide)).2.1 1).trans i1, ((k 5 (by decide)).2.1 3).trans i2⟩, fun w _ => ((k 4 (by decide)).2.2 w).trans (r5 w)⟩
theorem CndR.lay {m2 m3 : Mem} {wv : Nat → Int} (h3 : CndR m2 m3 wv) (h30 : 30 ≤ mN m2) (hL : Lay (mT m2) (mR m2)) : Lay (mT m3) (mR m3) := hL.of38 (fun o ho => h3.2.1 o (by omega)) (fun o q ho h4 _ => h3.2.2.2.1 o q (by omega) h4)
theorem PtR.lay {m3 m4 : Mem} (h4 : PtR m3 m4) (h30 : 30 ≤ mN m3) (hL : Lay (mT m3) (mR m3)) : Lay (mT m4) (mR m4) := hL.of38 (fun o ho => h4.2.1 o (by omega)) (fun o q ho _ h12 => h4.2.2.2.1 o q (by omega) h12)
theorem RwX.to4 {m1 m2 m3 m4 : Mem} {nn : Nat} {v : Nat → Nat → Int} {wv : Nat → Int} (h1 : In1 m1) (h2 : RwI m1 m2 nn nn v) (hn : nn ≤ 7) (h3 : CndR m2 m3 wv) (h4 : PtR m3 m4) : RwX m4 30 nn v := by
  have n1 := h1.1.1
  have n2 := h2.2.1
  have hx := h2.x hn
  rw [n1] at hx
  have x3 : RwX m3 30 nn v := hx.fr (by have := h3.1.1; omega) fun q a b => ⟨h3.2.1 q (by omega), fun k => h3.2.2.1 q k (by omega) (by omega) (by omega) (by omega), fun k => h3.2.2.2.1 q k (by omega) (by omega)⟩
  have n3 := h3.1.1
  exact x3.fr (by have := h4.1.1; omega) fun q a b => ⟨h4.2.1 q (by omega), fun k => h4.2.2.1 q k (by omega) (by omega) (by omega) (by omega), fun k => h4.2.2.2.1 q k (by omega) (by omega)⟩
set_option maxHeartbeats 4000000 in
theorem LawC.mk {m1 m2 m3 m4 : Mem} {nn : Nat} {v : Nat → Nat → Int} {wv : Nat → Int} {I : Nat → Nat → Int} (h1 : In1 m1) (h2 : RwI m1 m2 nn nn v) (hn : nn ≤ 7) (hv : ∀ r c, -10 ≤ v r c ∧ v r c ≤ 1000) (h3 : CndR m2 m3 wv) (h4 : PtR m3 m4) (h5 : TlI m4 I nn v) :
    ∃ P Q L x, LawC (_root_.Jvm.Pilot.@@N@@.setI (wI m4 I) 1 7 800) P Q L x 30 (mN m2) nn v wv ∧ (mN (_root_.Jvm.Pilot.@@N@@.setI (wI m4 I) 1 7 800) + 152000 ≤ NN + lnA (_root_.Jvm.Pilot.@@N@@.setI (wI m4 I) 1 7 800) + lnB (_root_.Jvm.Pilot.@@N@@.setI (wI m4 I) 1 7 800) ∧ mZ (_root_.Jvm.Pilot.@@N@@.setI (wI m4 I) 1 7 800) + 322000 ≤ ZZ + 2 * lnA (_root_.Jvm.Pilot.@@N@@.setI (wI m4 I) 1 7 800) + 2 * lnB (_root_.Jvm.Pilot.@@N@@.setI (wI m4 I) 1 7 800)) ∧ (0 ≤ mI (_root_.Jvm.Pilot.@@N@@.setI (wI m4 I) 1 7 800) 1 4 ∧ mI (_root_.Jvm.Pilot.@@N@@.setI (wI m4 I) 1 7 800) 1 4 ≤ 3 ∧ 0 ≤ mI (_root_.Jvm.Pilot.@@N@@.setI (wI m4 I) 1 7 800) 1 5 ∧ mI (_root_.Jvm.Pilot.@@N@@.setI (wI m4 I) 1 7 800) 1 5 ≤ 25) ∧ MtB (_root_.Jvm.Pilot.@@N@@.setI (wI m4 I) 1 7 800) 5 x.2.2.1 [] ∧ mR (_root_.Jvm.Pilot.@@N@@.setI (wI m4 I) 1 7 800) 0 5 = some 18 := by
  have hx4 := RwX.to4 h1 h2 hn h3 h4
  have hR4 := h5.rw hx4 (by decide)
  obtain ⟨hL2, r13, ⟨n2, z2⟩, -, -⟩ := In1.cnd h1 h2
  have hL3 := h3.lay (by omega) hL2
  have n3 := h3.1
  have hL4 := h4.lay (by omega) hL3
  have n4 := h4.1
  obtain ⟨⟨n1, z1⟩, -, ⟨-, r05, r92, r94, -⟩, ⟨t11, t12⟩, ⟨-, -, -, i14, i15⟩, i3⟩ := h1
  have hk2 := h2.1
  rw [n1] at hk2
  have k2 := fun o (ho : o < 30) => hk2 o (Or.inl ho)
  obtain ⟨c1, cT, cI, cR, cz, ⟨wT, wI_⟩, cd⟩ := h3
  obtain ⟨p1, pT, pI, pR, pz, P, Q, L, F, c, ⟨q1, q2, q3, q4⟩, ⟨q5, q6, q7, q8⟩, ⟨q9, q10, q11, q12, q13⟩, q14⟩ := h4
  have hT : ∀ o, o < 30 → mT m4 o = mT m1 o := fun o ho => (pT o (by omega)).trans ((cT o (by omega)).trans (k2 o ho).1)
  have hRr : ∀ o k, o < 30 → o ≠ 4 → ¬ (o = 1 ∧ k = 2) → mR m4 o k = mR m1 o k := fun o k ho a1 a2 => (pR o k (by omega) a2).trans ((cR o k (by omega) a1).trans ((k2 o ho).2.2 k))
  have hI4 : ∀ o k, o < 30 → ¬ (o = 13 ∧ k = 1) → o ≠ 14 → ¬ (o = 5 ∧ k = 3) → mI m4 o k = mI m1 o k := fun o k ho a1 a2 a3 => (pI o k (by omega) a1 a2 a3).trans ((cI o k (by omega) a1 a2 a3).trans ((k2 o ho).2.1 k))
  have hbI : ∀ o k, ¬ (o = 1 ∧ k = 7) → mI (_root_.Jvm.Pilot.@@N@@.setI (wI m4 I) 1 7 800) o k = I o k := fun o k h => if_neg h
  have hbI2 : ∀ o k, ¬ (o = 1 ∧ k = 7) → ¬ (o = 2 ∧ k = 1) → o ≠ 3 → ¬ (o = 5 ∧ k = 3) → mI (_root_.Jvm.Pilot.@@N@@.setI (wI m4 I) 1 7 800) o k = mI m4 o k := fun o k a1 a2 a3 a4 => (hbI o k a1).trans (h5.2.2.2.2 o k a2 a3 a4)
  have hb17 : mI (_root_.Jvm.Pilot.@@N@@.setI (wI m4 I) 1 7 800) 1 7 = 800 := rfl
  have hLb : Lay (mT (_root_.Jvm.Pilot.@@N@@.setI (wI m4 I) 1 7 800)) (mR (_root_.Jvm.Pilot.@@N@@.setI (wI m4 I) 1 7 800)) := hL4
  have s92 : mR m4 9 2 = some 11 := (hRr 9 2 (by decide) (by decide) (by decide)).trans r92
  have s94 : mR m4 9 4 = some 12 := (hRr 9 4 (by decide) (by decide) (by decide)).trans r94
  have s11 : mT m4 11 = (20, 256) := (hT 11 (by decide)).trans t11
  have s12 : mT m4 12 = (20, 320) := (hT 12 (by decide)).trans t12
  have eA : lnA (_root_.Jvm.Pilot.@@N@@.setI (wI m4 I) 1 7 800) = 256 := by
    show (mT m4 ((mR m4 9 2).getD 0)).2 = 256
    rw [s92]
    show (mT m4 11).2 = 256
    rw [s11]
  have eB : lnB (_root_.Jvm.Pilot.@@N@@.setI (wI m4 I) 1 7 800) = 320 := by
    show (mT m4 ((mR m4 9 4).getD 0)).2 = 320
    rw [s94]
    show (mT m4 12).2 = 320
    rw [s12]
  have hNN : NN = 600000 := rfl
  have hZZ : ZZ = 7302250 := rfl
  have hNb : mN (_root_.Jvm.Pilot.@@N@@.setI (wI m4 I) 1 7 800) = mN m4 := rfl
  have hZb : mZ (_root_.Jvm.Pilot.@@N@@.setI (wI m4 I) 1 7 800) = mZ m4 := rfl
  have hcell : ∀ r c, r < nn → c < 2 → mI (_root_.Jvm.Pilot.@@N@@.setI (wI m4 I) 1 7 800) 3 (2 * r + c) = v r c := fun r c hr hc => by
    rw [hbI _ _ (by omega)]
    have g := h5.2.1 r hr
    rcases (show c = 0 ∨ c = 1 by omega) with rfl | rfl
    · exact g.1
    · exact g.2
  have hcell2 : ∀ k, -999 ≤ mI (_root_.Jvm.Pilot.@@N@@.setI (wI m4 I) 1 7 800) 3 k ∧ mI (_root_.Jvm.Pilot.@@N@@.setI (wI m4 I) 1 7 800) 3 k ≤ 1000 := fun k => by
    by_cases d : 2 * nn ≤ k
    · rw [hbI _ _ (by omega), h5.2.2.2.1 k d, hI4 3 k (by decide) (by omega) (by decide) (by omega), i3 k]; omega
    · have g := hcell (k / 2) (k % 2) (by omega) (by omega)
      rw [show 2 * (k / 2) + k % 2 = k by omega] at g
      rw [g]
      have := hv (k / 2) (k % 2)
      omega
  have hSB : SB (_root_.Jvm.Pilot.@@N@@.setI (wI m4 I) 1 7 800) P Q L F c (nn : Int) 800 (fun w e => cdV e (cdO (wv w))) (mI (_root_.Jvm.Pilot.@@N@@.setI (wI m4 I) 1 7 800) 3) := by
    refine ⟨⟨hLb, by rw [hNb]; omega, by rw [eA, eB, hNb]; omega, by rw [eA, eB, hZb]; omega⟩, ⟨q1, q2, q3, q4, by omega, by omega, q7, q8, fun e => ?_, fun e => ?_⟩, ⟨(hbI2 P 1 (by omega) (by omega) (by omega) (by omega)).trans q9, q10, q11, fun p w hp hw => (hbI2 Q _ (by omega) (by omega) (by omega) (by omega)).trans (q12 p w hp hw), q13⟩, ⟨(hbI 2 1 (by decide)).trans h5.1, by omega, by omega, hb17, by decide, by decide⟩, fun k _ => ⟨rfl, hcell2 k⟩, fun w hw => ⟨cdO (wv w), ?_, fun _ => rfl⟩, 11, 12, 256, 320, s92, s11, by decide, by decide, s94, s12, by decide, by decide, by rw [hNb]; omega, by decide, by rw [hNb]; omega, by decide, by decide, Or.inl rfl, Or.inl rfl⟩
    · have e : mR m4 9 2 = some Q := e
      rw [s92] at e
      have := Option.some.inj e
      omega
    · have e : mR m4 9 4 = some Q := e
      rw [s94] at e
      have := Option.some.inj e
      omega
    · have d := cd w hw
      have e4 : mR m4 4 w = mR m3 4 w := pR 4 w (by omega) (by omega)
      generalize cdO (wv w) = q at d
      cases q with
      | none => exact e4.trans d
      | some l =>
        obtain ⟨y, y1, A, a1, a2, a3, a4, a5, a6, a7, a8, a9⟩ := d
        exact ⟨y, e4.trans y1, A, (pT y a6).trans a1, (pR y 0 a6 (by omega)).trans a2, (pT A a7).trans a3, a4, a5, by rw [hNb]; omega, by rw [hNb]; omega, fun k z hz => (hbI2 A k (by omega) (by omega) (by omega) (by omega)).trans ((pI A k a7 (by omega) (by omega) (by omega)).trans (a8 k z hz)), a9⟩
  refine ⟨P, Q, L, (F, c, (nn : Int), (fun w e => cdV e (cdO (wv w))), mI (_root_.Jvm.Pilot.@@N@@.setI (wI m4 I) 1 7 800) 3), ⟨⟨hSB, ⟨q13, q14, ⟨by show (0 : Int) ≤ (nn : Int); omega, by show (nn : Int) ≤ 32; omega⟩, hcL_cd wv⟩, by rw [eA, eB, hNb]; omega, by rw [eA, eB, hZb]; omega⟩, ⟨?_, by rw [hNb]; omega, fun r q hr hq => ?_, hv⟩, ⟨(pT _ (by omega)).trans wT, by rw [hNb]; omega, fun j hj => ⟨?_, (wI_ j hj).2⟩⟩, ⟨rfl, hn⟩, fun _ _ => rfl, hcell⟩, ⟨by rw [eA, eB, hNb]; omega, by rw [eA, eB, hZb]; omega⟩, ?_, ⟨Or.inl rfl, (hRr 1 3 (by decide) (by decide) (by decide)).trans ?_, ⟨(hbI 5 3 (by decide)).trans h5.2.2.1, fun j s e le hj => by simp at hj⟩, ⟨by decide, by show (0 : Int) ≤ (nn : Int); omega, by show (nn : Int) ≤ 32; omega⟩, fun q hq => absurd hq List.not_mem_nil⟩, (hRr 0 5 (by decide) (by decide) (by decide)).trans r05⟩
  · obtain ⟨g1, g2, g3⟩ := hR4
    refine ⟨g1, g2, fun r hr => ?_⟩
    obtain ⟨q, e1, e2, e3, e4⟩ := g3 r hr
    have hq1 : q ≠ 1 := fun z => by
      rw [z] at e2
      have e2 : mT m4 1 = (20, 2) := e2
      rw [hL4.t1] at e2; cases e2
    exact ⟨q, e1, e2, ⟨(hbI q 0 (by omega)).trans e3.1, (hbI q 1 (by omega)).trans e3.2⟩, e4⟩
  · have e := (hx4.2.2.2 r hr).1
    have hq : mR m4 30 r = some q := hq
    rw [e] at hq
    have h_ := Option.some.inj hq
    have := hx4.2.2.1
    rw [hNb]; omega
  · exact (hbI2 (mN m2) j (by omega) (by omega) (by omega) (by omega)).trans ((pI (mN m2) j (by omega) (by omega) (by omega) (by omega)).trans (wI_ j hj).1)
  · rw [hbI2 1 4 (by decide) (by decide) (by decide) (by decide), hbI2 1 5 (by decide) (by decide) (by decide) (by decide), hI4 1 4 (by decide) (by decide) (by decide) (by decide), hI4 1 5 (by decide) (by decide) (by decide) (by decide), i14, i15]
    decide
  · have e := (k2 1 (by decide)).2.2 3
    exact e.symm.trans r13

