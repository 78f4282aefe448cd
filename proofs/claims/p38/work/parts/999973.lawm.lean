/-! THE LAW'S MEMORY while it asks: b where it began to ask, m now -/
section SBO
variable {b m : Mem} {P Q L c : Nat} {F : Tb} {n may : Int} {hc : Nat → CEnv → Int} {cl : Nat → Int}
/-- where a search may go on: all but the search's own and matches is as it was -/
theorem SB.of {A B LA LB : Nat} (hS : SB b P Q L F c n may hc cl) (hN : mN b ≤ mN m) (hT : ∀ o, o < mN b → mT m o = mT b o) (hR : ∀ o k, o < mN b → ¬ (o = 9 ∧ (k = 2 ∨ k = 4)) → mR m o k = mR b o k)
    (hI : ∀ o k, o < mN b → o ≠ 9 → o ≠ 10 → mR b 9 2 ≠ some o → mR b 9 4 ≠ some o → ¬ (5 ≤ o ∧ o ≤ 8) → ¬ (18 ≤ o ∧ o ≤ 21) → mI m o k = mI b o k)
    (hA : mR m 9 2 = some A ∧ mT m A = (20, LA) ∧ A < mN m ∧ 256 ≤ LA ∧ LA ≤ 65536 ∧ 10 < A ∧ (mR b 9 2 = some A ∨ mN b ≤ A)) (hB : mR m 9 4 = some B ∧ mT m B = (20, LB) ∧ B < mN m ∧ 256 ≤ LB ∧ LB ≤ 65536 ∧ 10 < B ∧ (mR b 9 4 = some B ∨ mN b ≤ B)) (hAB : A ≠ B) (r1 : mN m + 140000 ≤ NN + LA + LB) (r2 : mZ m + 300000 ≤ ZZ + 2 * LA + 2 * LB) : SB m P Q L F c n may hc cl := by
  have h59 := hS.1.2.1
  have hL := hS.1.1
  have rd : ∀ {o k : Nat}, o < mN b → o ≠ 9 → o ≠ 10 → ((mT b o).1 ≠ 20 ∨ (mT b o).2 < 256) → ¬ (5 ≤ o ∧ o ≤ 8) → ¬ (18 ≤ o ∧ o ≤ 21) → mI m o k = mI b o k := fun ho h9 h10 ht a1 a2 => hI _ _ ho h9 h10 (hS.no ht).1 (hS.no ht).2 a1 a2
  have hLm : Lay (mT m) (mR m) := by
    refine ⟨fun p hp => ?_, fun p hp => ?_⟩
    · have hl : p.1 < 59 := by
        have : ∀ q ∈ layT, q.1 < 59 := by decide
        exact this p hp
      rw [hT p.1 (by omega)]
      exact hL.1 p hp
    · have hl : p.1.1 < 59 ∧ ¬ (p.1.1 = 9 ∧ (p.1.2 = 2 ∨ p.1.2 = 4)) := by
        have : ∀ q ∈ layR, q.1.1 < 59 ∧ ¬ (q.1.1 = 9 ∧ (q.1.2 = 2 ∨ q.1.2 = 4)) := by decide
        exact this p hp
      rw [hR p.1.1 _ (by omega) hl.2]
      exact hL.2 p hp
  have eA : lnA m = LA := by
    show (mT m ((mR m 9 2).getD 0)).2 = LA
    rw [hA.1]
    show (mT m A).2 = LA
    rw [hA.2.1]
  have eB : lnB m = LB := by
    show (mT m ((mR m 9 4).getD 0)).2 = LB
    rw [hB.1]
    show (mT m B).2 = LB
    rw [hB.2.1]
  have t1 := hL.t1
  have t2 := hL.t2
  have t3 := hL.t3
  have g1 : mI m 1 7 = mI b 1 7 := rd (by omega) (by decide) (by decide) (by rw [t1]; exact Or.inl (by decide)) (by omega) (by omega)
  have g2 : mI m 2 1 = mI b 2 1 := rd (by omega) (by decide) (by decide) (by rw [t2]; exact Or.inl (by decide)) (by omega) (by omega)
  have g3 : ∀ k, mI m 3 k = mI b 3 k := fun k => rd (by omega) (by decide) (by decide) (by rw [t3]; exact Or.inr (by decide)) (by omega) (by omega)
  obtain ⟨-, ⟨p1, p2, p3, p4, p5, p6, p7, p8, p9, p10⟩, ⟨c1, c2, c3, c4, c5⟩, ⟨n1, n2, n3, n4, n5⟩, hcl, hcd, A0, B0, LA0, LB0, z1, z2, z3, z4, z5, z6, z7, z8, z9, z10, z11, z12, z13, z14, z15⟩ := hS
  have gP : ∀ k, mI m P k = mI b P k := fun k => rd p7 (by omega) (by omega) (by rw [p2]; exact Or.inl (by decide)) (by omega) (by omega)
  have gQ : ∀ k, mI m Q k = mI b Q k := fun k => hI Q k p8 (by omega) (by omega) p9 p10 (by omega) (by omega)
  have hA0 : A = 11 ∨ 59 ≤ A := by
    rcases hA.2.2.2.2.2.2 with a7 | a7
    · rw [z1] at a7; cases a7; exact z14
    · omega
  have hB0 : B = 12 ∨ 59 ≤ B := by
    rcases hB.2.2.2.2.2.2 with b7 | b7
    · rw [z5] at b7; cases b7; exact z15
    · omega
  refine ⟨⟨hLm, by omega, by rw [eA, eB]; exact r1, by rw [eA, eB]; exact r2⟩, ⟨(hR 1 2 (by omega) (by omega)).trans p1, (hT P p7).trans p2, (hR P 0 p7 (by omega)).trans p3, (hT Q p8).trans p4, p5, p6, by omega, by omega, ?_, ?_⟩, ⟨(gP 1).trans c1, c2, c3, fun p w hp hw => (gQ _).trans (c4 p w hp hw), c5⟩, ⟨g2.trans n1, n2, n3, g1.trans n4, n5⟩, fun k hk => ?_, fun w hw => ?_, A, B, LA, LB, hA.1, hA.2.1, hA.2.2.2.1, hA.2.2.2.2.1, hB.1, hB.2.1, hB.2.2.2.1, hB.2.2.2.2.1, hA.2.2.1, hA.2.2.2.2.2.1, hB.2.2.1, hB.2.2.2.2.2.1, hAB, hA0, hB0⟩
  · rw [hA.1]; intro e; cases e
    rcases hA.2.2.2.2.2.2 with a7 | a7
    · exact p9 a7
    · omega
  · rw [hB.1]; intro e; cases e
    rcases hB.2.2.2.2.2.2 with b7 | b7
    · exact p10 b7
    · omega
  · have h1 := hcl k hk
    exact ⟨(g3 k).trans h1.1, h1.2⟩
  · obtain ⟨q, e1, e2⟩ := hcd w hw
    refine ⟨q, ?_, e2⟩
    have e4 : mR m 4 w = mR b 4 w := hR 4 w (by omega) (by omega)
    cases q with
    | none => exact e4.trans e1
    | some cd =>
      obtain ⟨y, y1, A', a1, a2, a3, a4, a5, a6, a7, a8, a9, a10⟩ := e1
      exact ⟨y, e4.trans y1, A', (hT y a6).trans a1, (hR y 0 a6 (by omega)).trans a2, (hT A' a7).trans a3, a4, a5, by omega, by omega, fun k z hz => (rd a7 (by omega) (by omega) (by rw [a3]; exact Or.inr (by show cd.length < 256; omega)) (by omega) (by omega)).trans (a8 k z hz), a9, a10⟩
/-- other matches at hand -/
theorem SB.sw {u w : Option Nat} (hS : SB m P Q L F c n may hc cl) : SB (_root_.Jvm.Pilot.@@N@@.setR (_root_.Jvm.Pilot.@@N@@.setR m 0 5 u) 1 3 w) P Q L F c n may hc cl := by
  have hr : ∀ o k, ¬ (o = 0 ∧ k = 5) → ¬ (o = 1 ∧ k = 3) → mR (_root_.Jvm.Pilot.@@N@@.setR (_root_.Jvm.Pilot.@@N@@.setR m 0 5 u) 1 3 w) o k = mR m o k := fun o k h1 h2 => (if_neg h2).trans (if_neg h1)
  obtain ⟨⟨h1, h2, h3, h4⟩, ⟨p1, p2, p3, p4, p5, p6, p7, p8, p9, p10⟩, h5, h6, hcl, hcd, A0, B0, LA0, LB0, z1, z2, z3, z4, z5, z6, z7, z8, z9⟩ := hS
  have e2 := hr 9 2 (by omega) (by omega)
  have e4 := hr 9 4 (by omega) (by omega)
  have eA : lnA (_root_.Jvm.Pilot.@@N@@.setR (_root_.Jvm.Pilot.@@N@@.setR m 0 5 u) 1 3 w) = lnA m := congrArg (fun q : Option Nat => (mT m (q.getD 0)).2) e2
  have eB : lnB (_root_.Jvm.Pilot.@@N@@.setR (_root_.Jvm.Pilot.@@N@@.setR m 0 5 u) 1 3 w) = lnB m := congrArg (fun q : Option Nat => (mT m (q.getD 0)).2) e4
  refine ⟨⟨⟨h1.1, fun p hp => ?_⟩, h2, by rw [eA, eB]; exact h3, by rw [eA, eB]; exact h4⟩, ⟨(hr 1 2 (by omega) (by omega)).trans p1, p2, (hr P 0 (by omega) (by omega)).trans p3, p4, p5, p6, p7, p8, by rw [e2]; exact p9, by rw [e4]; exact p10⟩, h5, h6, hcl, fun w hw => ?_, A0, B0, LA0, LB0, e2.trans z1, z2, z3, z4, e4.trans z5, z6, z7, z8, z9⟩
  · have hl : ∀ q ∈ layR, ¬ (q.1.1 = 0 ∧ q.1.2 = 5) ∧ ¬ (q.1.1 = 1 ∧ q.1.2 = 3) := by decide
    exact (hr _ _ (hl p hp).1 (hl p hp).2).trans (h1.2 p hp)
  · obtain ⟨q, e1, e2⟩ := hcd w hw
    refine ⟨q, ?_, e2⟩
    cases q with
    | none => exact (hr 4 w (by omega) (by omega)).trans e1
    | some cd =>
      obtain ⟨y, y1, A', a1, a2, a3, a4, a5, a6⟩ := e1
      exact ⟨y, (hr 4 w (by omega) (by omega)).trans y1, A', a1, (hr y 0 (by omega) (by omega)).trans a2, a3, a4, a5, a6⟩
end SBO
def LawM (b m : Mem) (s : Nat) : Prop := CZf b m ∧ ∃ A B LA LB, (mR m 9 2 = some A ∧ mT m A = (20, LA) ∧ A < mN m ∧ 256 ≤ LA ∧ LA ≤ 65536 ∧ 10 < A ∧ (mR b 9 2 = some A ∨ mN b ≤ A)) ∧ (mR m 9 4 = some B ∧ mT m B = (20, LB) ∧ B < mN m ∧ 256 ≤ LB ∧ LB ≤ 65536 ∧ 10 < B ∧ (mR b 9 4 = some B ∨ mN b ≤ B)) ∧ A ≠ B ∧ mN m + lnA b + lnB b ≤ mN b + LA + LB + s ∧ mZ m + 2 * lnA b + 2 * lnB b ≤ mZ b + 2 * LA + 2 * LB + 40 * s
def LawB (b : Mem) (P Q L : Nat) (x : CX) : Prop := SB b P Q L x.1 x.2.1 x.2.2.1 800 x.2.2.2.1 x.2.2.2.2 ∧ CxO x ∧ mN b + 150000 ≤ NN + lnA b + lnB b ∧ mZ b + 310000 ≤ ZZ + 2 * lnA b + 2 * lnB b
section LWM
variable {b m : Mem} {P Q L s : Nat} {x : CX}
theorem LawM.rf (hB : LawB b P Q L x) : LawM b b 0 := by
  obtain ⟨A, B, LA, LB, h1, h2, h3, h4, h5⟩ := CZr.rf hB.1
  exact ⟨⟨Nat.le_refl _, Nat.le_refl _, fun _ _ => rfl, fun _ _ _ _ => rfl, fun _ _ _ _ _ _ _ => rfl⟩, A, B, LA, LB, h1, h2, h3, h4, h5⟩
theorem LawM.sb (hB : LawB b P Q L x) (h : LawM b m s) (hs : s ≤ 100) : SB m P Q L x.1 x.2.1 x.2.2.1 800 x.2.2.2.1 x.2.2.2.2 := by
  obtain ⟨hf, A, B, LA, LB, h1, h2, h3, h4, h5⟩ := h
  obtain ⟨hS, -, r1, r2⟩ := hB
  exact SB.of hS hf.1 hf.2.2.1 hf.2.2.2.1 (fun o k a1 a2 a3 a4 a5 _ _ => hf.2.2.2.2 o k a1 a2 a3 a4 a5) h1 h2 h3 (by omega) (by omega)
theorem LawM.cz {m' : Mem} {F : Tb} {J : SJ} (h : LawM b m s) (h2 : CZ m m' F J) : LawM b m' s := by
  obtain ⟨⟨hN, hZ, hT, hR, hI⟩, A, B, LA, LB, ⟨a1, a2, a3, a4, a5, a6, a7⟩, ⟨b1, b2, b3, b4, b5, b6, b7⟩, hAB, r1, r2⟩ := h
  obtain ⟨A', B', LA', LB', ⟨⟨a1', a2', a3', a4', a5', a6', a7'⟩, ⟨b1', b2', b3', b4', b5', b6', b7'⟩, hAB', r1', r2'⟩, hz, -⟩ := h2
  have eA : lnA m = LA := by
    show (mT m ((mR m 9 2).getD 0)).2 = LA
    rw [a1]
    show (mT m A).2 = LA
    rw [a2]
  have eB : lnB m = LB := by
    show (mT m ((mR m 9 4).getD 0)).2 = LB
    rw [b1]
    show (mT m B).2 = LB
    rw [b2]
  rw [eA, eB] at r1' r2'
  refine ⟨⟨by have := hz.1; omega, by have := hz.2.1; omega, fun o ho => ?_, fun o k ho hk => ?_, fun o k ho h9 h10 hx hy => ?_⟩, A', B', LA', LB', ⟨a1', a2', a3', a4', a5', a6', ?_⟩, ⟨b1', b2', b3', b4', b5', b6', ?_⟩, hAB', by omega, by omega⟩
  · exact (hz.2.2.1 o (by omega)).trans (hT o ho)
  · exact (hz.2.2.2.1 o k (by omega) hk).trans (hR o k ho hk)
  · refine (hz.2.2.2.2 o k (by omega) h9 h10 ?_ ?_).trans (hI o k ho h9 h10 hx hy)
    · rw [a1]; intro e; cases e
      rcases a7 with a7 | a7
      · exact hx a7
      · omega
    · rw [b1]; intro e; cases e
      rcases b7 with b7 | b7
      · exact hy b7
      · omega
  · rcases a7' with e | e
    · rw [a1] at e; cases e; exact a7
    · exact Or.inr (by omega)
  · rcases b7' with e | e
    · rw [b1] at e; cases e; exact b7
    · exact Or.inr (by omega)
/-- there is room -/
theorem LawM.room (hB : LawB b P Q L x) (h : LawM b m s) (hs : s ≤ 100) : mN m + 1000 ≤ NN ∧ mZ m + 1000 ≤ ZZ := by
  obtain ⟨-, -, h3, h4⟩ := (h.sb hB hs).1
  have hS := (h.sb hB hs)
  obtain ⟨-, -, -, -, -, -, A, B, LA, LB, h1, h2, g3, g4, h5, h6, h7, h8, -⟩ := hS
  have eA : lnA m = LA := by
    show (mT m ((mR m 9 2).getD 0)).2 = LA
    rw [h1]
    show (mT m A).2 = LA
    rw [h2]
  have eB : lnB m = LB := by
    show (mT m ((mR m 9 4).getD 0)).2 = LB
    rw [h5]
    show (mT m B).2 = LB
    rw [h6]
  rw [eA, eB] at h3 h4
  exact ⟨by omega, by omega⟩
/-- a new row of letters -/
theorem LawM.new (h : LawM b m s) : LawM b (newO m 20 40) (s + 1) := by
  obtain ⟨⟨hN, hZ, hT, hR, hI⟩, A, B, LA, LB, ⟨a1, a2, a3, a4⟩, ⟨b1, b2, b3, b4⟩, hAB, r1, r2⟩ := h
  have h9 : mT m 9 = mT m 9 := rfl
  have k9 : ∀ k, mR (newO m 20 40) 9 k = mR m 9 k ∨ mN m = 9 := fun k => by
    by_cases e : 9 = mN m
    · exact Or.inr e.symm
    · exact Or.inl (if_neg e)
  have n9 : ¬ 9 = mN m := fun e => by omega
  exact ⟨⟨by show mN b ≤ mN m + 1; omega, by show mZ b ≤ mZ m + 40; omega, fun o ho => (if_neg (by omega)).trans (hT o ho), fun o k ho hk => (if_neg (by omega)).trans (hR o k ho hk), fun o k ho c1 c2 c3 c4 => (if_neg (by omega)).trans (hI o k ho c1 c2 c3 c4)⟩, A, B, LA, LB, ⟨(if_neg n9).trans a1, (if_neg (by omega)).trans a2, by show A < mN m + 1; omega, a4⟩, ⟨(if_neg n9).trans b1, (if_neg (by omega)).trans b2, by show B < mN m + 1; omega, b4⟩, hAB, by show mN m + 1 + lnA b + lnB b ≤ _; omega, by show mZ m + 40 + 2 * lnA b + 2 * lnB b ≤ _; omega⟩
/-- a letter is written into such a row -/
theorem LawM.w {q k : Nat} {v : Int} (h : LawM b m s) (hq : mN b ≤ q) : LawM b (_root_.Jvm.Pilot.@@N@@.setI m q k v) s := by
  obtain ⟨⟨hN, hZ, hT, hR, hI⟩, hA⟩ := h
  exact ⟨⟨hN, hZ, hT, hR, fun o k' ho c1 c2 c3 c4 => (if_neg (fun e => by have := e.1; omega)).trans (hI o k' ho c1 c2 c3 c4)⟩, hA⟩
/-- what lies low is as it was -/
theorem LawM.low (hB : LawB b P Q L x) (h : LawM b m s) {o : Nat} (ho : o < 59) (h9 : o ≠ 9 ∧ o ≠ 10 ∧ o ≠ 11 ∧ o ≠ 12) (k : Nat) : mI m o k = mI b o k :=
  h.1.2.2.2.2 o k (by have := hB.1.1.2.1; omega) h9.1 h9.2.1 (hB.1.no2 ⟨ho, h9.2.2.1, h9.2.2.2⟩).1 (hB.1.no2 ⟨ho, h9.2.2.1, h9.2.2.2⟩).2
theorem LawM.ref (h : LawM b m s) {o k : Nat} (ho : o < mN b) (h9 : o ≠ 9) : mR m o k = mR b o k := h.1.2.2.2.1 o k ho (fun e => h9 e.1)
theorem LawM.typ (h : LawM b m s) {o : Nat} (ho : o < mN b) : mT m o = mT b o := h.1.2.2.1 o ho
/-- rows of the law are as they were -/
theorem LawM.row (hB : LawB b P Q L x) (h : LawM b m s) {o n : Nat} (ho : o < mN b) (ht : mT b o = (20, n)) (hn : n < 256 ∧ n ≠ 32) (k : Nat) : mI m o k = mI b o k := by
  have hL := hB.1.1.1
  have h9 : o ≠ 9 := fun e => by rw [e, hL.t9] at ht; cases ht
  have h10 : o ≠ 10 := fun e => by
    rw [e, hL.t10] at ht
    have : (32 : Nat) = n := congrArg Prod.snd ht
    omega
  have hno := hB.1.no (o := o) (Or.inr (by rw [ht]; exact hn.1))
  exact h.1.2.2.2.2 o k ho h9 h10 hno.1 hno.2
theorem LawM.rwo (hB : LawB b P Q L x) (h : LawM b m s) {o n : Nat} {v : Nat → Nat → Int} (hr : RwO b o n v) (ho : o < mN b) (hq : ∀ r q, r < n → mR b o r = some q → q < mN b) : RwO m o n v := by
  obtain ⟨h1, h2, h3⟩ := hr
  have n9 : o ≠ 9 := fun e => by rw [e, hB.1.1.1.t9] at h1; cases h1
  refine ⟨(h.typ ho).trans h1, h2, fun r hr => ?_⟩
  obtain ⟨q, g1, g2, g3, g4⟩ := h3 r hr
  have hqb := hq r q hr g1
  exact ⟨q, (h.ref ho n9).trans g1, (h.typ hqb).trans g2, ⟨(h.row hB hqb g2 (by omega) 0).trans g3.1, (h.row hB hqb g2 (by omega) 1).trans g3.2⟩, g4⟩
/-- a search's end: the law's memory, letters kept -/
def LwR (b m m' : Mem) (s : Nat) : Prop := LawM b m' s ∧ mN m ≤ mN m' ∧ ∀ q, q < mN m → mT m q = (20, 40) → mT m' q = (20, 40) ∧ ∀ k, mI m' q k = mI m q k
theorem LawM.fin {m' : Mem} {F : Tb} {J : SJ} (hB : LawB b P Q L x) (h : LawM b m s) (hs : s ≤ 100) (h2 : CZ m m' F J) : LwR b m m' s := by
  have hS := h.sb hB hs
  refine ⟨h.cz h2, h2.f.1, fun q hq ht => ⟨(h2.f.2.2.1 q hq).trans ht, fun k => ?_⟩⟩
  have hL := hS.1.1
  have h9 : q ≠ 9 := fun e => by rw [e, hL.t9] at ht; cases ht
  have h10 : q ≠ 10 := fun e => by
    rw [e, hL.t10] at ht
    have : (32 : Nat) = 40 := congrArg Prod.snd ht
    omega
  have hno := hS.no (o := q) (Or.inr (by rw [ht]; show (40 : Nat) < 256; decide))
  exact h2.f.2.2.2.2 q k hq h9 h10 hno.1 hno.2
end LWM
section LWC
variable {b : Mem} {P Q L s : Nat} {x : CX} {m : Mem} {st : Int}
theorem l_first (hB : LawB b P Q L x) (hm : LawM b m s) (hs : s ≤ 100) (hst : 0 ≤ st ∧ st ≤ x.2.2.1) : Ct μX10_first 8 [vr 0, vi st] m (ri fun y m' => y = fV x st ∧ LwR b m m' s) := by
  refine Ct_mono (z_firstS P Q L x.1 x.2.1 x.2.2.1 800 x.2.2.2.1 x.2.2.2.2 (fun _ => 0, mI m 10, fun _ _ => 0, fun _ _ => 0) m st (hm.sb hB hs) hB.2.1.2.1 (fun k _ => rfl) hst) fun r m' hp => ?_
  obtain ⟨y, hy, h1, h2⟩ := hp
  exact ⟨y, hy, h1.trans (fir_any hB.2.1 hst _), hm.fin hB hs h2⟩
theorem l_tries (hB : LawB b P Q L x) (hm : LawM b m s) (hs : s ≤ 100) (hst : 0 ≤ st ∧ st ≤ x.2.2.1) : Ct μX10_tries 8 [vr 0, vi st] m (ri fun y m' => y = tV x st ∧ LwR b m m' s) := by
  refine Ct_mono (z_triesS P Q L x.1 x.2.1 x.2.2.1 800 x.2.2.2.1 x.2.2.2.2 (fun _ => 0, mI m 10, fun _ _ => 0, fun _ _ => 0) m st (hm.sb hB hs) hB.2.1.2.1 (fun k _ => rfl) hst) fun r m' hp => ?_
  obtain ⟨y, hy, h1, h2⟩ := hp
  exact ⟨y, hy, h1.trans (tri_any hB.2.1 hst _), hm.fin hB hs h2⟩
theorem l_way {i : Int} (hB : LawB b P Q L x) (hm : LawM b m s) (hs : s ≤ 100) (hst : 0 ≤ st ∧ st ≤ x.2.2.1) : Ct μX10_way 8 [vr 0, vi st, vi i] m (ri fun y m' => y = wV x st i ∧ LwR b m m' s) := by
  refine Ct_mono (z_wayS P Q L x.1 x.2.1 x.2.2.1 800 x.2.2.2.1 x.2.2.2.2 (fun _ => 0, mI m 10, fun _ _ => 0, fun _ _ => 0) m st i (hm.sb hB hs) hB.2.1.2.1 (fun k _ => rfl) hst) fun r m' hp => ?_
  obtain ⟨y, hy, h1, h2⟩ := hp
  exact ⟨y, hy, h1.trans (way_any hB.2.1 hst _ i), hm.fin hB hs h2⟩
theorem l_ways (hB : LawB b P Q L x) (hm : LawM b m s) (hs : s ≤ 100) (hst : 0 ≤ st ∧ st ≤ x.2.2.1) : Ct μX10_ways 8 [vr 0, vi st] m (ri fun y m' => y = aV x st ∧ LwR b m m' s) := by
  refine Ct_mono (z_waysS P Q L x.1 x.2.1 x.2.2.1 800 x.2.2.2.1 x.2.2.2.2 (fun _ => 0, mI m 10, fun _ _ => 0, fun _ _ => 0) m st (hm.sb hB hs) hB.2.1.2.1 (fun k _ => rfl) hst) fun r m' hp => ?_
  obtain ⟨y, hy, h1, h2⟩ := hp
  exact ⟨y, hy, h1.trans (was_any hB.2.1 hst _), hm.fin hB hs h2⟩
theorem l_spans {w : Int} (hB : LawB b P Q L x) (hm : LawM b m s) (hs : s ≤ 100) (hst : 0 ≤ st ∧ st ≤ x.2.2.1) (hw : w = 0 ∨ w = 1) : Ct μX10_spans 8 [vr 0, vi st, vi w] m (ri fun y m' => y = sV x st w ∧ LwR b m m' s) := by
  refine Ct_mono (z_spansS P Q L x.1 x.2.1 x.2.2.1 800 x.2.2.2.1 x.2.2.2.2 (fun _ => 0, mI m 10, fun _ _ => 0, fun _ _ => 0) m st w (hm.sb hB hs) hB.2.1.2.1 (fun k _ => rfl) hst hw) fun r m' hp => ?_
  obtain ⟨y, hy, h1, h2⟩ := hp
  exact ⟨y, hy, h1.trans (spa_any hB.2.1 hst _ w), hm.fin hB hs h2⟩
theorem l_fits {e : Int} (hB : LawB b P Q L x) (hm : LawM b m s) (hs : s ≤ 100) (hst : 0 ≤ st ∧ st ≤ x.2.2.1) (hw : st ≤ e ∧ e ≤ x.2.2.1) : Ct μX10_fits 8 [vr 0, vi st, vi e] m (ri fun y m' => y = eV x st e ∧ LwR b m m' s) := by
  refine Ct_mono (z_fitsS P Q L x.1 x.2.1 x.2.2.1 800 x.2.2.2.1 x.2.2.2.2 (fun _ => 0, mI m 10, fun _ _ => 0, fun _ _ => 0) m st e (hm.sb hB hs) hB.2.1.2.1 (fun k _ => rfl) hst hw) fun r m' hp => ?_
  obtain ⟨y, hy, h1, h2⟩ := hp
  exact ⟨y, hy, h1.trans (fit_any hB.2.1 hst _ e), hm.fin hB hs h2⟩
end LWC
