/-! the operations of the table, the tape, the modes: class and reference in one step -/
theorem op_row {tt : Nat} {m : Mem} (h : Inv tt m) (a b : Int) : Op tt m μX10_row μX11_row 3 3 [vi a, vi b] := by
  obtain ⟨⟨hr, hL, ha⟩, ⟨g1, g2, g3, g4⟩, hk, M, M2, hM, r1, r2, s1, s2, s3, s4, s5, s6⟩ := id h
  have hM' : M = 5 ∨ M = 18 := by omega
  have e1 : mI m 2 1 = mI m 31 64 ∧ 0 ≤ mI m 31 64 ∧ mI m 31 64 ≤ 32 := s2.1
  have e2 : ∀ k, k < 64 → mI m 3 k = mI m 31 k ∧ -999 ≤ mI m 31 k ∧ mI m 31 k ≤ 1000 := s2.2
  have e3 := g1.1
  have tM := hL.mat hM'
  refine ⟨_, c_row m a b M hL ⟨by omega, by omega⟩ r1 tM.1 hM', fun x m1 hp => ?_⟩
  rcases hp with ⟨c, rfl, rfl⟩ | ⟨c, rfl, rfl⟩ | ⟨c, hx, hm⟩
  · refine ⟨(by first | exact hL.t30 | exact L1.t30 | exact (hC.lay hS).t30 | (rw [T1]; exact hL.t30) | (rw [b1]; exact hL.t30)), _, r_row m a b hL e1.2, fun y m2 hq => ?_⟩
    rcases hq with ⟨c2, rfl, rfl⟩ | ⟨c2, rfl, rfl⟩ | ⟨c2, hy, hm2⟩
    · exact ⟨rfl, h.tick⟩
    · exfalso; omega
    · exfalso; omega
  · refine ⟨(by first | exact hL.t30 | exact L1.t30 | exact (hC.lay hS).t30 | (rw [T1]; exact hL.t30) | (rw [b1]; exact hL.t30)), _, r_row m a b hL e1.2, fun y m2 hq => ?_⟩
    rcases hq with ⟨c2, rfl, rfl⟩ | ⟨c2, rfl, rfl⟩ | ⟨c2, hy, hm2⟩
    · exfalso; omega
    · exact ⟨rfl, h.tick⟩
    · exfalso; omega
  · have T1 : mT m1 = mT m := by rw [← hm]; rfl
    have R1 : mR m1 = mR m := by rw [← hm]; rfl
    have N1 : mN m1 = mN m := by rw [← hm]; rfl
    have Z1 : mZ m1 = mZ m := by rw [← hm]; rfl
    have I1 : ∀ o k, mI m1 o k = (if o = M ∧ k = 3 then 0 else if o = 3 ∧ k = (mI m 2 1 * 2 + 1).toNat then b else if o = 3 ∧ k = (mI m 2 1 * 2).toNat then a else if o = 2 ∧ k = 1 then mI m 2 1 + 1 else mI m o k) := fun o k => by rw [← hm]; rfl
    clear hm
    have v64 : mI m1 31 64 = mI m 31 64 := by rw [I1]; (repeat (first | rw [if_pos (by omega)] | rw [if_neg (by omega)]))
    refine ⟨(by first | exact hL.t30 | exact L1.t30 | exact (hC.lay hS).t30 | (rw [T1]; exact hL.t30) | (rw [b1]; exact hL.t30)), _, r_row m1 a b (by rw [T1, R1]; exact hL) (by rw [v64]; exact e1.2), fun y m2 hq => ?_⟩
    rcases hq with ⟨c2, rfl, rfl⟩ | ⟨c2, rfl, rfl⟩ | ⟨c2, hy, hm2⟩
    · exfalso; omega
    · exfalso; omega
    · have T2 : mT m2 = mT m1 := by rw [← hm2]; rfl
      have R2 : mR m2 = mR m1 := by rw [← hm2]; rfl
      have N2 : mN m2 = mN m1 := by rw [← hm2]; rfl
      have Z2 : mZ m2 = mZ m1 := by rw [← hm2]; rfl
      have I2 : ∀ o k, mI m2 o k = (if o = 31 ∧ k = 64 then mI m1 31 64 + 1 else if o = 31 ∧ k = (2 * mI m1 31 64 + 1).toNat then b else if o = 31 ∧ k = (2 * mI m1 31 64).toNat then a else if o = 31 ∧ k = 3336 then 0 else mI m1 o k) := fun o k => by rw [← hm2]; rfl
      clear hm2
      simp only [v64] at I2
      have fr : ∀ o k, ¬ (o = 2 ∧ k = 1 ∨ o = 3 ∨ o = M ∧ k = 3 ∨ o = 31 ∧ (k ≤ 64 ∨ k = 3336)) → mI m2 o k = mI m o k := fun o k ho => by rw [I2]; (repeat (first | rw [if_pos (by omega)] | rw [if_neg (by omega)])); rw [I1]; (repeat (first | rw [if_pos (by omega)] | rw [if_neg (by omega)]))
      refine ⟨by omega, h.low (T2.trans T1) (R2.trans R1) (N2.trans N1) (Z2.trans Z1) (fun o k ho => fr o k (by omega)) (fun q => q.fr (fun o k ho => fr o k (by omega))) (fun q => q.fr (fun o k ho => fr o k (by omega))) (fun q => q.fr (fun o k ho => fr o k (by omega))) (fun q => q.fr (fun o k ho => fr o k (by omega))) r1 ⟨(fun _ => ⟨?_, fun k hk => ?_⟩), (fun q => q.fr (fun k _ _ => fr _ _ (by omega)) (fun k _ _ => fr _ _ (by omega))), (fun k _ _ => fr _ _ (by omega)), (fun _ => MatG.nil (by rw [I2]; (repeat (first | rw [if_pos (by omega)] | rw [if_neg (by omega)])); rw [I1]; (repeat (first | rw [if_pos (by omega)] | rw [if_neg (by omega)]))) (by rw [I2]; (repeat (first | rw [if_pos (by omega)] | rw [if_neg (by omega)]))))⟩⟩
      · show mI m2 2 1 = mI m2 31 64 ∧ 0 ≤ mI m2 31 64 ∧ mI m2 31 64 ≤ 32
        have w1 : mI m2 2 1 = mI m 31 64 + 1 := by rw [I2, I1]; (repeat (first | rw [if_pos (by omega)] | rw [if_neg (by omega)])) <;> omega
        have w2 : mI m2 31 64 = mI m 31 64 + 1 := by rw [I2]; (repeat (first | rw [if_pos (by omega)] | rw [if_neg (by omega)])) <;> first | omega | (rw [I1]; (repeat (first | rw [if_pos (by omega)] | rw [if_neg (by omega)])) <;> omega)
        omega
      · show mI m2 3 k = mI m2 31 k ∧ -999 ≤ mI m2 31 k ∧ mI m2 31 k ≤ 1000
        rcases (show k = (2 * mI m 31 64).toNat ∨ k = (2 * mI m 31 64 + 1).toNat ∨ (k ≠ (2 * mI m 31 64).toNat ∧ k ≠ (2 * mI m 31 64 + 1).toNat) by omega) with e | e | e
        · have w1 : mI m2 3 k = a := by rw [I2, I1]; (repeat (first | rw [if_pos (by omega)] | rw [if_neg (by omega)]))
          have w2 : mI m2 31 k = a := by rw [I2]; (repeat (first | rw [if_pos (by omega)] | rw [if_neg (by omega)]))
          omega
        · have w1 : mI m2 3 k = b := by rw [I2, I1]; (repeat (first | rw [if_pos (by omega)] | rw [if_neg (by omega)]))
          have w2 : mI m2 31 k = b := by rw [I2]; (repeat (first | rw [if_pos (by omega)] | rw [if_neg (by omega)]))
          omega
        · have w1 : mI m2 3 k = mI m 3 k := by rw [I2, I1]; (repeat (first | rw [if_pos (by omega)] | rw [if_neg (by omega)]))
          have w2 : mI m2 31 k = mI m 31 k := by rw [I2, I1]; (repeat (first | rw [if_pos (by omega)] | rw [if_neg (by omega)]))
          rw [w1, w2]; exact e2 k hk

theorem op_set {tt : Nat} {m : Mem} (h : Inv tt m) (r a b : Int) : Op tt m μX10_set μX11_set 3 3 [vi r, vi a, vi b] := by
  obtain ⟨⟨hr, hL, ha⟩, ⟨g1, g2, g3, g4⟩, hk, M, M2, hM, r1, r2, s1, s2, s3, s4, s5, s6⟩ := id h
  have hM' : M = 5 ∨ M = 18 := by omega
  have e1 : mI m 2 1 = mI m 31 64 ∧ 0 ≤ mI m 31 64 ∧ mI m 31 64 ≤ 32 := s2.1
  have e2 : ∀ k, k < 64 → mI m 3 k = mI m 31 k ∧ -999 ≤ mI m 31 k ∧ mI m 31 k ≤ 1000 := s2.2
  have e3 := g1.1
  have tM := hL.mat hM'
  refine ⟨_, c_set m r a b M hL ⟨by omega, by omega⟩ r1 tM.1 hM', fun x m1 hp => ?_⟩
  rcases hp with ⟨c, rfl, rfl⟩ | ⟨c, rfl, rfl⟩ | ⟨c, hx, hm⟩
  · refine ⟨(by first | exact hL.t30 | exact L1.t30 | exact (hC.lay hS).t30 | (rw [T1]; exact hL.t30) | (rw [b1]; exact hL.t30)), _, r_set m r a b hL e1.2, fun y m2 hq => ?_⟩
    rcases hq with ⟨c2, rfl, rfl⟩ | ⟨c2, rfl, rfl⟩ | ⟨c2, hy, hm2⟩
    · exact ⟨rfl, h.tick⟩
    · exfalso; omega
    · exfalso; omega
  · refine ⟨(by first | exact hL.t30 | exact L1.t30 | exact (hC.lay hS).t30 | (rw [T1]; exact hL.t30) | (rw [b1]; exact hL.t30)), _, r_set m r a b hL e1.2, fun y m2 hq => ?_⟩
    rcases hq with ⟨c2, rfl, rfl⟩ | ⟨c2, rfl, rfl⟩ | ⟨c2, hy, hm2⟩
    · exfalso; omega
    · exact ⟨rfl, h.tick⟩
    · exfalso; omega
  · have T1 : mT m1 = mT m := by rw [← hm]; rfl
    have R1 : mR m1 = mR m := by rw [← hm]; rfl
    have N1 : mN m1 = mN m := by rw [← hm]; rfl
    have Z1 : mZ m1 = mZ m := by rw [← hm]; rfl
    have I1 : ∀ o k, mI m1 o k = (if o = M ∧ k = 3 then 0 else if o = 3 ∧ k = (r * 2 + 1).toNat then b else if o = 3 ∧ k = (r * 2).toNat then a else mI m o k) := fun o k => by rw [← hm]; rfl
    clear hm
    have v64 : mI m1 31 64 = mI m 31 64 := by rw [I1]; (repeat (first | rw [if_pos (by omega)] | rw [if_neg (by omega)]))
    refine ⟨(by first | exact hL.t30 | exact L1.t30 | exact (hC.lay hS).t30 | (rw [T1]; exact hL.t30) | (rw [b1]; exact hL.t30)), _, r_set m1 r a b (by rw [T1, R1]; exact hL) (by rw [v64]; exact e1.2), fun y m2 hq => ?_⟩
    rcases hq with ⟨c2, rfl, rfl⟩ | ⟨c2, rfl, rfl⟩ | ⟨c2, hy, hm2⟩
    · exfalso; omega
    · exfalso; omega
    · have T2 : mT m2 = mT m1 := by rw [← hm2]; rfl
      have R2 : mR m2 = mR m1 := by rw [← hm2]; rfl
      have N2 : mN m2 = mN m1 := by rw [← hm2]; rfl
      have Z2 : mZ m2 = mZ m1 := by rw [← hm2]; rfl
      have I2 : ∀ o k, mI m2 o k = (if o = 31 ∧ k = (2 * r + 1).toNat then b else if o = 31 ∧ k = (2 * r).toNat then a else if o = 31 ∧ k = 3336 then 0 else mI m1 o k) := fun o k => by rw [← hm2]; rfl
      clear hm2
      have fr : ∀ o k, ¬ (o = 3 ∨ o = M ∧ k = 3 ∨ o = 31 ∧ (k < 64 ∨ k = 3336)) → mI m2 o k = mI m o k := fun o k ho => by rw [I2]; (repeat (first | rw [if_pos (by omega)] | rw [if_neg (by omega)])); rw [I1]; (repeat (first | rw [if_pos (by omega)] | rw [if_neg (by omega)]))
      refine ⟨by omega, h.low (T2.trans T1) (R2.trans R1) (N2.trans N1) (Z2.trans Z1) (fun o k ho => fr o k (by omega)) (fun q => q.fr (fun o k ho => fr o k (by omega))) (fun q => q.fr (fun o k ho => fr o k (by omega))) (fun q => q.fr (fun o k ho => fr o k (by omega))) (fun q => q.fr (fun o k ho => fr o k (by omega))) r1 ⟨(fun _ => ⟨?_, fun k hk => ?_⟩), (fun q => q.fr (fun k _ _ => fr _ _ (by omega)) (fun k _ _ => fr _ _ (by omega))), (fun k _ _ => fr _ _ (by omega)), (fun _ => MatG.nil (by rw [I2]; (repeat (first | rw [if_pos (by omega)] | rw [if_neg (by omega)])); rw [I1]; (repeat (first | rw [if_pos (by omega)] | rw [if_neg (by omega)]))) (by rw [I2]; (repeat (first | rw [if_pos (by omega)] | rw [if_neg (by omega)]))))⟩⟩
      · show mI m2 2 1 = mI m2 31 64 ∧ 0 ≤ mI m2 31 64 ∧ mI m2 31 64 ≤ 32
        have w1 : mI m2 2 1 = mI m 31 64 := by rw [I2, I1]; (repeat (first | rw [if_pos (by omega)] | rw [if_neg (by omega)])) <;> omega
        have w2 : mI m2 31 64 = mI m 31 64 := by rw [I2]; (repeat (first | rw [if_pos (by omega)] | rw [if_neg (by omega)])) <;> first | omega | (rw [I1]; (repeat (first | rw [if_pos (by omega)] | rw [if_neg (by omega)])) <;> omega)
        omega
      · show mI m2 3 k = mI m2 31 k ∧ -999 ≤ mI m2 31 k ∧ mI m2 31 k ≤ 1000
        rcases (show k = (2 * r).toNat ∨ k = (2 * r + 1).toNat ∨ (k ≠ (2 * r).toNat ∧ k ≠ (2 * r + 1).toNat) by omega) with e | e | e
        · have w1 : mI m2 3 k = a := by rw [I2, I1]; (repeat (first | rw [if_pos (by omega)] | rw [if_neg (by omega)]))
          have w2 : mI m2 31 k = a := by rw [I2]; (repeat (first | rw [if_pos (by omega)] | rw [if_neg (by omega)]))
          omega
        · have w1 : mI m2 3 k = b := by rw [I2, I1]; (repeat (first | rw [if_pos (by omega)] | rw [if_neg (by omega)]))
          have w2 : mI m2 31 k = b := by rw [I2]; (repeat (first | rw [if_pos (by omega)] | rw [if_neg (by omega)]))
          omega
        · have w1 : mI m2 3 k = mI m 3 k := by rw [I2, I1]; (repeat (first | rw [if_pos (by omega)] | rw [if_neg (by omega)]))
          have w2 : mI m2 31 k = mI m 31 k := by rw [I2, I1]; (repeat (first | rw [if_pos (by omega)] | rw [if_neg (by omega)]))
          rw [w1, w2]; exact e2 k hk

theorem op_drop {tt : Nat} {m : Mem} (h : Inv tt m)  : Op tt m μX10_drop μX11_drop 1 2 [] := by
  obtain ⟨⟨hr, hL, ha⟩, ⟨g1, g2, g3, g4⟩, hk, M, M2, hM, r1, r2, s1, s2, s3, s4, s5, s6⟩ := id h
  have hM' : M = 5 ∨ M = 18 := by omega
  have e1 : mI m 2 1 = mI m 31 64 ∧ 0 ≤ mI m 31 64 ∧ mI m 31 64 ≤ 32 := s2.1
  have e2 : ∀ k, k < 64 → mI m 3 k = mI m 31 k ∧ -999 ≤ mI m 31 k ∧ mI m 31 k ≤ 1000 := s2.2
  have e3 := g1.1
  have tM := hL.mat hM'
  refine ⟨_, c_drop m M hL ⟨by omega, by omega⟩ r1 tM.1 hM', fun x m1 hp => ?_⟩
  rcases hp with ⟨c, rfl, rfl⟩ | ⟨c, hx, hm⟩
  · refine ⟨(by first | exact hL.t30 | exact L1.t30 | exact (hC.lay hS).t30 | (rw [T1]; exact hL.t30) | (rw [b1]; exact hL.t30)), _, r_drop m hL e1.2, fun y m2 hq => ?_⟩
    rcases hq with ⟨c2, rfl, rfl⟩ | ⟨c2, hy, hm2⟩
    · exact ⟨rfl, h.tick⟩
    · exfalso; omega
  · have T1 : mT m1 = mT m := by rw [← hm]; rfl
    have R1 : mR m1 = mR m := by rw [← hm]; rfl
    have N1 : mN m1 = mN m := by rw [← hm]; rfl
    have Z1 : mZ m1 = mZ m := by rw [← hm]; rfl
    have I1 : ∀ o k, mI m1 o k = (if o = M ∧ k = 3 then 0 else if o = 2 ∧ k = 1 then mI m 2 1 - 1 else mI m o k) := fun o k => by rw [← hm]; rfl
    clear hm
    have v64 : mI m1 31 64 = mI m 31 64 := by rw [I1]; (repeat (first | rw [if_pos (by omega)] | rw [if_neg (by omega)]))
    refine ⟨(by first | exact hL.t30 | exact L1.t30 | exact (hC.lay hS).t30 | (rw [T1]; exact hL.t30) | (rw [b1]; exact hL.t30)), _, r_drop m1 (by rw [T1, R1]; exact hL) (by rw [v64]; exact e1.2), fun y m2 hq => ?_⟩
    rcases hq with ⟨c2, rfl, rfl⟩ | ⟨c2, hy, hm2⟩
    · exfalso; omega
    · have T2 : mT m2 = mT m1 := by rw [← hm2]; rfl
      have R2 : mR m2 = mR m1 := by rw [← hm2]; rfl
      have N2 : mN m2 = mN m1 := by rw [← hm2]; rfl
      have Z2 : mZ m2 = mZ m1 := by rw [← hm2]; rfl
      have I2 : ∀ o k, mI m2 o k = (if o = 31 ∧ k = 64 then mI m1 31 64 - 1 else if o = 31 ∧ k = 3336 then 0 else mI m1 o k) := fun o k => by rw [← hm2]; rfl
      clear hm2
      simp only [v64] at I2
      have fr : ∀ o k, ¬ (o = 2 ∧ k = 1 ∨ o = M ∧ k = 3 ∨ o = 31 ∧ (k = 64 ∨ k = 3336)) → mI m2 o k = mI m o k := fun o k ho => by rw [I2]; (repeat (first | rw [if_pos (by omega)] | rw [if_neg (by omega)])); rw [I1]; (repeat (first | rw [if_pos (by omega)] | rw [if_neg (by omega)]))
      refine ⟨by omega, h.low (T2.trans T1) (R2.trans R1) (N2.trans N1) (Z2.trans Z1) (fun o k ho => fr o k (by omega)) (fun q => q.fr (fun o k ho => fr o k (by omega))) (fun q => q.fr (fun o k ho => fr o k (by omega))) (fun q => q.fr (fun o k ho => fr o k (by omega))) (fun q => q.fr (fun o k ho => fr o k (by omega))) r1 ⟨(fun _ => ⟨?_, fun k hk => ?_⟩), (fun q => q.fr (fun k _ _ => fr _ _ (by omega)) (fun k _ _ => fr _ _ (by omega))), (fun k _ _ => fr _ _ (by omega)), (fun _ => MatG.nil (by rw [I2]; (repeat (first | rw [if_pos (by omega)] | rw [if_neg (by omega)])); rw [I1]; (repeat (first | rw [if_pos (by omega)] | rw [if_neg (by omega)]))) (by rw [I2]; (repeat (first | rw [if_pos (by omega)] | rw [if_neg (by omega)]))))⟩⟩
      · show mI m2 2 1 = mI m2 31 64 ∧ 0 ≤ mI m2 31 64 ∧ mI m2 31 64 ≤ 32
        have w1 : mI m2 2 1 = mI m 31 64 - 1 := by rw [I2, I1]; (repeat (first | rw [if_pos (by omega)] | rw [if_neg (by omega)])) <;> omega
        have w2 : mI m2 31 64 = mI m 31 64 - 1 := by rw [I2]; (repeat (first | rw [if_pos (by omega)] | rw [if_neg (by omega)])) <;> omega
        omega
      · show mI m2 3 k = mI m2 31 k ∧ -999 ≤ mI m2 31 k ∧ mI m2 31 k ≤ 1000
        rw [fr 3 k (by omega), fr 31 k (by omega)]; exact e2 k hk

theorem op_feed {tt : Nat} {m : Mem} (h : Inv tt m) (a : Int) : Op tt m μX10_feed μX11_feed 1 1 [vi a] := by
  obtain ⟨⟨hr, hL, ha⟩, ⟨g1, g2, g3, g4⟩, hk, M, M2, hM, r1, r2, s1, s2, s3, s4, s5, s6⟩ := id h
  have hM' : M = 5 ∨ M = 18 := by omega
  have e1 : mI m 2 1 = mI m 31 64 ∧ 0 ≤ mI m 31 64 ∧ mI m 31 64 ≤ 32 := s2.1
  have e2 : ∀ k, k < 64 → mI m 3 k = mI m 31 k ∧ -999 ≤ mI m 31 k ∧ mI m 31 k ≤ 1000 := s2.2
  have e3 := g1.1
  have tM := hL.mat hM'
  refine ⟨_, c_feed m a hL ⟨by omega, by omega⟩, fun x m1 hp => ?_⟩
  rcases hp with ⟨c, rfl, rfl⟩ | ⟨c, rfl, rfl⟩ | ⟨c, hx, hm⟩
  · refine ⟨(by first | exact hL.t30 | exact L1.t30 | exact (hC.lay hS).t30 | (rw [T1]; exact hL.t30) | (rw [b1]; exact hL.t30)), _, r_feed m a hL e3.2, fun y m2 hq => ?_⟩
    rcases hq with ⟨c2, rfl, rfl⟩ | ⟨c2, rfl, rfl⟩ | ⟨c2, hy, hm2⟩
    · exact ⟨rfl, h.tick⟩
    · exfalso; omega
    · exfalso; omega
  · refine ⟨(by first | exact hL.t30 | exact L1.t30 | exact (hC.lay hS).t30 | (rw [T1]; exact hL.t30) | (rw [b1]; exact hL.t30)), _, r_feed m a hL e3.2, fun y m2 hq => ?_⟩
    rcases hq with ⟨c2, rfl, rfl⟩ | ⟨c2, rfl, rfl⟩ | ⟨c2, hy, hm2⟩
    · exfalso; omega
    · exact ⟨rfl, h.tick⟩
    · exfalso; omega
  · have T1 : mT m1 = mT m := by rw [← hm]; rfl
    have R1 : mR m1 = mR m := by rw [← hm]; rfl
    have N1 : mN m1 = mN m := by rw [← hm]; rfl
    have Z1 : mZ m1 = mZ m := by rw [← hm]; rfl
    have I1 : ∀ o k, mI m1 o k = (if o = 13 ∧ k = 1 then mI m 13 1 + 1 else if o = 14 ∧ k = (mI m 13 1).toNat then a else mI m o k) := fun o k => by rw [← hm]; rfl
    clear hm
    have v4 : mI m1 30 4 = mI m 30 4 := by rw [I1]; (repeat (first | rw [if_pos (by omega)] | rw [if_neg (by omega)]))
    refine ⟨(by first | exact hL.t30 | exact L1.t30 | exact (hC.lay hS).t30 | (rw [T1]; exact hL.t30) | (rw [b1]; exact hL.t30)), _, r_feed m1 a (by rw [T1, R1]; exact hL) (by rw [v4]; exact e3.2), fun y m2 hq => ?_⟩
    rcases hq with ⟨c2, rfl, rfl⟩ | ⟨c2, rfl, rfl⟩ | ⟨c2, hy, hm2⟩
    · exfalso; omega
    · exfalso; omega
    · have T2 : mT m2 = mT m1 := by rw [← hm2]; rfl
      have R2 : mR m2 = mR m1 := by rw [← hm2]; rfl
      have N2 : mN m2 = mN m1 := by rw [← hm2]; rfl
      have Z2 : mZ m2 = mZ m1 := by rw [← hm2]; rfl
      have I2 : ∀ o k, mI m2 o k = (if o = 30 ∧ k = 4 then mI m1 30 4 + 1 else if o = 33 ∧ k = (mI m1 30 4).toNat then a else mI m1 o k) := fun o k => by rw [← hm2]; rfl
      clear hm2
      simp only [v4] at I2
      have fr : ∀ o k, ¬ (o = 14 ∨ o = 13 ∧ k = 1 ∨ o = 33 ∨ o = 30 ∧ k = 4) → mI m2 o k = mI m o k := fun o k ho => by rw [I2]; (repeat (first | rw [if_pos (by omega)] | rw [if_neg (by omega)])); rw [I1]; (repeat (first | rw [if_pos (by omega)] | rw [if_neg (by omega)]))
      refine ⟨by omega, h.low (T2.trans T1) (R2.trans R1) (N2.trans N1) (Z2.trans Z1) (fun o k ho => fr o k (by omega)) (fun q => ⟨?_, fun k hk => ?_⟩) (fun q => q.fr (fun o k ho => fr o k (by omega))) (fun q => q.fr (fun o k ho => fr o k (by omega))) (fun q => q.fr (fun o k ho => fr o k (by omega))) r1 ⟨(fun q => q.fr (fr _ _ (by omega)) (fun k _ => fr _ _ (by omega)) (fun k _ => fr _ _ (by omega))), (fun q => q.fr (fun k _ _ => fr _ _ (by omega)) (fun k _ _ => fr _ _ (by omega))), (fun k _ _ => fr _ _ (by omega)), (fun q => q.mv (fun x k _ _ => fr _ _ (by omega)) (fr _ _ (by omega)) (fun k _ => fr _ _ (by omega)))⟩⟩
      · have w1 : mI m2 13 1 = mI m 30 4 + 1 := by rw [I2, I1]; (repeat (first | rw [if_pos (by omega)] | rw [if_neg (by omega)])) <;> omega
        have w2 : mI m2 30 4 = mI m 30 4 + 1 := by rw [I2]; (repeat (first | rw [if_pos (by omega)] | rw [if_neg (by omega)])) <;> omega
        omega
      · have w2 : mI m2 30 4 = mI m 30 4 + 1 := by rw [I2]; (repeat (first | rw [if_pos (by omega)] | rw [if_neg (by omega)])) <;> omega
        rw [w2] at hk
        rcases (show k = (mI m 30 4).toNat ∨ (k ≠ (mI m 30 4).toNat ∧ (k : Int) < mI m 30 4) by omega) with e | e
        · have w3 : mI m2 14 k = a := by rw [I2, I1]; (repeat (first | rw [if_pos (by omega)] | rw [if_neg (by omega)]))
          have w4 : mI m2 33 k = a := by rw [I2]; (repeat (first | rw [if_pos (by omega)] | rw [if_neg (by omega)]))
          omega
        · have w3 : mI m2 14 k = mI m 14 k := by rw [I2, I1]; (repeat (first | rw [if_pos (by omega)] | rw [if_neg (by omega)]))
          have w4 : mI m2 33 k = mI m 33 k := by rw [I2, I1]; (repeat (first | rw [if_pos (by omega)] | rw [if_neg (by omega)]))
          rw [w3, w4]; exact q.2 k e.2

theorem op_clear {tt : Nat} {m : Mem} (h : Inv tt m)  : Op tt m μX10_clear μX11_clear 1 1 [] := by
  obtain ⟨⟨hr, hL, ha⟩, ⟨g1, g2, g3, g4⟩, hk, M, M2, hM, r1, r2, s1, s2, s3, s4, s5, s6⟩ := id h
  have hM' : M = 5 ∨ M = 18 := by omega
  have e1 : mI m 2 1 = mI m 31 64 ∧ 0 ≤ mI m 31 64 ∧ mI m 31 64 ≤ 32 := s2.1
  have e2 : ∀ k, k < 64 → mI m 3 k = mI m 31 k ∧ -999 ≤ mI m 31 k ∧ mI m 31 k ≤ 1000 := s2.2
  have e3 := g1.1
  have tM := hL.mat hM'
  refine ⟨_, c_clear m hL, fun x m1 hp => ?_⟩
  rcases hp with ⟨c, hx, hm⟩
  · have T1 : mT m1 = mT m := by rw [← hm]; rfl
    have R1 : mR m1 = mR m := by rw [← hm]; rfl
    have N1 : mN m1 = mN m := by rw [← hm]; rfl
    have Z1 : mZ m1 = mZ m := by rw [← hm]; rfl
    have I1 : ∀ o k, mI m1 o k = (if o = 13 ∧ k = 1 then 0 else mI m o k) := fun o k => by rw [← hm]; rfl
    clear hm
    have v4 : mI m1 30 4 = mI m 30 4 := by rw [I1]; (repeat (first | rw [if_pos (by omega)] | rw [if_neg (by omega)]))
    refine ⟨(by first | exact hL.t30 | exact L1.t30 | exact (hC.lay hS).t30 | (rw [T1]; exact hL.t30) | (rw [b1]; exact hL.t30)), _, r_clear m1 (by rw [T1, R1]; exact hL), fun y m2 hq => ?_⟩
    rcases hq with ⟨c2, hy, hm2⟩
    · have T2 : mT m2 = mT m1 := by rw [← hm2]; rfl
      have R2 : mR m2 = mR m1 := by rw [← hm2]; rfl
      have N2 : mN m2 = mN m1 := by rw [← hm2]; rfl
      have Z2 : mZ m2 = mZ m1 := by rw [← hm2]; rfl
      have I2 : ∀ o k, mI m2 o k = (if o = 30 ∧ k = 4 then 0 else mI m1 o k) := fun o k => by rw [← hm2]; rfl
      clear hm2
      have fr : ∀ o k, ¬ (o = 13 ∧ k = 1 ∨ o = 30 ∧ k = 4) → mI m2 o k = mI m o k := fun o k ho => by rw [I2]; (repeat (first | rw [if_pos (by omega)] | rw [if_neg (by omega)])); rw [I1]; (repeat (first | rw [if_pos (by omega)] | rw [if_neg (by omega)]))
      refine ⟨by omega, h.low (T2.trans T1) (R2.trans R1) (N2.trans N1) (Z2.trans Z1) (fun o k ho => fr o k (by omega)) (fun q => ⟨?_, fun k hk => ?_⟩) (fun q => q.fr (fun o k ho => fr o k (by omega))) (fun q => q.fr (fun o k ho => fr o k (by omega))) (fun q => q.fr (fun o k ho => fr o k (by omega))) r1 ⟨(fun q => q.fr (fr _ _ (by omega)) (fun k _ => fr _ _ (by omega)) (fun k _ => fr _ _ (by omega))), (fun q => q.fr (fun k _ _ => fr _ _ (by omega)) (fun k _ _ => fr _ _ (by omega))), (fun k _ _ => fr _ _ (by omega)), (fun q => q.mv (fun x k _ _ => fr _ _ (by omega)) (fr _ _ (by omega)) (fun k _ => fr _ _ (by omega)))⟩⟩
      · have w1 : mI m2 13 1 = 0 := by rw [I2, I1]; (repeat (first | rw [if_pos (by omega)] | rw [if_neg (by omega)]))
        have w2 : mI m2 30 4 = 0 := by rw [I2]; (repeat (first | rw [if_pos (by omega)] | rw [if_neg (by omega)]))
        omega
      · have w2 : mI m2 30 4 = 0 := by rw [I2]; (repeat (first | rw [if_pos (by omega)] | rw [if_neg (by omega)]))
        omega

theorem op_mode {tt : Nat} {m : Mem} (h : Inv tt m) (a b : Int) : Op tt m μX10_mode μX11_mode 1 1 [vi a, vi b] := by
  obtain ⟨⟨hr, hL, ha⟩, ⟨g1, g2, g3, g4⟩, hk, M, M2, hM, r1, r2, s1, s2, s3, s4, s5, s6⟩ := id h
  have hM' : M = 5 ∨ M = 18 := by omega
  have e1 : mI m 2 1 = mI m 31 64 ∧ 0 ≤ mI m 31 64 ∧ mI m 31 64 ≤ 32 := s2.1
  have e2 : ∀ k, k < 64 → mI m 3 k = mI m 31 k ∧ -999 ≤ mI m 31 k ∧ mI m 31 k ≤ 1000 := s2.2
  have e3 := g1.1
  have tM := hL.mat hM'
  obtain ⟨d1, d2, d3, d4⟩ := id s3
  refine ⟨_, c_mode m a b hL (by omega), fun x m1 hp => ?_⟩
  rcases hp with ⟨c, rfl, rfl⟩ | ⟨c, hx, hm⟩
  · refine ⟨(by first | exact hL.t30 | exact L1.t30 | exact (hC.lay hS).t30 | (rw [T1]; exact hL.t30) | (rw [b1]; exact hL.t30)), _, r_mode m a b hL (by omega), fun y m2 hq => ?_⟩
    rcases hq with ⟨c2, rfl, rfl⟩ | ⟨c2, hy, hm2⟩
    · exact ⟨rfl, h.tick⟩
    · exfalso; omega
  · have T1 : mT m1 = mT m := by rw [← hm]; rfl
    have R1 : mR m1 = mR m := by rw [← hm]; rfl
    have N1 : mN m1 = mN m := by rw [← hm]; rfl
    have Z1 : mZ m1 = mZ m := by rw [← hm]; rfl
    have I1 : ∀ o k, mI m1 o k = (if o = 1 ∧ k = 5 then b else if o = 1 ∧ k = 4 then a else mI m o k) := fun o k => by rw [← hm]; rfl
    clear hm
    have v32 : mI m1 31 3332 = mI m 31 3332 := by rw [I1]; (repeat (first | rw [if_pos (by omega)] | rw [if_neg (by omega)]))
    have v33 : mI m1 31 3333 = mI m 31 3333 := by rw [I1]; (repeat (first | rw [if_pos (by omega)] | rw [if_neg (by omega)]))
    refine ⟨(by first | exact hL.t30 | exact L1.t30 | exact (hC.lay hS).t30 | (rw [T1]; exact hL.t30) | (rw [b1]; exact hL.t30)), _, r_mode m1 a b (by rw [T1, R1]; exact hL) (by rw [v32, v33]; omega), fun y m2 hq => ?_⟩
    rcases hq with ⟨c2, rfl, rfl⟩ | ⟨c2, hy, hm2⟩
    · exfalso; omega
    · have T2 : mT m2 = mT m1 := by rw [← hm2]; rfl
      have R2 : mR m2 = mR m1 := by rw [← hm2]; rfl
      have N2 : mN m2 = mN m1 := by rw [← hm2]; rfl
      have Z2 : mZ m2 = mZ m1 := by rw [← hm2]; rfl
      have I2 : ∀ o k, mI m2 o k = (if o = 31 ∧ k = 3333 then b else if o = 31 ∧ k = 3332 then a else mI m1 o k) := fun o k => by rw [← hm2]; rfl
      clear hm2
      have fr : ∀ o k, ¬ (o = 1 ∧ (k = 4 ∨ k = 5) ∨ o = 31 ∧ (k = 3332 ∨ k = 3333)) → mI m2 o k = mI m o k := fun o k ho => by rw [I2]; (repeat (first | rw [if_pos (by omega)] | rw [if_neg (by omega)])); rw [I1]; (repeat (first | rw [if_pos (by omega)] | rw [if_neg (by omega)]))
      refine ⟨by omega, h.low (T2.trans T1) (R2.trans R1) (N2.trans N1) (Z2.trans Z1) (fun o k ho => fr o k (by omega)) (fun q => q.fr (fun o k ho => fr o k (by omega))) (fun q => q.fr (fun o k ho => fr o k (by omega))) (fun q => q.fr (fun o k ho => fr o k (by omega))) (fun q => q.fr (fun o k ho => fr o k (by omega))) r1 ⟨(fun q => q.fr (fr _ _ (by omega)) (fun k _ => fr _ _ (by omega)) (fun k _ => fr _ _ (by omega))), (fun _ => ?_), (fun k _ _ => fr _ _ (by omega)), (fun q => q.mv (fun x k _ _ => fr _ _ (by omega)) (fr _ _ (by omega)) (fun k _ => fr _ _ (by omega)))⟩⟩
      have p0 : mI m2 1 4 = a := by rw [I2, I1]; (repeat (first | rw [if_pos (by omega)] | rw [if_neg (by omega)]))
      have q0 : mI m2 31 3332 = a := by rw [I2]; (repeat (first | rw [if_pos (by omega)] | rw [if_neg (by omega)])) <;> (rw [I1]; (repeat (first | rw [if_pos (by omega)] | rw [if_neg (by omega)])))
      have p1 : mI m2 1 5 = b := by rw [I2, I1]; (repeat (first | rw [if_pos (by omega)] | rw [if_neg (by omega)]))
      have q1 : mI m2 31 3333 = b := by rw [I2]; (repeat (first | rw [if_pos (by omega)] | rw [if_neg (by omega)])) <;> (rw [I1]; (repeat (first | rw [if_pos (by omega)] | rw [if_neg (by omega)])))
      have p2 : mI m2 1 6 = mI m 1 6 := by rw [I2, I1]; (repeat (first | rw [if_pos (by omega)] | rw [if_neg (by omega)]))
      have q2 : mI m2 31 3334 = mI m 31 3334 := by rw [I2]; (repeat (first | rw [if_pos (by omega)] | rw [if_neg (by omega)])) <;> (rw [I1]; (repeat (first | rw [if_pos (by omega)] | rw [if_neg (by omega)])))
      have p3 : mI m2 1 7 = mI m 1 7 := by rw [I2, I1]; (repeat (first | rw [if_pos (by omega)] | rw [if_neg (by omega)]))
      have q3 : mI m2 31 3335 = mI m 31 3335 := by rw [I2]; (repeat (first | rw [if_pos (by omega)] | rw [if_neg (by omega)])) <;> (rw [I1]; (repeat (first | rw [if_pos (by omega)] | rw [if_neg (by omega)])))
      unfold ModG; rw [p0, p1, p2, p3, q0, q1, q2, q3]
      omega

theorem op_empties {tt : Nat} {m : Mem} (h : Inv tt m) (a : Int) : Op tt m μX10_empties μX11_empties 0 1 [vi a] := by
  obtain ⟨⟨hr, hL, ha⟩, ⟨g1, g2, g3, g4⟩, hk, M, M2, hM, r1, r2, s1, s2, s3, s4, s5, s6⟩ := id h
  have hM' : M = 5 ∨ M = 18 := by omega
  have e1 : mI m 2 1 = mI m 31 64 ∧ 0 ≤ mI m 31 64 ∧ mI m 31 64 ≤ 32 := s2.1
  have e2 : ∀ k, k < 64 → mI m 3 k = mI m 31 k ∧ -999 ≤ mI m 31 k ∧ mI m 31 k ≤ 1000 := s2.2
  have e3 := g1.1
  have tM := hL.mat hM'
  obtain ⟨d1, d2, d3, d4⟩ := id s3
  refine ⟨_, c_empties m a hL, fun x m1 hp => ?_⟩
  rcases hp with ⟨c, rfl, rfl⟩ | ⟨c, hx, hm⟩
  · refine ⟨(by first | exact hL.t30 | exact L1.t30 | exact (hC.lay hS).t30 | (rw [T1]; exact hL.t30) | (rw [b1]; exact hL.t30)), _, r_empties m a hL, fun y m2 hq => ?_⟩
    rcases hq with ⟨c2, rfl, rfl⟩ | ⟨c2, hy, hm2⟩
    · exact ⟨rfl, h.tick⟩
    · exfalso; omega
  · have T1 : mT m1 = mT m := by rw [← hm]; rfl
    have R1 : mR m1 = mR m := by rw [← hm]; rfl
    have N1 : mN m1 = mN m := by rw [← hm]; rfl
    have Z1 : mZ m1 = mZ m := by rw [← hm]; rfl
    have I1 : ∀ o k, mI m1 o k = (if o = 1 ∧ k = 6 then a else mI m o k) := fun o k => by rw [← hm]; rfl
    clear hm
    have v34 : mI m1 31 3334 = mI m 31 3334 := by rw [I1]; (repeat (first | rw [if_pos (by omega)] | rw [if_neg (by omega)]))
    refine ⟨(by first | exact hL.t30 | exact L1.t30 | exact (hC.lay hS).t30 | (rw [T1]; exact hL.t30) | (rw [b1]; exact hL.t30)), _, r_empties m1 a (by rw [T1, R1]; exact hL), fun y m2 hq => ?_⟩
    rcases hq with ⟨c2, rfl, rfl⟩ | ⟨c2, hy, hm2⟩
    · exfalso; omega
    · have T2 : mT m2 = mT m1 := by rw [← hm2]; rfl
      have R2 : mR m2 = mR m1 := by rw [← hm2]; rfl
      have N2 : mN m2 = mN m1 := by rw [← hm2]; rfl
      have Z2 : mZ m2 = mZ m1 := by rw [← hm2]; rfl
      have I2 : ∀ o k, mI m2 o k = (if o = 31 ∧ k = 3334 then a else mI m1 o k) := fun o k => by rw [← hm2]; rfl
      clear hm2
      have fr : ∀ o k, ¬ (o = 1 ∧ k = 6 ∨ o = 31 ∧ k = 3334) → mI m2 o k = mI m o k := fun o k ho => by rw [I2]; (repeat (first | rw [if_pos (by omega)] | rw [if_neg (by omega)])); rw [I1]; (repeat (first | rw [if_pos (by omega)] | rw [if_neg (by omega)]))
      refine ⟨by omega, h.low (T2.trans T1) (R2.trans R1) (N2.trans N1) (Z2.trans Z1) (fun o k ho => fr o k (by omega)) (fun q => q.fr (fun o k ho => fr o k (by omega))) (fun q => q.fr (fun o k ho => fr o k (by omega))) (fun q => q.fr (fun o k ho => fr o k (by omega))) (fun q => q.fr (fun o k ho => fr o k (by omega))) r1 ⟨(fun q => q.fr (fr _ _ (by omega)) (fun k _ => fr _ _ (by omega)) (fun k _ => fr _ _ (by omega))), (fun _ => ?_), (fun k _ _ => fr _ _ (by omega)), (fun q => q.mv (fun x k _ _ => fr _ _ (by omega)) (fr _ _ (by omega)) (fun k _ => fr _ _ (by omega)))⟩⟩
      have p0 : mI m2 1 4 = mI m 1 4 := by rw [I2, I1]; (repeat (first | rw [if_pos (by omega)] | rw [if_neg (by omega)]))
      have q0 : mI m2 31 3332 = mI m 31 3332 := by rw [I2]; (repeat (first | rw [if_pos (by omega)] | rw [if_neg (by omega)])) <;> (rw [I1]; (repeat (first | rw [if_pos (by omega)] | rw [if_neg (by omega)])))
      have p1 : mI m2 1 5 = mI m 1 5 := by rw [I2, I1]; (repeat (first | rw [if_pos (by omega)] | rw [if_neg (by omega)]))
      have q1 : mI m2 31 3333 = mI m 31 3333 := by rw [I2]; (repeat (first | rw [if_pos (by omega)] | rw [if_neg (by omega)])) <;> (rw [I1]; (repeat (first | rw [if_pos (by omega)] | rw [if_neg (by omega)])))
      have p2 : mI m2 1 6 = a := by rw [I2, I1]; (repeat (first | rw [if_pos (by omega)] | rw [if_neg (by omega)]))
      have q2 : mI m2 31 3334 = a := by rw [I2]; (repeat (first | rw [if_pos (by omega)] | rw [if_neg (by omega)])) <;> (rw [I1]; (repeat (first | rw [if_pos (by omega)] | rw [if_neg (by omega)])))
      have p3 : mI m2 1 7 = mI m 1 7 := by rw [I2, I1]; (repeat (first | rw [if_pos (by omega)] | rw [if_neg (by omega)]))
      have q3 : mI m2 31 3335 = mI m 31 3335 := by rw [I2]; (repeat (first | rw [if_pos (by omega)] | rw [if_neg (by omega)])) <;> (rw [I1]; (repeat (first | rw [if_pos (by omega)] | rw [if_neg (by omega)])))
      unfold ModG; rw [p0, p1, p2, p3, q0, q1, q2, q3]
      omega

theorem op_may {tt : Nat} {m : Mem} (h : Inv tt m) (a : Int) : Op tt m μX10_may μX11_may 0 1 [vi a] := by
  obtain ⟨⟨hr, hL, ha⟩, ⟨g1, g2, g3, g4⟩, hk, M, M2, hM, r1, r2, s1, s2, s3, s4, s5, s6⟩ := id h
  have hM' : M = 5 ∨ M = 18 := by omega
  have e1 : mI m 2 1 = mI m 31 64 ∧ 0 ≤ mI m 31 64 ∧ mI m 31 64 ≤ 32 := s2.1
  have e2 : ∀ k, k < 64 → mI m 3 k = mI m 31 k ∧ -999 ≤ mI m 31 k ∧ mI m 31 k ≤ 1000 := s2.2
  have e3 := g1.1
  have tM := hL.mat hM'
  obtain ⟨d1, d2, d3, d4⟩ := id s3
  refine ⟨_, c_may m a hL, fun x m1 hp => ?_⟩
  rcases hp with ⟨c, rfl, rfl⟩ | ⟨c, hx, hm⟩
  · refine ⟨(by first | exact hL.t30 | exact L1.t30 | exact (hC.lay hS).t30 | (rw [T1]; exact hL.t30) | (rw [b1]; exact hL.t30)), _, r_may m a hL, fun y m2 hq => ?_⟩
    rcases hq with ⟨c2, rfl, rfl⟩ | ⟨c2, hy, hm2⟩
    · exact ⟨rfl, h.tick⟩
    · exfalso; omega
  · have T1 : mT m1 = mT m := by rw [← hm]; rfl
    have R1 : mR m1 = mR m := by rw [← hm]; rfl
    have N1 : mN m1 = mN m := by rw [← hm]; rfl
    have Z1 : mZ m1 = mZ m := by rw [← hm]; rfl
    have I1 : ∀ o k, mI m1 o k = (if o = 1 ∧ k = 7 then a else mI m o k) := fun o k => by rw [← hm]; rfl
    clear hm
    have v35 : mI m1 31 3335 = mI m 31 3335 := by rw [I1]; (repeat (first | rw [if_pos (by omega)] | rw [if_neg (by omega)]))
    refine ⟨(by first | exact hL.t30 | exact L1.t30 | exact (hC.lay hS).t30 | (rw [T1]; exact hL.t30) | (rw [b1]; exact hL.t30)), _, r_may m1 a (by rw [T1, R1]; exact hL), fun y m2 hq => ?_⟩
    rcases hq with ⟨c2, rfl, rfl⟩ | ⟨c2, hy, hm2⟩
    · exfalso; omega
    · have T2 : mT m2 = mT m1 := by rw [← hm2]; rfl
      have R2 : mR m2 = mR m1 := by rw [← hm2]; rfl
      have N2 : mN m2 = mN m1 := by rw [← hm2]; rfl
      have Z2 : mZ m2 = mZ m1 := by rw [← hm2]; rfl
      have I2 : ∀ o k, mI m2 o k = (if o = 31 ∧ k = 3335 then a else mI m1 o k) := fun o k => by rw [← hm2]; rfl
      clear hm2
      have fr : ∀ o k, ¬ (o = 1 ∧ k = 7 ∨ o = 31 ∧ k = 3335) → mI m2 o k = mI m o k := fun o k ho => by rw [I2]; (repeat (first | rw [if_pos (by omega)] | rw [if_neg (by omega)])); rw [I1]; (repeat (first | rw [if_pos (by omega)] | rw [if_neg (by omega)]))
      refine ⟨by omega, h.low (T2.trans T1) (R2.trans R1) (N2.trans N1) (Z2.trans Z1) (fun o k ho => fr o k (by omega)) (fun q => q.fr (fun o k ho => fr o k (by omega))) (fun q => q.fr (fun o k ho => fr o k (by omega))) (fun q => q.fr (fun o k ho => fr o k (by omega))) (fun q => q.fr (fun o k ho => fr o k (by omega))) r1 ⟨(fun q => q.fr (fr _ _ (by omega)) (fun k _ => fr _ _ (by omega)) (fun k _ => fr _ _ (by omega))), (fun _ => ?_), (fun k _ _ => fr _ _ (by omega)), (fun q => q.mv (fun x k _ _ => fr _ _ (by omega)) (fr _ _ (by omega)) (fun k _ => fr _ _ (by omega)))⟩⟩
      have p0 : mI m2 1 4 = mI m 1 4 := by rw [I2, I1]; (repeat (first | rw [if_pos (by omega)] | rw [if_neg (by omega)]))
      have q0 : mI m2 31 3332 = mI m 31 3332 := by rw [I2]; (repeat (first | rw [if_pos (by omega)] | rw [if_neg (by omega)])) <;> (rw [I1]; (repeat (first | rw [if_pos (by omega)] | rw [if_neg (by omega)])))
      have p1 : mI m2 1 5 = mI m 1 5 := by rw [I2, I1]; (repeat (first | rw [if_pos (by omega)] | rw [if_neg (by omega)]))
      have q1 : mI m2 31 3333 = mI m 31 3333 := by rw [I2]; (repeat (first | rw [if_pos (by omega)] | rw [if_neg (by omega)])) <;> (rw [I1]; (repeat (first | rw [if_pos (by omega)] | rw [if_neg (by omega)])))
      have p2 : mI m2 1 6 = mI m 1 6 := by rw [I2, I1]; (repeat (first | rw [if_pos (by omega)] | rw [if_neg (by omega)]))
      have q2 : mI m2 31 3334 = mI m 31 3334 := by rw [I2]; (repeat (first | rw [if_pos (by omega)] | rw [if_neg (by omega)])) <;> (rw [I1]; (repeat (first | rw [if_pos (by omega)] | rw [if_neg (by omega)])))
      have p3 : mI m2 1 7 = a := by rw [I2, I1]; (repeat (first | rw [if_pos (by omega)] | rw [if_neg (by omega)]))
      have q3 : mI m2 31 3335 = a := by rw [I2]; (repeat (first | rw [if_pos (by omega)] | rw [if_neg (by omega)])) <;> (rw [I1]; (repeat (first | rw [if_pos (by omega)] | rw [if_neg (by omega)])))
      unfold ModG; rw [p0, p1, p2, p3, q0, q1, q2, q3]
      omega
