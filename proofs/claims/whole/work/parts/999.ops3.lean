/-! the lists: class and reference in one step -/
theorem op_list {tt : Nat} {m : Mem} (h : Inv tt m) (l n : Int) : Op tt m μX10_list μX11_list 2 2 [vi l, vi n] := by
  obtain ⟨⟨hr, hL, ha⟩, ⟨g1, g2, g3, g4⟩, hk, M, M2, hM, r1, r2, s1, s2, s3, s4, s5, s6⟩ := id h
  have hM' : M = 5 ∨ M = 18 := by omega
  have e1 : mI m 2 1 = mI m 31 64 ∧ 0 ≤ mI m 31 64 ∧ mI m 31 64 ≤ 32 := s2.1
  have e2 : ∀ k, k < 64 → mI m 3 k = mI m 31 k ∧ -999 ≤ mI m 31 k ∧ mI m 31 k ≤ 1000 := s2.2
  have e3 := g1.1
  have tM := hL.mat hM'
  refine ⟨_, c_list m l n hL, fun x m1 hp => ?_⟩
  rcases hp with ⟨c, rfl, rfl⟩ | ⟨c, rfl, rfl⟩ | ⟨c, rfl, rfl⟩ | ⟨c, hx, hm⟩
  · refine ⟨(by first | exact hL.t30 | exact L1.t30 | exact (hC.lay hS).t30 | (rw [T1]; exact hL.t30) | (rw [b1]; exact hL.t30)), _, r_list m l n hL, fun y m2 hq => ?_⟩
    rcases hq with ⟨c2, rfl, rfl⟩ | ⟨c2, rfl, rfl⟩ | ⟨c2, rfl, rfl⟩ | ⟨c2, hy, hm2⟩
    · exact ⟨rfl, h.tick⟩
    · exfalso; omega
    · exfalso; omega
    · exfalso; omega
  · refine ⟨(by first | exact hL.t30 | exact L1.t30 | exact (hC.lay hS).t30 | (rw [T1]; exact hL.t30) | (rw [b1]; exact hL.t30)), _, r_list m l n hL, fun y m2 hq => ?_⟩
    rcases hq with ⟨c2, rfl, rfl⟩ | ⟨c2, rfl, rfl⟩ | ⟨c2, rfl, rfl⟩ | ⟨c2, hy, hm2⟩
    · exfalso; omega
    · exact ⟨rfl, h.tick⟩
    · exfalso; omega
    · exfalso; omega
  · refine ⟨(by first | exact hL.t30 | exact L1.t30 | exact (hC.lay hS).t30 | (rw [T1]; exact hL.t30) | (rw [b1]; exact hL.t30)), _, r_list m l n hL, fun y m2 hq => ?_⟩
    rcases hq with ⟨c2, rfl, rfl⟩ | ⟨c2, rfl, rfl⟩ | ⟨c2, rfl, rfl⟩ | ⟨c2, hy, hm2⟩
    · exfalso; omega
    · exfalso; omega
    · exact ⟨rfl, h.tick⟩
    · exfalso; omega
  · have T1 : mT m1 = mT m := by rw [← hm]; rfl
    have R1 : mR m1 = mR m := by rw [← hm]; rfl
    have N1 : mN m1 = mN m := by rw [← hm]; rfl
    have Z1 : mZ m1 = mZ m := by rw [← hm]; rfl
    have I1 : ∀ o k, mI m1 o k = (if o = 22 + 2 * l.toNat ∧ k = 1 then n else if o = 23 + 2 * l.toNat ∧ 0 ≤ k ∧ k < 0 + 40 then 0 else mI m o k) := fun o k => by rw [← hm]; rfl
    clear hm
    refine ⟨(by first | exact hL.t30 | exact L1.t30 | exact (hC.lay hS).t30 | (rw [T1]; exact hL.t30) | (rw [b1]; exact hL.t30)), _, r_list m1 l n (by rw [T1, R1]; exact hL), fun y m2 hq => ?_⟩
    rcases hq with ⟨c2, rfl, rfl⟩ | ⟨c2, rfl, rfl⟩ | ⟨c2, rfl, rfl⟩ | ⟨c2, hy, hm2⟩
    · exfalso; omega
    · exfalso; omega
    · exfalso; omega
    · have T2 : mT m2 = mT m1 := by rw [← hm2]; rfl
      have R2 : mR m2 = mR m1 := by rw [← hm2]; rfl
      have N2 : mN m2 = mN m1 := by rw [← hm2]; rfl
      have Z2 : mZ m2 = mZ m1 := by rw [← hm2]; rfl
      have I2 : ∀ o k, mI m2 o k = (if o = 57 ∧ (40 * l).toNat ≤ k ∧ k < (40 * l).toNat + 40 then 0 else if o = 56 ∧ k = l.toNat then n else mI m1 o k) := fun o k => by rw [← hm2]; rfl
      clear hm2
      have fr : ∀ o k, ¬ (o = 23 + 2 * l.toNat ∨ o = 22 + 2 * l.toNat ∨ o = 56 ∨ o = 57) → mI m2 o k = mI m o k := fun o k ho => by rw [I2]; (repeat (first | rw [if_pos (by omega)] | rw [if_neg (by omega)])); rw [I1]; (repeat (first | rw [if_pos (by omega)] | rw [if_neg (by omega)]))
      refine ⟨by omega, h.low (T2.trans T1) (R2.trans R1) (N2.trans N1) (Z2.trans Z1) (fun o k ho => fr o k (by omega)) (fun q => q.fr (fun o k ho => fr o k (by omega))) (fun q => q.fr (fun o k ho => fr o k (by omega))) (fun q l' hl' => ⟨?_, fun k hk => ?_⟩) (fun q => q.fr (fun o k ho => fr o k (by omega))) r1 ⟨(fun q => q.fr (fr _ _ (by omega)) (fun k _ => fr _ _ (by omega)) (fun k _ => fr _ _ (by omega))), (fun q => q.fr (fun k _ _ => fr _ _ (by omega)) (fun k _ _ => fr _ _ (by omega))), (fun k _ _ => fr _ _ (by omega)), (fun q => q.mv (fun x k _ _ => fr _ _ (by omega)) (fr _ _ (by omega)) (fun k _ => fr _ _ (by omega)))⟩⟩
      · by_cases c3 : l' = l.toNat
        · have w1 : mI m2 (22 + 2 * l') 1 = n := by rw [I2, I1]; (repeat (first | rw [if_pos (by omega)] | rw [if_neg (by omega)]))
          have w2 : mI m2 56 l' = n := by rw [I2]; (repeat (first | rw [if_pos (by omega)] | rw [if_neg (by omega)]))
          rw [w1, w2]; omega
        · have w1 : mI m2 (22 + 2 * l') 1 = mI m (22 + 2 * l') 1 := by rw [I2, I1]; (repeat (first | rw [if_pos (by omega)] | rw [if_neg (by omega)]))
          have w2 : mI m2 56 l' = mI m 56 l' := by rw [I2, I1]; (repeat (first | rw [if_pos (by omega)] | rw [if_neg (by omega)]))
          rw [w1, w2]; exact (q l' hl').1
      · by_cases c3 : l' = l.toNat
        · have w1 : mI m2 (23 + 2 * l') k = 0 := by rw [I2, I1]; (repeat (first | rw [if_pos (by omega)] | rw [if_neg (by omega)]))
          have w2 : mI m2 57 (40 * l' + k) = 0 := by rw [I2]; (repeat (first | rw [if_pos (by omega)] | rw [if_neg (by omega)]))
          rw [w1, w2]
        · have w1 : mI m2 (23 + 2 * l') k = mI m (23 + 2 * l') k := by rw [I2, I1]; (repeat (first | rw [if_pos (by omega)] | rw [if_neg (by omega)]))
          have w2 : mI m2 57 (40 * l' + k) = mI m 57 (40 * l' + k) := by rw [I2, I1]; (repeat (first | rw [if_pos (by omega)] | rw [if_neg (by omega)]))
          rw [w1, w2]; exact (q l' hl').2 k hk

theorem op_put {tt : Nat} {m : Mem} (h : Inv tt m) (l i v : Int) : Op tt m μX10_put μX11_put 3 2 [vi l, vi i, vl v] := by
  obtain ⟨⟨hr, hL, ha⟩, ⟨g1, g2, g3, g4⟩, hk, M, M2, hM, r1, r2, s1, s2, s3, s4, s5, s6⟩ := id h
  have hM' : M = 5 ∨ M = 18 := by omega
  have e1 : mI m 2 1 = mI m 31 64 ∧ 0 ≤ mI m 31 64 ∧ mI m 31 64 ≤ 32 := s2.1
  have e2 : ∀ k, k < 64 → mI m 3 k = mI m 31 k ∧ -999 ≤ mI m 31 k ∧ mI m 31 k ≤ 1000 := s2.2
  have e3 := g1.1
  have tM := hL.mat hM'
  have kk : ∀ l : Int, 0 ≤ l ∧ l ≤ 3 → mI m (22 + 2 * l.toNat) 1 = mI m 56 l.toNat ∧ -1 ≤ mI m 56 l.toNat ∧ mI m 56 l.toNat ≤ 40 := fun l q => (g3 l.toNat (by omega)).1
  have kl := kk l
  refine ⟨_, c_put m l i v hL, fun x m1 hp => ?_⟩
  rcases hp with ⟨c, rfl, rfl⟩ | ⟨c, rfl, rfl⟩ | ⟨c, rfl, rfl⟩ | ⟨c, hx, hm⟩
  · refine ⟨(by first | exact hL.t30 | exact L1.t30 | exact (hC.lay hS).t30 | (rw [T1]; exact hL.t30) | (rw [b1]; exact hL.t30)), _, r_put m l i v hL (fun l q => (kk l q).2), fun y m2 hq => ?_⟩
    rcases hq with ⟨c2, rfl, rfl⟩ | ⟨c2, rfl, rfl⟩ | ⟨c2, rfl, rfl⟩ | ⟨c2, hy, hm2⟩
    · exact ⟨rfl, h.tick⟩
    · exfalso; omega
    · exfalso; omega
    · exfalso; omega
  · refine ⟨(by first | exact hL.t30 | exact L1.t30 | exact (hC.lay hS).t30 | (rw [T1]; exact hL.t30) | (rw [b1]; exact hL.t30)), _, r_put m l i v hL (fun l q => (kk l q).2), fun y m2 hq => ?_⟩
    rcases hq with ⟨c2, rfl, rfl⟩ | ⟨c2, rfl, rfl⟩ | ⟨c2, rfl, rfl⟩ | ⟨c2, hy, hm2⟩
    · exfalso; omega
    · exact ⟨rfl, h.tick⟩
    · exfalso; omega
    · exfalso; omega
  · refine ⟨(by first | exact hL.t30 | exact L1.t30 | exact (hC.lay hS).t30 | (rw [T1]; exact hL.t30) | (rw [b1]; exact hL.t30)), _, r_put m l i v hL (fun l q => (kk l q).2), fun y m2 hq => ?_⟩
    rcases hq with ⟨c2, rfl, rfl⟩ | ⟨c2, rfl, rfl⟩ | ⟨c2, rfl, rfl⟩ | ⟨c2, hy, hm2⟩
    · exfalso; omega
    · exfalso; omega
    · exact ⟨rfl, h.tick⟩
    · exfalso; omega
  · have T1 : mT m1 = mT m := by rw [← hm]; rfl
    have R1 : mR m1 = mR m := by rw [← hm]; rfl
    have N1 : mN m1 = mN m := by rw [← hm]; rfl
    have Z1 : mZ m1 = mZ m := by rw [← hm]; rfl
    have I1 : ∀ o k, mI m1 o k = (if o = 23 + 2 * l.toNat ∧ k = i.toNat then v else mI m o k) := fun o k => by rw [← hm]; rfl
    clear hm
    have v56 : ∀ p, mI m1 56 p = mI m 56 p := fun p => by rw [I1]; (repeat (first | rw [if_pos (by omega)] | rw [if_neg (by omega)]))
    have x56 := v56 l.toNat
    refine ⟨(by first | exact hL.t30 | exact L1.t30 | exact (hC.lay hS).t30 | (rw [T1]; exact hL.t30) | (rw [b1]; exact hL.t30)), _, r_put m1 l i v (by rw [T1, R1]; exact hL) (fun l q => by rw [v56]; exact (kk l q).2), fun y m2 hq => ?_⟩
    rcases hq with ⟨c2, rfl, rfl⟩ | ⟨c2, rfl, rfl⟩ | ⟨c2, rfl, rfl⟩ | ⟨c2, hy, hm2⟩
    · exfalso; omega
    · exfalso; omega
    · exfalso; omega
    · have T2 : mT m2 = mT m1 := by rw [← hm2]; rfl
      have R2 : mR m2 = mR m1 := by rw [← hm2]; rfl
      have N2 : mN m2 = mN m1 := by rw [← hm2]; rfl
      have Z2 : mZ m2 = mZ m1 := by rw [← hm2]; rfl
      have I2 : ∀ o k, mI m2 o k = (if o = 57 ∧ k = (40 * l + i).toNat then v else mI m1 o k) := fun o k => by rw [← hm2]; rfl
      clear hm2
      have fr : ∀ o k, ¬ (o = 23 + 2 * l.toNat ∨ o = 57) → mI m2 o k = mI m o k := fun o k ho => by rw [I2]; (repeat (first | rw [if_pos (by omega)] | rw [if_neg (by omega)])); rw [I1]; (repeat (first | rw [if_pos (by omega)] | rw [if_neg (by omega)]))
      refine ⟨by omega, h.low (T2.trans T1) (R2.trans R1) (N2.trans N1) (Z2.trans Z1) (fun o k ho => fr o k (by omega)) (fun q => q.fr (fun o k ho => fr o k (by omega))) (fun q => q.fr (fun o k ho => fr o k (by omega))) (fun q l' hl' => ⟨?_, fun k hk => ?_⟩) (fun q => q.fr (fun o k ho => fr o k (by omega))) r1 ⟨(fun q => q.fr (fr _ _ (by omega)) (fun k _ => fr _ _ (by omega)) (fun k _ => fr _ _ (by omega))), (fun q => q.fr (fun k _ _ => fr _ _ (by omega)) (fun k _ _ => fr _ _ (by omega))), (fun k _ _ => fr _ _ (by omega)), (fun q => q.mv (fun x k _ _ => fr _ _ (by omega)) (fr _ _ (by omega)) (fun k _ => fr _ _ (by omega)))⟩⟩
      · have w1 : mI m2 (22 + 2 * l') 1 = mI m (22 + 2 * l') 1 := by rw [I2]; (repeat (first | rw [if_pos (by omega)] | rw [if_neg (by omega)])); rw [I1]; (repeat (first | rw [if_pos (by omega)] | rw [if_neg (by omega)]))
        have w2 : mI m2 56 l' = mI m 56 l' := by rw [I2]; (repeat (first | rw [if_pos (by omega)] | rw [if_neg (by omega)])); rw [I1]; (repeat (first | rw [if_pos (by omega)] | rw [if_neg (by omega)]))
        rw [w1, w2]; exact (q l' hl').1
      · by_cases c3 : l' = l.toNat ∧ k = i.toNat
        · have w1 : mI m2 (23 + 2 * l') k = v := by rw [I2, I1]; (repeat (first | rw [if_pos (by omega)] | rw [if_neg (by omega)]))
          have w2 : mI m2 57 (40 * l' + k) = v := by rw [I2]; (repeat (first | rw [if_pos (by omega)] | rw [if_neg (by omega)]))
          rw [w1, w2]
        · have w1 : mI m2 (23 + 2 * l') k = mI m (23 + 2 * l') k := by rw [I2, I1]; (repeat (first | rw [if_pos (by omega)] | rw [if_neg (by omega)]))
          have w2 : mI m2 57 (40 * l' + k) = mI m 57 (40 * l' + k) := by rw [I2, I1]; (repeat (first | rw [if_pos (by omega)] | rw [if_neg (by omega)]))
          rw [w1, w2]; exact (q l' hl').2 k hk

theorem op_move {tt : Nat} {m : Mem} (h : Inv tt m) (l i p j n : Int) : Op tt m μX10_move μX11_move 2 2 [vi l, vi i, vi p, vi j, vi n] := by
  obtain ⟨⟨hr, hL, ha⟩, ⟨g1, g2, g3, g4⟩, hk, M, M2, hM, r1, r2, s1, s2, s3, s4, s5, s6⟩ := id h
  have hM' : M = 5 ∨ M = 18 := by omega
  have e1 : mI m 2 1 = mI m 31 64 ∧ 0 ≤ mI m 31 64 ∧ mI m 31 64 ≤ 32 := s2.1
  have e2 : ∀ k, k < 64 → mI m 3 k = mI m 31 k ∧ -999 ≤ mI m 31 k ∧ mI m 31 k ≤ 1000 := s2.2
  have e3 := g1.1
  have tM := hL.mat hM'
  have kk : ∀ l : Int, 0 ≤ l ∧ l ≤ 3 → mI m (22 + 2 * l.toNat) 1 = mI m 56 l.toNat ∧ -1 ≤ mI m 56 l.toNat ∧ mI m 56 l.toNat ≤ 40 := fun l q => (g3 l.toNat (by omega)).1
  have kl := kk l
  have kp := kk p
  refine ⟨_, c_move m l i p j n hL (fun l q => by have := kk l q; omega), fun x m1 hp => ?_⟩
  rcases hp with ⟨c, rfl, rfl⟩ | ⟨c, rfl, rfl⟩ | ⟨c, rfl, rfl⟩ | ⟨c, hx, hm⟩
  · refine ⟨(by first | exact hL.t30 | exact L1.t30 | exact (hC.lay hS).t30 | (rw [T1]; exact hL.t30) | (rw [b1]; exact hL.t30)), _, r_move m l i p j n hL (fun l q => (kk l q).2), fun y m2 hq => ?_⟩
    rcases hq with ⟨c2, rfl, rfl⟩ | ⟨c2, rfl, rfl⟩ | ⟨c2, rfl, rfl⟩ | ⟨c2, hy, hm2⟩
    · exact ⟨rfl, h.tick⟩
    · exfalso; omega
    · exfalso; omega
    · exfalso; omega
  · refine ⟨(by first | exact hL.t30 | exact L1.t30 | exact (hC.lay hS).t30 | (rw [T1]; exact hL.t30) | (rw [b1]; exact hL.t30)), _, r_move m l i p j n hL (fun l q => (kk l q).2), fun y m2 hq => ?_⟩
    rcases hq with ⟨c2, rfl, rfl⟩ | ⟨c2, rfl, rfl⟩ | ⟨c2, rfl, rfl⟩ | ⟨c2, hy, hm2⟩
    · exfalso; omega
    · exact ⟨rfl, h.tick⟩
    · exfalso; omega
    · exfalso; omega
  · refine ⟨(by first | exact hL.t30 | exact L1.t30 | exact (hC.lay hS).t30 | (rw [T1]; exact hL.t30) | (rw [b1]; exact hL.t30)), _, r_move m l i p j n hL (fun l q => (kk l q).2), fun y m2 hq => ?_⟩
    rcases hq with ⟨c2, rfl, rfl⟩ | ⟨c2, rfl, rfl⟩ | ⟨c2, rfl, rfl⟩ | ⟨c2, hy, hm2⟩
    · exfalso; omega
    · exfalso; omega
    · exact ⟨rfl, h.tick⟩
    · exfalso; omega
  · have T1 : mT m1 = mT m := by rw [← hm]; rfl
    have R1 : mR m1 = mR m := by rw [← hm]; rfl
    have N1 : mN m1 = mN m := by rw [← hm]; rfl
    have Z1 : mZ m1 = mZ m := by rw [← hm]; rfl
    have I1 : ∀ o k, mI m1 o k = (if o = 23 + 2 * p.toNat ∧ j.toNat ≤ k ∧ k < j.toNat + n.toNat then mI m (23 + 2 * l.toNat) (i.toNat + (k - j.toNat)) else mI m o k) := fun o k => by rw [← hm]; rfl
    clear hm
    have v56 : ∀ p, mI m1 56 p = mI m 56 p := fun p => by rw [I1]; (repeat (first | rw [if_pos (by omega)] | rw [if_neg (by omega)]))
    have x56 := v56 l.toNat
    have y56 := v56 p.toNat
    refine ⟨(by first | exact hL.t30 | exact L1.t30 | exact (hC.lay hS).t30 | (rw [T1]; exact hL.t30) | (rw [b1]; exact hL.t30)), _, r_move m1 l i p j n (by rw [T1, R1]; exact hL) (fun l q => by rw [v56]; exact (kk l q).2), fun y m2 hq => ?_⟩
    rcases hq with ⟨c2, rfl, rfl⟩ | ⟨c2, rfl, rfl⟩ | ⟨c2, rfl, rfl⟩ | ⟨c2, hy, hm2⟩
    · exfalso; omega
    · exfalso; omega
    · exfalso; omega
    · have T2 : mT m2 = mT m1 := by rw [← hm2]; rfl
      have R2 : mR m2 = mR m1 := by rw [← hm2]; rfl
      have N2 : mN m2 = mN m1 := by rw [← hm2]; rfl
      have Z2 : mZ m2 = mZ m1 := by rw [← hm2]; rfl
      have I2 : ∀ o k, mI m2 o k = (if o = 57 ∧ (40 * p + j).toNat ≤ k ∧ k < (40 * p + j).toNat + n.toNat then (if 58 = 58 ∧ 0 ≤ 0 + (k - (40 * p + j).toNat) ∧ 0 + (k - (40 * p + j).toNat) < 0 + n.toNat then mI m1 57 ((40 * l + i).toNat + (0 + (k - (40 * p + j).toNat) - 0)) else mI m1 58 (0 + (k - (40 * p + j).toNat))) else if o = 58 ∧ 0 ≤ k ∧ k < 0 + n.toNat then mI m1 57 ((40 * l + i).toNat + (k - 0)) else mI m1 o k) := fun o k => by rw [← hm2]; rfl
      clear hm2
      have fr : ∀ o k, ¬ (o = 23 + 2 * p.toNat ∨ o = 57 ∨ o = 58) → mI m2 o k = mI m o k := fun o k ho => by rw [I2]; (repeat (first | rw [if_pos (by omega)] | rw [if_neg (by omega)])); rw [I1]; (repeat (first | rw [if_pos (by omega)] | rw [if_neg (by omega)]))
      refine ⟨by omega, h.low (T2.trans T1) (R2.trans R1) (N2.trans N1) (Z2.trans Z1) (fun o k ho => fr o k (by omega)) (fun q => q.fr (fun o k ho => fr o k (by omega))) (fun q => q.fr (fun o k ho => fr o k (by omega))) (fun q l' hl' => ⟨?_, fun k hk => ?_⟩) (fun q => q.fr (fun o k ho => fr o k (by omega))) r1 ⟨(fun q => q.fr (fr _ _ (by omega)) (fun k _ => fr _ _ (by omega)) (fun k _ => fr _ _ (by omega))), (fun q => q.fr (fun k _ _ => fr _ _ (by omega)) (fun k _ _ => fr _ _ (by omega))), (fun k _ _ => fr _ _ (by omega)), (fun q => q.mv (fun x k _ _ => fr _ _ (by omega)) (fr _ _ (by omega)) (fun k _ => fr _ _ (by omega)))⟩⟩
      · have w1 : mI m2 (22 + 2 * l') 1 = mI m (22 + 2 * l') 1 := by rw [I2]; (repeat (first | rw [if_pos (by omega)] | rw [if_neg (by omega)])); rw [I1]; (repeat (first | rw [if_pos (by omega)] | rw [if_neg (by omega)]))
        have w2 : mI m2 56 l' = mI m 56 l' := by rw [I2]; (repeat (first | rw [if_pos (by omega)] | rw [if_neg (by omega)])); rw [I1]; (repeat (first | rw [if_pos (by omega)] | rw [if_neg (by omega)]))
        rw [w1, w2]; exact (q l' hl').1
      · by_cases c3 : l' = p.toNat ∧ j.toNat ≤ k ∧ k < j.toNat + n.toNat
        · have w1 : mI m2 (23 + 2 * l') k = mI m (23 + 2 * l.toNat) (i.toNat + (k - j.toNat)) := by rw [I2]; (repeat (first | rw [if_pos (by omega)] | rw [if_neg (by omega)])); rw [I1]; (repeat (first | rw [if_pos (by omega)] | rw [if_neg (by omega)]))
          have w2 : mI m2 57 (40 * l' + k) = mI m1 57 ((40 * l + i).toNat + (0 + (40 * l' + k - (40 * p + j).toNat) - 0)) := by rw [I2, if_pos (by omega), if_pos (by omega)]
          have w3 : mI m1 57 ((40 * l + i).toNat + (0 + (40 * l' + k - (40 * p + j).toNat) - 0)) = mI m 57 (40 * l.toNat + (i.toNat + (k - j.toNat))) := by
            rw [I1, if_neg (by omega)]
            exact congrArg (mI m 57) (by omega)
          rw [w1, w2, w3]
          exact (q l.toNat (by omega)).2 _ (by omega)
        · have w1 : mI m2 (23 + 2 * l') k = mI m (23 + 2 * l') k := by rw [I2]; (repeat (first | rw [if_pos (by omega)] | rw [if_neg (by omega)])); rw [I1]; (repeat (first | rw [if_pos (by omega)] | rw [if_neg (by omega)]))
          have w2 : mI m2 57 (40 * l' + k) = mI m 57 (40 * l' + k) := by rw [I2]; (repeat (first | rw [if_pos (by omega)] | rw [if_neg (by omega)])); rw [I1]; (repeat (first | rw [if_pos (by omega)] | rw [if_neg (by omega)]))
          rw [w1, w2]; exact (q l' hl').2 k hk

theorem mesR_same {m m1 : Mem} {e c w : Int} (h : ∀ k, mI m1 31 k = mI m 31 k) : mesR m1 e c w = mesR m e c w := by
  funext j
  unfold mesR
  have e1 : (fun r_ : Nat => labR m1 (j : Int) (r_ : Int)) = fun r_ : Nat => labR m (j : Int) (r_ : Int) := by
    funext r; unfold labR; simp only [h]
  have e2 : numR2 m1 c = numR2 m c := by
    funext r; unfold numR2; simp only [h]
  rw [e1, e2, h]
theorem MatR.same {m m1 : Mem} (h : MatR m) (hI : ∀ k, mI m1 31 k = mI m 31 k) : MatR m1 := by
  unfold MatR at *
  simp only [hI]
  exact h
theorem judF_congr {S i : Int} {f g V W : Nat → Int} (hf : ∀ p : Nat, (p : Int) < S → f p = g p) : ∀ d k, (∀ q, q < k + d → V q = W q) → judF S i f V d k = judF S i g W d k
  | 0, _, _ => rfl
  | d + 1, k, h => by
    have ih := judF_congr (i := i) hf d (k + 1) (fun q hq => h q (by omega))
    show (if 0 ≤ i + (k : Int) ∧ i + (k : Int) < S then (if f (i + (k : Int)).toNat = V k then judF S i f V d (k + 1) else (k : Int)) else 100 + (k : Int)) = (if 0 ≤ i + (k : Int) ∧ i + (k : Int) < S then (if g (i + (k : Int)).toNat = W k then judF S i g W d (k + 1) else (k : Int)) else 100 + (k : Int))
    by_cases c : 0 ≤ i + (k : Int) ∧ i + (k : Int) < S
    · rw [if_pos c, if_pos c, ih, h k (by omega), hf _ (by omega)]
    · rw [if_neg c, if_neg c]

theorem op_judge {tt : Nat} {m : Mem} (h : Inv tt m) (l i e c w : Int) : Op tt m μX10_judge μX11_judge 5 5 [vi l, vi i, vi e, vi c, vi w] := by
  obtain ⟨⟨hr, hL, ha⟩, ⟨g1, g2, g3, g4⟩, hk, M, M2, hM, r1, r2, s1, s2, s3, s4, s5, s6⟩ := id h
  have hM' : M = 5 ∨ M = 18 := by omega
  have e1 : mI m 2 1 = mI m 31 64 ∧ 0 ≤ mI m 31 64 ∧ mI m 31 64 ≤ 32 := s2.1
  have e2 : ∀ k, k < 64 → mI m 3 k = mI m 31 k ∧ -999 ≤ mI m 31 k ∧ mI m 31 k ≤ 1000 := s2.2
  have e3 := g1.1
  have tM := hL.mat hM'
  have kk : ∀ l : Int, 0 ≤ l ∧ l ≤ 3 → mI m (22 + 2 * l.toNat) 1 = mI m 56 l.toNat ∧ -1 ≤ mI m 56 l.toNat ∧ mI m 56 l.toNat ≤ 40 := fun l q => (g3 l.toNat (by omega)).1
  have kl := kk l
  obtain ⟨Ms, hl, hC, hR, hO⟩ := s6
  have hMat := hR.mat hl hO e1.2.2
  have hc3 := hC.1
  have hnm : ∀ {q : Int}, 0 ≤ q ∧ q < 2 → ∀ r, -999 ≤ numC m 2 3 q r ∧ numC m 2 3 q r ≤ 1000 := fun hq r => numC_bd s2 hq r
  have tMM := tM
  by_cases hb : 0 ≤ l ∧ l ≤ 3 ∧ 0 ≤ e ∧ e ≤ 26 ∧ 0 ≤ c ∧ c < 2 ∧ 0 ≤ w ∧ w < 7
  · by_cases hs : mI m 56 l.toNat < 0
    · refine ⟨_, c_judgeN m l i e c w hL hb (by omega), fun x m1 hp => ?_⟩
      obtain ⟨rfl, rfl⟩ := hp
      refine ⟨(by first | exact hL.t30 | exact L1.t30 | exact (hC.lay hS).t30 | (rw [T1]; exact hL.t30) | (rw [b1]; exact hL.t30)), _, r_judgeN m l i e c w hL hb hs, fun y m2 hq => ?_⟩
      obtain ⟨rfl, rfl⟩ := hq
      exact ⟨rfl, h.tick⟩
    · have hnR : ∀ r : Nat, -999 ≤ numR2 m c r ∧ numR2 m c r ≤ 1000 := numR2_bd (by omega) (fun k hk => (e2 k hk).2)
      refine ⟨_, c_judgeS M Ms.length (mI m 56 l.toNat) m l i e c w hL hb ⟨r1, hM'⟩ ⟨hc3, by omega⟩ (by omega) (hnm (by omega)) ⟨by omega, by omega, by omega⟩, fun x m1 hp => ?_⟩
      obtain ⟨hx, rfl⟩ := hp
      refine ⟨(by first | exact hL.t30 | exact L1.t30 | exact (hC.lay hS).t30 | (rw [T1]; exact hL.t30) | (rw [b1]; exact hL.t30)), _, r_judgeS Ms.length (mI m 56 l.toNat) m l i e c w hL hb hMat ⟨hl.2, by omega⟩ e1.2 hnR ⟨rfl, by omega, by omega⟩, fun y m2 hq => ?_⟩
      obtain ⟨hy, rfl⟩ := hq
      refine ⟨?_, h.tick⟩
      rw [hx, hy]
      exact (judF_congr (fun p hp => (g3 l.toNat (by omega)).2 p (by omega)) _ _ (fun q hq => mes_eq s2 hC hR hO (by omega) (by omega))).symm
  · refine ⟨_, c_judgeB m l i e c w hL hb, fun x m1 hp => ?_⟩
    obtain ⟨rfl, rfl⟩ := hp
    refine ⟨(by first | exact hL.t30 | exact L1.t30 | exact (hC.lay hS).t30 | (rw [T1]; exact hL.t30) | (rw [b1]; exact hL.t30)), _, r_judgeB m l i e c w hL hb, fun y m2 hq => ?_⟩
    obtain ⟨rfl, rfl⟩ := hq
    exact ⟨rfl, h.tick⟩

theorem op_lay {tt : Nat} {m : Mem} (h : Inv tt m) (l i e c w : Int) : Op tt m μX10_lay μX11_lay 5 5 [vi l, vi i, vi e, vi c, vi w] := by
  obtain ⟨⟨hr, hL, ha⟩, ⟨g1, g2, g3, g4⟩, hk, M, M2, hM, r1, r2, s1, s2, s3, s4, s5, s6⟩ := id h
  have hM' : M = 5 ∨ M = 18 := by omega
  have e1 : mI m 2 1 = mI m 31 64 ∧ 0 ≤ mI m 31 64 ∧ mI m 31 64 ≤ 32 := s2.1
  have e2 : ∀ k, k < 64 → mI m 3 k = mI m 31 k ∧ -999 ≤ mI m 31 k ∧ mI m 31 k ≤ 1000 := s2.2
  have e3 := g1.1
  have tM := hL.mat hM'
  have kk : ∀ l : Int, 0 ≤ l ∧ l ≤ 3 → mI m (22 + 2 * l.toNat) 1 = mI m 56 l.toNat ∧ -1 ≤ mI m 56 l.toNat ∧ mI m 56 l.toNat ≤ 40 := fun l q => (g3 l.toNat (by omega)).1
  have kl := kk l
  obtain ⟨Ms, hl, hC, hR, hO⟩ := s6
  have hMat := hR.mat hl hO e1.2.2
  have hc3 := hC.1
  have hnm : ∀ {q : Int}, 0 ≤ q ∧ q < 2 → ∀ r, -999 ≤ numC m 2 3 q r ∧ numC m 2 3 q r ≤ 1000 := fun hq r => numC_bd s2 hq r
  have tMM := tM
  by_cases hb : 0 ≤ l ∧ l ≤ 3 ∧ 0 ≤ e ∧ e ≤ 26 ∧ 0 ≤ c ∧ c < 2 ∧ 0 ≤ w ∧ w < 7
  · by_cases hs : mI m 56 l.toNat < 0
    · refine ⟨_, c_layN m l i e c w hL hb (by omega), fun x m1 hp => ?_⟩
      obtain ⟨rfl, rfl⟩ := hp
      refine ⟨(by first | exact hL.t30 | exact L1.t30 | exact (hC.lay hS).t30 | (rw [T1]; exact hL.t30) | (rw [b1]; exact hL.t30)), _, r_layN m l i e c w hL hb hs, fun y m2 hq => ?_⟩
      obtain ⟨rfl, rfl⟩ := hq
      exact ⟨rfl, h.tick⟩
    · have hnR : ∀ r : Nat, -999 ≤ numR2 m c r ∧ numR2 m c r ≤ 1000 := numR2_bd (by omega) (fun k hk => (e2 k hk).2)
      refine ⟨_, c_layS M Ms.length (mI m 56 l.toNat) m l i e c w hL hb ⟨r1, hM'⟩ ⟨hc3, by omega⟩ (by omega) (hnm (by omega)) ⟨by omega, by omega, by omega⟩, fun x m1 hp => ?_⟩
      obtain ⟨hx, hm⟩ := hp
      have T1 : mT m1 = mT m := by rw [← hm]; rfl
      have R1 : mR m1 = mR m := by rw [← hm]; rfl
      have N1 : mN m1 = mN m := by rw [← hm]; rfl
      have Z1 : mZ m1 = mZ m := by rw [← hm]; rfl
      have I1 : ∀ o k, mI m1 o k = (if o = 23 + 2 * l.toNat ∧ i.toNat ≤ k ∧ k < i.toNat + layK Ms.length (mI m 56 l.toNat) i then mesC m (M + 3) e c w (k - i.toNat) else mI m o k) := fun o k => by rw [← hm]; rfl
      clear hm
      have J31 : ∀ k, mI m1 31 k = mI m 31 k := fun k => by rw [I1]; (repeat (first | rw [if_pos (by omega)] | rw [if_neg (by omega)]))
      have J56 : mI m1 56 l.toNat = mI m 56 l.toNat := by rw [I1]; (repeat (first | rw [if_pos (by omega)] | rw [if_neg (by omega)]))
      have hnR1 : ∀ r : Nat, -999 ≤ numR2 m1 c r ∧ numR2 m1 c r ≤ 1000 := numR2_bd (by omega) (fun k hk => by rw [J31]; exact (e2 k hk).2)
      refine ⟨(by first | exact hL.t30 | exact L1.t30 | exact (hC.lay hS).t30 | (rw [T1]; exact hL.t30) | (rw [b1]; exact hL.t30)), _, r_layS Ms.length (mI m 56 l.toNat) m1 l i e c w (by rw [T1, R1]; exact hL) hb (hMat.same J31) ⟨by rw [J31]; exact hl.2, by omega⟩ (by rw [J31]; exact e1.2) hnR1 ⟨J56, by omega, by omega⟩, fun y m2 hq => ?_⟩
      obtain ⟨hy, hm2⟩ := hq
      rw [mesR_same J31] at hm2
      have T2 : mT m2 = mT m1 := by rw [← hm2]; rfl
      have R2 : mR m2 = mR m1 := by rw [← hm2]; rfl
      have N2 : mN m2 = mN m1 := by rw [← hm2]; rfl
      have Z2 : mZ m2 = mZ m1 := by rw [← hm2]; rfl
      have I2 : ∀ o k, mI m2 o k = (if o = 57 ∧ (40 * l + i).toNat ≤ k ∧ k < (40 * l + i).toNat + layK Ms.length (mI m 56 l.toNat) i then mesR m e c w (k - (40 * l + i).toNat) else mI m1 o k) := fun o k => by rw [← hm2]; rfl
      clear hm2
      have hK : (0 < layK Ms.length (mI m 56 l.toNat) i → 0 ≤ i ∧ i + (layK Ms.length (mI m 56 l.toNat) i : Int) ≤ mI m 56 l.toNat) ∧ layK Ms.length (mI m 56 l.toNat) i ≤ Ms.length := by
        unfold layK
        split
        · omega
        · omega
      generalize layK Ms.length (mI m 56 l.toNat) i = KX at I1 I2 hK
      have fr : ∀ o k, ¬ (o = 23 + 2 * l.toNat ∨ o = 57) → mI m2 o k = mI m o k := fun o k ho => by rw [I2]; (repeat (first | rw [if_pos (by omega)] | rw [if_neg (by omega)])); rw [I1]; (repeat (first | rw [if_pos (by omega)] | rw [if_neg (by omega)]))
      refine ⟨by rw [hx, hy], h.low (T2.trans T1) (R2.trans R1) (N2.trans N1) (Z2.trans Z1) (fun o k ho => fr o k (by omega)) (fun q => q.fr (fun o k ho => fr o k (by omega))) (fun q => q.fr (fun o k ho => fr o k (by omega))) (fun q l' hl' => ⟨?_, fun k hk => ?_⟩) (fun q => q.fr (fun o k ho => fr o k (by omega))) r1 ⟨(fun q => q.fr (fr _ _ (by omega)) (fun k _ => fr _ _ (by omega)) (fun k _ => fr _ _ (by omega))), (fun q => q.fr (fun k _ _ => fr _ _ (by omega)) (fun k _ _ => fr _ _ (by omega))), (fun k _ _ => fr _ _ (by omega)), (fun q => q.mv (fun x k _ _ => fr _ _ (by omega)) (fr _ _ (by omega)) (fun k _ => fr _ _ (by omega)))⟩⟩
      · have w1 : mI m2 (22 + 2 * l') 1 = mI m (22 + 2 * l') 1 := by rw [I2]; (repeat (first | rw [if_pos (by omega)] | rw [if_neg (by omega)])); rw [I1]; (repeat (first | rw [if_pos (by omega)] | rw [if_neg (by omega)]))
        have w2 : mI m2 56 l' = mI m 56 l' := by rw [I2]; (repeat (first | rw [if_pos (by omega)] | rw [if_neg (by omega)])); rw [I1]; (repeat (first | rw [if_pos (by omega)] | rw [if_neg (by omega)]))
        rw [w1, w2]; exact (q l' hl').1
      · by_cases c3 : l' = l.toNat ∧ i.toNat ≤ k ∧ k < i.toNat + KX
        · have w1 : mI m2 (23 + 2 * l') k = mesC m (M + 3) e c w (k - i.toNat) := by rw [I2]; (repeat (first | rw [if_pos (by omega)] | rw [if_neg (by omega)])); rw [I1]; (repeat (first | rw [if_pos (by omega)] | rw [if_neg (by omega)]))
          have w2 : mI m2 57 (40 * l' + k) = mesR m e c w (40 * l' + k - (40 * l + i).toNat) := by rw [I2]; (repeat (first | rw [if_pos (by omega)] | rw [if_neg (by omega)]))
          rw [w1, w2, show 40 * l' + k - (40 * l + i).toNat = k - i.toNat by omega]
          exact mes_eq s2 hC hR hO (by omega) (by omega)
        · have w1 : mI m2 (23 + 2 * l') k = mI m (23 + 2 * l') k := by rw [I2]; (repeat (first | rw [if_pos (by omega)] | rw [if_neg (by omega)])); rw [I1]; (repeat (first | rw [if_pos (by omega)] | rw [if_neg (by omega)]))
          have w2 : mI m2 57 (40 * l' + k) = mI m 57 (40 * l' + k) := by rw [I2]; (repeat (first | rw [if_pos (by omega)] | rw [if_neg (by omega)])); rw [I1]; (repeat (first | rw [if_pos (by omega)] | rw [if_neg (by omega)]))
          rw [w1, w2]; exact (q l' hl').2 k hk
  · refine ⟨_, c_layB m l i e c w hL hb, fun x m1 hp => ?_⟩
    obtain ⟨rfl, rfl⟩ := hp
    refine ⟨(by first | exact hL.t30 | exact L1.t30 | exact (hC.lay hS).t30 | (rw [T1]; exact hL.t30) | (rw [b1]; exact hL.t30)), _, r_layB m l i e c w hL hb, fun y m2 hq => ?_⟩
    obtain ⟨rfl, rfl⟩ := hq
    exact ⟨rfl, h.tick⟩
