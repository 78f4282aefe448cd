/-! the operations that only ask: class and reference in one step -/
theorem foldB_congr {f g : Nat → Int} : ∀ n, (∀ j, j < n → f j = g j) → foldB f n = foldB g n
  | 0, _ => rfl
  | n + 1, h => by
    have ih := foldB_congr n (fun j hj => h j (by omega))
    show (or32 (foldB f n).1 (shl32 1 (f n)), if and32 (foldB f n).1 (shl32 1 (f n)) = 0 then (foldB f n).2 + 1 else (foldB f n).2) = (or32 (foldB g n).1 (shl32 1 (g n)), if and32 (foldB g n).1 (shl32 1 (g n)) = 0 then (foldB g n).2 + 1 else (foldB g n).2)
    rw [h n (by omega), ih]

theorem op_cell {tt : Nat} {m : Mem} (h : Inv tt m) (r c : Int) : Op tt m μX10_cell μX11_cell 2 3 [vi r, vi c] := by
  obtain ⟨⟨hr, hL, ha⟩, ⟨g1, g2, g3, g4⟩, hk, M, M2, hM, r1, r2, s1, s2, s3, s4, s5, s6⟩ := id h
  have hM' : M = 5 ∨ M = 18 := by omega
  have e1 : mI m 2 1 = mI m 31 64 ∧ 0 ≤ mI m 31 64 ∧ mI m 31 64 ≤ 32 := s2.1
  have e2 : ∀ k, k < 64 → mI m 3 k = mI m 31 k ∧ -999 ≤ mI m 31 k ∧ mI m 31 k ≤ 1000 := s2.2
  have e3 := g1.1
  have tM := hL.mat hM'
  refine ⟨_, c_cell m r c hL ⟨by omega, by omega⟩, fun x m1 hp => ?_⟩
  obtain ⟨hx, rfl⟩ := hp
  refine ⟨(by first | exact hL.t30 | exact L1.t30 | exact (hC.lay hS).t30 | (rw [T1]; exact hL.t30) | (rw [b1]; exact hL.t30)), _, r_cell m r c hL e1.2, fun y m2 hq => ?_⟩
  obtain ⟨hy, rfl⟩ := hq
  refine ⟨?_, h.tick⟩
  rw [hx, hy]
  by_cases q : 0 ≤ r ∧ r < mI m 31 64 ∧ 0 ≤ c ∧ c < 2
  · rw [if_pos q, if_pos (by omega), show (2 * r + c).toNat = (r * 2 + c).toNat by omega]
    exact ((e2 _ (by omega)).1).symm
  · rw [if_neg q, if_neg (by omega)]

theorem op_paper {tt : Nat} {m : Mem} (h : Inv tt m) (i : Int) : Op tt m μX10_paper μX11_paper 1 1 [vi i] := by
  obtain ⟨⟨hr, hL, ha⟩, ⟨g1, g2, g3, g4⟩, hk, M, M2, hM, r1, r2, s1, s2, s3, s4, s5, s6⟩ := id h
  have hM' : M = 5 ∨ M = 18 := by omega
  have e1 : mI m 2 1 = mI m 31 64 ∧ 0 ≤ mI m 31 64 ∧ mI m 31 64 ≤ 32 := s2.1
  have e2 : ∀ k, k < 64 → mI m 3 k = mI m 31 k ∧ -999 ≤ mI m 31 k ∧ mI m 31 k ≤ 1000 := s2.2
  have e3 := g1.1
  have tM := hL.mat hM'
  obtain ⟨l, p0, p1, p2⟩ := g2
  refine ⟨_, c_paper m i hL, fun x m1 hp => ?_⟩
  obtain ⟨hx, rfl⟩ := hp
  refine ⟨(by first | exact hL.t30 | exact L1.t30 | exact (hC.lay hS).t30 | (rw [T1]; exact hL.t30) | (rw [b1]; exact hL.t30)), _, r_paper m i hL (by rw [p2.1]; omega), fun y m2 hq => ?_⟩
  obtain ⟨hy, rfl⟩ := hq
  refine ⟨?_, h.tick⟩
  rw [hx, hy]
  rw [p1.1, p2.1]
  by_cases q : 0 ≤ i ∧ i < (l.length : Int)
  · rw [if_pos q, if_pos (by omega)]
    have hg : l[i.toNat]? = some l[i.toNat] := List.getElem?_eq_getElem (by omega)
    rw [p1.2 _ _ hg, p2.2 _ _ hg]
  · rw [if_neg q, if_neg (by omega)]

theorem op_label {tt : Nat} {m : Mem} (h : Inv tt m) (i r : Int) : Op tt m μX10_label μX11_label 4 2 [vi i, vi r] := by
  obtain ⟨⟨hr, hL, ha⟩, ⟨g1, g2, g3, g4⟩, hk, M, M2, hM, r1, r2, s1, s2, s3, s4, s5, s6⟩ := id h
  have hM' : M = 5 ∨ M = 18 := by omega
  have e1 : mI m 2 1 = mI m 31 64 ∧ 0 ≤ mI m 31 64 ∧ mI m 31 64 ≤ 32 := s2.1
  have e2 : ∀ k, k < 64 → mI m 3 k = mI m 31 k ∧ -999 ≤ mI m 31 k ∧ mI m 31 k ≤ 1000 := s2.2
  have e3 := g1.1
  have tM := hL.mat hM'
  obtain ⟨Ms, hl, hC, hR, hO⟩ := s6
  have hMat := hR.mat hl hO e1.2.2
  have hc3 := hC.1
  have hnm : ∀ {q : Int}, 0 ≤ q ∧ q < 2 → ∀ r, -999 ≤ numC m 2 3 q r ∧ numC m 2 3 q r ≤ 1000 := fun hq r => numC_bd s2 hq r
  have tMM := tM
  refine ⟨_, c_label m i r M (M + 1) (M + 2) (M + 3) hL r1 tM.1 tM.2.1 tM.2.2.1 tM.2.2.2.1 tM.2.2.2.2.1 tM.2.2.2.2.2.1 tM.2.2.2.2.2.2 (by omega) (by omega), fun x m1 hp => ?_⟩
  obtain ⟨hx, rfl⟩ := hp
  refine ⟨(by first | exact hL.t30 | exact L1.t30 | exact (hC.lay hS).t30 | (rw [T1]; exact hL.t30) | (rw [b1]; exact hL.t30)), _, r_label m i r hL hMat e1.2, fun y m2 hq => ?_⟩
  obtain ⟨hy, rfl⟩ := hq
  refine ⟨?_, h.tick⟩
  rw [hx, hy]
  by_cases q : (0 ≤ i ∧ i < mI m 31 3336) ∧ 0 ≤ r ∧ r < mI m 31 64
  · rw [if_pos q, if_pos (by omega), show (i * 32 + r).toNat = 32 * i.toNat + r.toNat by omega]
    have w := (lab_at hC hR hO e1.2.2 (j := i.toNat) (r := r.toNat) (by omega) (by omega)).1
    rw [w, show ((i.toNat : Nat) : Int) = i by omega, show ((r.toNat : Nat) : Int) = r by omega]
  · rw [if_neg q, if_neg (by omega)]

theorem op_covered {tt : Nat} {m : Mem} (h : Inv tt m) (r : Int) : Op tt m μX10_covered μX11_covered 4 3 [vi r] := by
  obtain ⟨⟨hr, hL, ha⟩, ⟨g1, g2, g3, g4⟩, hk, M, M2, hM, r1, r2, s1, s2, s3, s4, s5, s6⟩ := id h
  have hM' : M = 5 ∨ M = 18 := by omega
  have e1 : mI m 2 1 = mI m 31 64 ∧ 0 ≤ mI m 31 64 ∧ mI m 31 64 ≤ 32 := s2.1
  have e2 : ∀ k, k < 64 → mI m 3 k = mI m 31 k ∧ -999 ≤ mI m 31 k ∧ mI m 31 k ≤ 1000 := s2.2
  have e3 := g1.1
  have tM := hL.mat hM'
  obtain ⟨Ms, hl, hC, hR, hO⟩ := s6
  have hMat := hR.mat hl hO e1.2.2
  have hc3 := hC.1
  have hnm : ∀ {q : Int}, 0 ≤ q ∧ q < 2 → ∀ r, -999 ≤ numC m 2 3 q r ∧ numC m 2 3 q r ≤ 1000 := fun hq r => numC_bd s2 hq r
  have tMM := tM
  refine ⟨_, c_covered m r M (M + 1) (M + 2) (M + 3) hL r1 tM.1 tM.2.1 tM.2.2.1 tM.2.2.2.1 tM.2.2.2.2.1 tM.2.2.2.2.2.1 tM.2.2.2.2.2.2 (by omega) (by omega), fun x m1 hp => ?_⟩
  obtain ⟨hx, rfl⟩ := hp
  refine ⟨(by first | exact hL.t30 | exact L1.t30 | exact (hC.lay hS).t30 | (rw [T1]; exact hL.t30) | (rw [b1]; exact hL.t30)), _, r_covered m r hL hMat e1.2, fun y m2 hq => ?_⟩
  obtain ⟨hy, rfl⟩ := hq
  refine ⟨?_, h.tick⟩
  rw [hx, hy]
  by_cases q : 0 ≤ r ∧ r < mI m 31 64
  · rw [if_pos q, if_pos (by omega), show (mI m 31 3336).toNat = Ms.length by omega, show (mI m M 3).toNat = Ms.length by omega]
    refine (covF_congr _ (fun j hj => ?_)).symm
    rw [show ((j : Int) * 32 + r).toNat = 32 * j + r.toNat by omega, (lab_at hC hR hO e1.2.2 hj (r := r.toNat) (by omega)).1, show ((r.toNat : Nat) : Int) = r by omega]
  · rw [if_neg q, if_neg (by omega)]

theorem op_measure {tt : Nat} {m : Mem} (h : Inv tt m) (i e c w : Int) : OpL tt m μX10_measure μX11_measure 4 2 [vi i, vi e, vi c, vi w] := by
  obtain ⟨⟨hr, hL, ha⟩, ⟨g1, g2, g3, g4⟩, hk, M, M2, hM, r1, r2, s1, s2, s3, s4, s5, s6⟩ := id h
  have hM' : M = 5 ∨ M = 18 := by omega
  have e1 : mI m 2 1 = mI m 31 64 ∧ 0 ≤ mI m 31 64 ∧ mI m 31 64 ≤ 32 := s2.1
  have e2 : ∀ k, k < 64 → mI m 3 k = mI m 31 k ∧ -999 ≤ mI m 31 k ∧ mI m 31 k ≤ 1000 := s2.2
  have e3 := g1.1
  have tM := hL.mat hM'
  obtain ⟨Ms, hl, hC, hR, hO⟩ := s6
  have hMat := hR.mat hl hO e1.2.2
  have hc3 := hC.1
  have hnm : ∀ {q : Int}, 0 ≤ q ∧ q < 2 → ∀ r, -999 ≤ numC m 2 3 q r ∧ numC m 2 3 q r ≤ 1000 := fun hq r => numC_bd s2 hq r
  have tMM := tM
  refine ⟨_, c_measure2 m i e c w M (M + 1) (M + 2) (M + 3) hL r1 tM.1 tM.2.1 tM.2.2.1 tM.2.2.2.1 tM.2.2.2.2.1 tM.2.2.2.2.2.1 tM.2.2.2.2.2.2 (by omega) (by omega) (fun q => hnm q), fun x m1 hp => ?_⟩
  obtain ⟨hx, rfl⟩ := hp
  refine ⟨(by first | exact hL.t30 | exact L1.t30 | exact (hC.lay hS).t30 | (rw [T1]; exact hL.t30) | (rw [b1]; exact hL.t30)), _, r_measure3 m i e c w hL hMat e1.2 (fun q => numR2_bd q (fun k hk => (e2 k hk).2)), fun y m2 hq => ?_⟩
  obtain ⟨hy, rfl⟩ := hq
  refine ⟨?_, h.tick⟩
  rw [hx, hy]
  by_cases q : (0 ≤ i ∧ i < mI m 31 3336) ∧ 0 ≤ e ∧ e ≤ 26 ∧ 0 ≤ c ∧ c < 2 ∧ 0 ≤ w ∧ w < 7
  · rw [if_pos q, if_pos (by omega)]
    have k := mes_eq (e := e) (col := c) (w := w) s2 hC hR hO (j := i.toNat) (by omega) (by omega)
    unfold mesC mesR at k
    rw [show ((i.toNat : Nat) : Int) = i by omega] at k
    exact k.symm
  · rw [if_neg q, if_neg (by omega)]

theorem op_get {tt : Nat} {m : Mem} (h : Inv tt m) (l i : Int) : OpL tt m μX10_get μX11_get 3 2 [vi l, vi i] := by
  obtain ⟨⟨hr, hL, ha⟩, ⟨g1, g2, g3, g4⟩, hk, M, M2, hM, r1, r2, s1, s2, s3, s4, s5, s6⟩ := id h
  have hM' : M = 5 ∨ M = 18 := by omega
  have e1 : mI m 2 1 = mI m 31 64 ∧ 0 ≤ mI m 31 64 ∧ mI m 31 64 ≤ 32 := s2.1
  have e2 : ∀ k, k < 64 → mI m 3 k = mI m 31 k ∧ -999 ≤ mI m 31 k ∧ mI m 31 k ≤ 1000 := s2.2
  have e3 := g1.1
  have tM := hL.mat hM'
  refine ⟨_, c_get m l i hL, fun x m1 hp => ?_⟩
  obtain ⟨hx, rfl⟩ := hp
  refine ⟨(by first | exact hL.t30 | exact L1.t30 | exact (hC.lay hS).t30 | (rw [T1]; exact hL.t30) | (rw [b1]; exact hL.t30)), _, r_get m l i hL (fun l hl => ((g3 l.toNat (by omega)).1).2), fun y m2 hq => ?_⟩
  obtain ⟨hy, rfl⟩ := hq
  refine ⟨?_, h.tick⟩
  rw [hx, hy]
  by_cases q : (0 ≤ l ∧ l ≤ 3) ∧ 0 ≤ i ∧ i < mI m 56 l.toNat
  · have k := g3 l.toNat (by omega)
    rw [if_pos q, if_pos (by omega), k.2 i.toNat (by omega), show (40 * l + i).toNat = 40 * l.toNat + i.toNat by omega]
  · rw [if_neg q, if_neg (fun q2 => by have k := g3 l.toNat (by omega); omega)]

theorem op_match {tt : Nat} {m : Mem} (h : Inv tt m) (i w : Int) : Op tt m μX10_match μX11_match 4 2 [vi i, vi w] := by
  obtain ⟨⟨hr, hL, ha⟩, ⟨g1, g2, g3, g4⟩, hk, M, M2, hM, r1, r2, s1, s2, s3, s4, s5, s6⟩ := id h
  have hM' : M = 5 ∨ M = 18 := by omega
  have e1 : mI m 2 1 = mI m 31 64 ∧ 0 ≤ mI m 31 64 ∧ mI m 31 64 ≤ 32 := s2.1
  have e2 : ∀ k, k < 64 → mI m 3 k = mI m 31 k ∧ -999 ≤ mI m 31 k ∧ mI m 31 k ≤ 1000 := s2.2
  have e3 := g1.1
  have tM := hL.mat hM'
  obtain ⟨Ms, hl, hC, hR, hO⟩ := s6
  have hMat := hR.mat hl hO e1.2.2
  have hc3 := hC.1
  have hnm : ∀ {q : Int}, 0 ≤ q ∧ q < 2 → ∀ r, -999 ≤ numC m 2 3 q r ∧ numC m 2 3 q r ≤ 1000 := fun hq r => numC_bd s2 hq r
  have tMM := tM
  refine ⟨_, c_match2 m i w M (M + 1) (M + 2) (M + 3) hL r1 tM.1 tM.2.1 tM.2.2.1 tM.2.2.2.1 tM.2.2.2.2.1 tM.2.2.2.2.2.1 tM.2.2.2.2.2.2 (fun j h1 h2 => by obtain ⟨s, e, le, q1, q2, q3, q4, q5⟩ := hO.at (j := j) (by omega); have q6 := hC.2 _ _ _ _ q1; omega) (by omega) (fun k h1 h2 => by have q := (lab_at hC hR hO e1.2.2 (j := k / 32) (r := k % 32) (by omega) (by omega)).2.1; rw [show 32 * (k / 32) + k % 32 = k by omega] at q; exact q), fun x m1 hp => ?_⟩
  obtain ⟨hx, rfl⟩ := hp
  refine ⟨(by first | exact hL.t30 | exact L1.t30 | exact (hC.lay hS).t30 | (rw [T1]; exact hL.t30) | (rw [b1]; exact hL.t30)), _, r_match m i w hL hMat, fun y m2 hq => ?_⟩
  obtain ⟨hy, rfl⟩ := hq
  refine ⟨?_, h.tick⟩
  rw [hx, hy]
  by_cases q : (0 ≤ i ∧ i < mI m 31 3336) ∧ 0 ≤ w ∧ w ≤ 3
  · rw [if_pos q, if_pos (show (0 ≤ i ∧ i < mI m M 3) ∧ 0 ≤ w ∧ w ≤ 3 by omega)]
    obtain ⟨s, e, le, q1, q2, q3, q4, q5⟩ := hO.at (j := i.toNat) (by omega)
    have q6 := hC.2 _ _ _ _ q1
    have q7 := hR _ _ _ _ q1
    have v0 : mI m 31 (3337 + 34 * i + 0).toNat = s := by rw [show (3337 + 34 * i + 0).toNat = 3337 + 34 * i.toNat by omega]; exact q7.1
    have v1 : mI m 31 (3337 + 34 * i + 1).toNat = e - s := by rw [show (3337 + 34 * i + 1).toNat = 3337 + 34 * i.toNat + 1 by omega]; exact q7.2.1
    have hb : bitsF (labC m (M + 3) i) 32 = (foldB (fun k_ : Nat => mI m 31 (3337 + 34 * i + (2 + (k_ : Int))).toNat) (e - s).toNat).1 := by
      have t := bits_eq (f := labC m (M + 3) i) (g := fun k => le (s + (k : Int)).toNat) (s := s.toNat) (e := e.toNat) (by omega) (fun r hr => by
        have u := q6.2.2 r hr
        rw [show i = ((i.toNat : Nat) : Int) by omega, labC_at, u]
        by_cases c : s ≤ (r : Int) ∧ (r : Int) < e
        · rw [if_pos c, if_pos (by omega), show (s + ((r - s.toNat : Nat) : Int)).toNat = r by omega]
        · rw [if_neg c, if_neg (by omega)]) (fun k => (q5 _).1) 32 (by omega)
      rw [t, show min (32 - s.toNat) (e.toNat - s.toNat) = (e - s).toNat by omega]
      refine congrArg Prod.fst (foldB_congr _ (fun k hk => ?_))
      rw [show (3337 + 34 * i + (2 + (k : Int))).toNat = 3337 + 34 * i.toNat + 2 + k by omega]
      exact (q7.2.2 k (by omega)).symm
    rcases (show w = 0 ∨ w = 1 ∨ w = 2 ∨ w = 3 by omega) with e' | e' | e' | e'
    · subst e'
      rw [if_pos (by omega), if_pos rfl, v0, q6.1]
    · subst e'
      rw [if_pos (by omega), if_neg (by omega), if_pos rfl, v1, q6.1, q6.2.1]
    · subst e'
      rw [if_neg (by omega), if_pos rfl, if_neg (by omega), if_neg (by omega), if_pos rfl, v1, hb]
      refine (foldB_pop _ (e - s).toNat (fun k hk => ?_) _ (Nat.le_refl _)).2.2
      rw [show (3337 + 34 * i + (2 + (k : Int))).toNat = 3337 + 34 * i.toNat + 2 + k by omega, q7.2.2 k (by omega)]
      exact q5 _
    · subst e'
      rw [if_neg (by omega), if_neg (by omega), if_neg (by omega), if_neg (by omega), if_neg (by omega), v1, hb]
  · rw [if_neg q, if_neg (by omega)]
