/-! HOW THE CLASS READS, 2: any order, times -/
theorem rd_any2 {k : Nat} {w1 w2 : List Int} {c1 c2 : Nat} (h1 : RdAl k w1 c1) (h2 : RdAl k w2 c2) : RdAt (k + 1) (37 :: 40 :: (w1 ++ 44 :: (w2 ++ [41]))) (c1 + c2 + 1) := fun l r b S hS hd => by
  have hd : l.drop b = 37 :: 40 :: (w1 ++ 44 :: (w2 ++ 41 :: r)) := by rw [hd]; simp
  have e : cS (txL l) l.length S = 37 := cS_hd hS hd
  have hd0 := drop_cons hd
  have e0 := take_hd (adv_at hS) hd0
  have h0 : PAt ((advP S).1, b + 1 + 1, (advP S).2.2) (b + 1 + 1) := ⟨hS.1, rfl⟩
  have a1 := h1 l (44 :: (w2 ++ 41 :: r)) _ _ h0 (drop_cons hd0) FS2_44
  have hd1 := drop_app (drop_cons hd0)
  have e1 : cS (txL l) l.length (altL (txL l) l.length k ((advP S).1, b + 1 + 1, (advP S).2.2)).2 = 44 := cS_hd a1.at hd1
  have a2 := h2 l (41 :: r) _ _ (adv_at a1.at) (drop_cons hd1) FS2_41
  have hd2 := drop_app (drop_cons hd1)
  have e2 : cS (txL l) l.length (altL (txL l) l.length k (advP (altL (txL l) l.length k ((advP S).1, b + 1 + 1, (advP S).2.2)).2)).2 = 41 := cS_hd a2.at hd2
  obtain ⟨F, g⟩ := lp_two (tx := txL l) (n := l.length) (cond := cAny) (go := fun S => altL (txL l) l.length k (advP S)) (r := altL (txL l) l.length k ((advP S).1, b + 1 + 1, (advP S).2.2)) ⟨e1, by decide⟩ a2.1 (fun z => by have z1 := z.1; rw [e2] at z1; exact absurd z1 (by decide))
  have gL : anyL (txL l) l.length (altL (txL l) l.length k) S = (2, ((altL (txL l) l.length k (advP (altL (txL l) l.length k ((advP S).1, b + 1 + 1, (advP S).2.2)).2)).2.1, (altL (txL l) l.length k (advP (altL (txL l) l.length k ((advP S).1, b + 1 + 1, (advP S).2.2)).2)).2.2.1, (altL (txL l) l.length k (advP (altL (txL l) l.length k ((advP S).1, b + 1 + 1, (advP S).2.2)).2)).2.2.2.1, F)) := by
    unfold anyL
    rw [e0]
    exact g
  have gE := take_hd (S := ((altL (txL l) l.length k (advP (altL (txL l) l.length k ((advP S).1, b + 1 + 1, (advP S).2.2)).2)).2.1, (altL (txL l) l.length k (advP (altL (txL l) l.length k ((advP S).1, b + 1 + 1, (advP S).2.2)).2)).2.2.1, (altL (txL l) l.length k (advP (altL (txL l) l.length k ((advP S).1, b + 1 + 1, (advP S).2.2)).2)).2.2.2.1, F)) ⟨a2.1, a2.2.1⟩ hd2
  have gF : anyE (txL l) l.length (anyL (txL l) l.length (altL (txL l) l.length k) S) = ((altL (txL l) l.length k (advP (altL (txL l) l.length k ((advP S).1, b + 1 + 1, (advP S).2.2)).2)).2.1, b + 1 + 1 + w1.length + 1 + w2.length + 1, (altL (txL l) l.length k (advP (altL (txL l) l.length k ((advP S).1, b + 1 + 1, (advP S).2.2)).2)).2.2.2.1, F) := by
    unfold anyE
    rw [gL, if_neg (show ¬ 2 < 2 by decide)]
    exact gE
  unfold atoL atomP
  rw [e, if_neg (by decide), if_neg (by decide), if_neg (by decide), if_neg (fun z => absurd z.1 (by decide)), if_pos ⟨rfl, rfl⟩]
  show Rs (anyP (txL l) l.length (altL (txL l) l.length k) S) _ _
  unfold anyP
  rw [gF, if_pos a2.1]
  refine ⟨a2.1, ?_, ?_⟩
  · show b + 1 + 1 + w1.length + 1 + w2.length + 1 = _
    simp only [List.length_append, List.length_cons, List.length_nil]; omega
  · refine (congrArg (· + 1) a2.2.2).trans ?_
    show (altL (txL l) l.length k ((advP S).1, b + 1 + 1, (advP S).2.2)).2.2.2.1 + c2 + 1 = _
    have z : (altL (txL l) l.length k ((advP S).1, b + 1 + 1, (advP S).2.2)).2.2.2.1 = S.2.2.1 + c1 := a1.2.2
    rw [z]; omega
theorem rd_any3 {k : Nat} {w1 w2 w3 : List Int} {c1 c2 c3 : Nat} (h1 : RdAl k w1 c1) (h2 : RdAl k w2 c2) (h3 : RdAl k w3 c3) : RdAt (k + 1) (37 :: 40 :: (w1 ++ 44 :: (w2 ++ 44 :: (w3 ++ [41])))) (c1 + c2 + c3 + 1) := fun l r b S hS hd => by
  have hd : l.drop b = 37 :: 40 :: (w1 ++ 44 :: (w2 ++ 44 :: (w3 ++ 41 :: r))) := by rw [hd]; simp
  have e : cS (txL l) l.length S = 37 := cS_hd hS hd
  have hn : 0 < l.length := by
    have := drop_len hd (fun e => by cases e)
    rw [List.length_cons] at this
    omega
  have hd0 := drop_cons hd
  have e0 := take_hd (adv_at hS) hd0
  have h0 : PAt ((advP S).1, b + 1 + 1, (advP S).2.2) (b + 1 + 1) := ⟨hS.1, rfl⟩
  have a1 := h1 l (44 :: (w2 ++ 44 :: (w3 ++ 41 :: r))) _ _ h0 (drop_cons hd0) FS2_44
  have hd1 := drop_app (drop_cons hd0)
  have z1 : (altL (txL l) l.length k ((advP S).1, b + 1 + 1, (advP S).2.2)).2.2.2.1 = S.2.2.1 + c1 := a1.2.2
  generalize hX : altL (txL l) l.length k ((advP S).1, b + 1 + 1, (advP S).2.2) = X at *
  have e1 : cS (txL l) l.length X.2 = 44 := cS_hd a1.at hd1
  have a2 := h2 l (44 :: (w3 ++ 41 :: r)) _ _ (adv_at a1.at) (drop_cons hd1) FS2_44
  have hd2 := drop_app (drop_cons hd1)
  have z2 : (altL (txL l) l.length k (advP X.2)).2.2.2.1 = X.2.2.2.1 + c2 := a2.2.2
  have e2 : cS (txL l) l.length (altL (txL l) l.length k (advP X.2)).2 = 44 := cS_hd a2.at hd2
  have a3 : ∀ F, Rs (altL (txL l) l.length k (advP ((altL (txL l) l.length k (advP X.2)).2.1, (altL (txL l) l.length k (advP X.2)).2.2.1, (altL (txL l) l.length k (advP X.2)).2.2.2.1, F))) (b + 1 + 1 + w1.length + 1 + w2.length + 1 + w3.length) ((altL (txL l) l.length k (advP X.2)).2.2.2.1 + c3) := fun F => h3 l (41 :: r) _ _ (adv_at ⟨a2.1, a2.2.1⟩) (drop_cons hd2) FS2_41
  have hd3 := drop_app (drop_cons hd2)
  obtain ⟨F, G, g⟩ := lp_three (tx := txL l) (n := l.length) (cond := cAny) (go := fun S => altL (txL l) l.length k (advP S)) (r := X) hn ⟨e1, by decide⟩ a2.1 ⟨e2, by decide⟩ (fun F => (a3 F).1) (fun F z => by
    have z1 := z.1
    have z2 : cS (txL l) l.length (altL (txL l) l.length k (advP ((altL (txL l) l.length k (advP X.2)).2.1, (altL (txL l) l.length k (advP X.2)).2.2.1, (altL (txL l) l.length k (advP X.2)).2.2.2.1, F))).2 = 41 := cS_hd (a3 F).at hd3
    rw [z2] at z1; exact absurd z1 (by decide))
  have a3 := a3 F
  generalize hY : altL (txL l) l.length k (advP ((altL (txL l) l.length k (advP X.2)).2.1, (altL (txL l) l.length k (advP X.2)).2.2.1, (altL (txL l) l.length k (advP X.2)).2.2.2.1, F)) = Y at *
  have gL : anyL (txL l) l.length (altL (txL l) l.length k) S = (3, (Y.2.1, Y.2.2.1, Y.2.2.2.1, G)) := by
    unfold anyL
    rw [e0, hX]
    exact g
  have gE := take_hd (S := (Y.2.1, Y.2.2.1, Y.2.2.2.1, G)) ⟨a3.1, a3.2.1⟩ hd3
  have gF : anyE (txL l) l.length (anyL (txL l) l.length (altL (txL l) l.length k) S) = (Y.2.1, b + 1 + 1 + w1.length + 1 + w2.length + 1 + w3.length + 1, Y.2.2.2.1, G) := by
    unfold anyE
    rw [gL, if_neg (show ¬ 3 < 2 by decide)]
    exact gE
  unfold atoL atomP
  rw [e, if_neg (by decide), if_neg (by decide), if_neg (by decide), if_neg (fun z => absurd z.1 (by decide)), if_pos ⟨rfl, rfl⟩]
  show Rs (anyP (txL l) l.length (altL (txL l) l.length k) S) _ _
  unfold anyP
  rw [gF, if_pos a3.1]
  refine ⟨a3.1, ?_, ?_⟩
  · show b + 1 + 1 + w1.length + 1 + w2.length + 1 + w3.length + 1 = _
    simp only [List.length_append, List.length_cons, List.length_nil]; omega
  · refine (congrArg (· + 1) a3.2.2).trans ?_
    show (altL (txL l) l.length k (advP X.2)).2.2.2.1 + c3 + 1 = _
    rw [z2, z1]; omega
/-! times -/
def QB (lo hi more : Int) : Prop := (0 ≤ lo ∧ lo ≤ 2) ∧ ((1 ≤ hi ∧ hi ≤ 4 ∧ lo ≤ hi) ∨ hi = 100) ∧ (more = 0 ∨ more = 1)
def q1T (lo hi : Int) : List Int := if lo = 0 ∧ hi = 100 then [42] else if lo = 1 ∧ hi = 100 then [43] else if lo = 0 ∧ hi = 1 then [63] else [123, 48 + lo] ++ (if hi = lo then [] else if hi = 100 then [44] else [44, 48 + hi]) ++ [125]
def qT (lo hi more : Int) : List Int := q1T lo hi ++ (if more = 0 then [63] else [])
theorem num_one {l r : List Int} {b : Nat} {S : PS} {x : Int} (hS : PAt S b) (hx : 0 ≤ x ∧ x ≤ 9) (hd : l.drop b = (48 + x) :: r) (hr : ¬ isDg (hdL r)) : numP (txL l) l.length S = (x, advP S) := by
  have e : cS (txL l) l.length S = 48 + x := cS_hd hS hd
  have e2 := cS_hd (adv_at hS) (drop_cons hd)
  unfold numP
  rw [e, e2, if_pos (by unfold isDg; omega), if_neg hr, show 48 + x - 48 = x by omega]
theorem qu_read {l r : List Int} {b : Nat} {S : PS} {lo hi more : Int} (hQ : QB lo hi more) (hS : PAt S b) (hd : l.drop b = q1T lo hi ++ r) : PAt (quantP (txL l) l.length S).2.2 (b + (q1T lo hi).length) ∧ (quantP (txL l) l.length S).2.2.2.2 = S.2.2 ∧ (cS (txL l) l.length S = 42 ∨ cS (txL l) l.length S = 43 ∨ cS (txL l) l.length S = 63 ∨ cS (txL l) l.length S = 123) := by
  obtain ⟨h1, h2, h3⟩ := hQ
  have one : ∀ x : Int, x = 42 ∨ x = 43 ∨ x = 63 → q1T lo hi = [x] → PAt (quantP (txL l) l.length S).2.2 (b + (q1T lo hi).length) ∧ (quantP (txL l) l.length S).2.2.2.2 = S.2.2 ∧ (cS (txL l) l.length S = 42 ∨ cS (txL l) l.length S = 43 ∨ cS (txL l) l.length S = 63 ∨ cS (txL l) l.length S = 123) := fun x hx e => by
    rw [e] at hd ⊢
    have e1 : cS (txL l) l.length S = x := cS_hd hS hd
    unfold quantP
    rw [if_neg (by omega)]
    exact ⟨adv_at hS, rfl, by omega⟩
  unfold q1T at *
  by_cases c1 : lo = 0 ∧ hi = 100
  · exact one 42 (by omega) (if_pos c1)
  · by_cases c2 : lo = 1 ∧ hi = 100
    · exact one 43 (by omega) ((if_neg c1).trans (if_pos c2))
    · by_cases c3 : lo = 0 ∧ hi = 1
      · exact one 63 (by omega) ((if_neg c1).trans ((if_neg c2).trans (if_pos c3)))
      · clear one
        rw [if_neg c1, if_neg c2, if_neg c3] at hd ⊢
        have hd : l.drop b = 123 :: (48 + lo) :: ((if hi = lo then [] else if hi = 100 then [44] else [44, 48 + hi]) ++ 125 :: r) := by rw [hd]; simp
        have e1 : cS (txL l) l.length S = 123 := cS_hd hS hd
        have p1 := adv_at hS
        have d1 := drop_cons hd
        have p2 := adv_at p1
        have d2 := drop_cons d1
        unfold quantP
        rw [if_pos e1]
        unfold curlP
        by_cases c4 : hi = lo
        · rw [if_pos c4] at d1 d2 ⊢
          have d2 : l.drop (b + 1 + 1) = 125 :: r := d2
          have n1 := num_one p1 (x := lo) (by omega) d1 (by show ¬ isDg 125; unfold isDg; omega)
          have e2 : cS (txL l) l.length (advP (advP S)) = 125 := cS_hd p2 d2
          have t := take_hd p2 d2
          rw [n1, if_neg (by rw [e2]; decide), if_neg (show ¬ lo = 0 by omega), t]
          exact ⟨⟨hS.1, rfl⟩, rfl, by omega⟩
        · rw [if_neg c4] at d1 d2 ⊢
          by_cases c5 : hi = 100
          · rw [if_pos c5] at d1 d2 ⊢
            have d2 : l.drop (b + 1 + 1) = 44 :: 125 :: r := d2
            have n1 := num_one p1 (x := lo) (by omega) d1 (by show ¬ isDg 44; unfold isDg; omega)
            have e2 : cS (txL l) l.length (advP (advP S)) = 44 := cS_hd p2 d2
            have p3 := adv_at p2
            have d3 := drop_cons d2
            have e3 : cS (txL l) l.length (advP (advP (advP S))) = 125 := cS_hd p3 d3
            have t := take_hd p3 d3
            rw [n1, if_pos e2, if_neg (by rw [e3]; unfold isDg; omega), t]
            exact ⟨⟨hS.1, rfl⟩, rfl, by omega⟩
          · rw [if_neg c5] at d1 d2 ⊢
            have d2 : l.drop (b + 1 + 1) = 44 :: (48 + hi) :: 125 :: r := d2
            have n1 := num_one p1 (x := lo) (by omega) d1 (by show ¬ isDg 44; unfold isDg; omega)
            have e2 : cS (txL l) l.length (advP (advP S)) = 44 := cS_hd p2 d2
            have p3 := adv_at p2
            have d3 := drop_cons d2
            have e3 : cS (txL l) l.length (advP (advP (advP S))) = 48 + hi := cS_hd p3 d3
            have n2 := num_one p3 (x := hi) (by omega) d3 (by show ¬ isDg 125; unfold isDg; omega)
            have p4 := adv_at p3
            have t := take_hd p4 (drop_cons d3)
            rw [n1, if_pos e2, if_pos (by rw [e3]; unfold isDg; omega), n2, if_neg (show ¬ (hi = 0 ∨ hi < lo) by omega), t]
            exact ⟨⟨hS.1, rfl⟩, rfl, by omega⟩
theorem rd_rep {k : Nat} {w : List Int} {c : Nat} {lo hi more : Int} (h : RdAt k w c) (hQ : QB lo hi more) : RdRe k (w ++ qT lo hi more) (c + 1) := fun l r b S hS hd hf => by
  have hd : l.drop b = w ++ (q1T lo hi ++ ((if more = 0 then [63] else []) ++ r)) := by rw [hd]; unfold qT; simp
  have a1 := h l _ b S hS hd
  have d1 := drop_app hd
  obtain ⟨q1, q2, q3⟩ := qu_read hQ a1.at d1
  have d2 := drop_app d1
  have e2 := cS_hd q1 d2
  have hl : (w ++ qT lo hi more).length = w.length + (q1T lo hi).length + (if more = 0 then 1 else 0) := by
    unfold qT
    rw [List.length_append, List.length_append]
    split <;> simp <;> omega
  have hc : (quantP (txL l) l.length (atoL (txL l) l.length k S).2).2.2.2.2.1 = S.2.2.1 + c := by rw [q2]; exact a1.2.2
  unfold repL repP
  rw [if_pos q3, if_pos q1.1]
  by_cases g : more = 0
  · rw [if_pos g] at d2 e2 hl
    have d2 : l.drop (b + w.length + (q1T lo hi).length) = 63 :: r := d2
    have e2 : cS (txL l) l.length (quantP (txL l) l.length (atoL (txL l) l.length k S).2).2.2 = 63 := e2
    rw [if_pos e2]
    refine ⟨q1.1, ?_, ?_⟩
    · show (quantP (txL l) l.length (atoL (txL l) l.length k S).2).2.2.2.1 + 1 = _
      rw [q1.2, hl]; omega
    · show (quantP (txL l) l.length (atoL (txL l) l.length k S).2).2.2.2.2.1 + 1 = _
      rw [hc]; omega
  · rw [if_neg g] at d2 e2 hl
    have e2 : cS (txL l) l.length (quantP (txL l) l.length (atoL (txL l) l.length k S).2).2.2 = hdL r := e2
    rw [if_neg (by rw [e2]; exact hf.2.2.1)]
    refine ⟨q1.1, ?_, ?_⟩
    · show (quantP (txL l) l.length (atoL (txL l) l.length k S).2).2.2.2.1 = _
      rw [q1.2, hl]; omega
    · show (quantP (txL l) l.length (atoL (txL l) l.length k S).2).2.2.2.2.1 + 1 = _
      rw [hc]; omega
