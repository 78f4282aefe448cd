/-! PATTERNS: every round of the parser leaves the table in order -/
theorem mkT_s {F : Tb} {p w : Nat} {a b c d : Int} {g : Nat → Int} : mkT F p a b c d g p w = (if w = 0 then a else if w = 1 then b else if w = 2 then c else if w = 7 then d else if w < 9 then -5 else g w) := if_pos rfl
theorem nod_fact {F G : Tb} {a c q : Nat} {k l so : Int} (hP : Pth F a c q k l) (hw : Wth F (-5) q k) (hG : G = wiT q k c (mkT F c so (-5) (q : Int) k (gT F so k q))) : AgB c F G ∧ (∀ (p w : Nat), (p : Int) < c → w ≠ 6 → G p w = F p w) ∧ Wth G c q k ∧ (∀ w, w ≠ 6 → G c w = mkT F c so (-5) (q : Int) k (gT F so k q) c w) ∧ G c 6 = -5 := by
  subst hG
  have b := Pth.bd hP
  have h0 : (0 : Int) ≤ (a : Int) := by omega
  have hM : Pth (mkT F c so (-5) (q : Int) k (gT F so k q)) a c q k l := Pth.mono h0 (Int.le_refl _) (fun p _ _ => mkT_ne (by omega)) hP
  have hw' : Wth (mkT F c so (-5) (q : Int) k (gT F so k q)) (-5) q k := Wth.same h0 (fun p w _ hp => mkT_ne (by omega)) hP hw
  have e2 : ∀ (p w : Nat), (p : Int) < c → w ≠ 6 → wiT q k c (mkT F c so (-5) (q : Int) k (gT F so k q)) p w = F p w := fun p w hp h6 => (wiT_w h6 p q k c _).trans (mkT_ne (by omega))
  refine ⟨fun x w hx h => ?_, e2, wiT_wth h0 hM, fun w h6 => wiT_w h6 c q k c _, ?_⟩
  · by_cases c6 : w = 6
    · subst c6
      have hx6 : F x 6 ≠ -5 := h.resolve_right (fun z => z.1 rfl)
      have hm : mkT F c so (-5) (q : Int) k (gT F so k q) x 6 = F x 6 := mkT_ne (by omega)
      exact (wiT_6 h0 hM hw' (by rw [hm]; exact hx6)).trans hm
    · exact e2 x w (by omega) c6
  · rw [wiT_lo h0 6 hM (Or.inr (Int.le_refl _)), mkT_s]
    rfl
theorem rnd_wf {S U : PS} {k l so d9 d10 o' : Int} {q : Nat} (w1 : WfT U.2.2.2 S.2.2.1 U.2.2.1) (hP : Pth U.2.2.2 S.2.2.1 U.2.2.1 q k l) (h8 : U.2.2.2 l.toNat 8 = -5) (w2 : Wth U.2.2.2 (-5) q k) (w4 : mxC U.2.2.2 9 q k ≤ d9) (w5 : mxC U.2.2.2 10 q k ≤ d10) (hso : so = 3 ∨ so = 4 ∨ so = 6) (h2 : 2 ≤ q) (h6 : so = 6 → q ≤ 4) (hlen : smC U.2.2.2 so q k + exL so q 0 0 0 + penB o' so + (S.2.1 : Int) ≤ U.2.1) : Wf o' (d9 + (if so = 3 then 1 else 0)) (d10 + 1) S (rndP U so k q) := fun _ => by
  obtain ⟨g1, g2, g3, g4, g5⟩ := nod_fact hP w2 rfl (so := so)
  have b := Pth.bd hP
  show WfT (wiT q k U.2.2.1 (mkT U.2.2.2 U.2.2.1 so (-5) (q : Int) k (gT U.2.2.2 so k q))) S.2.2.1 (U.2.2.1 + 1) ∧ wiT q k U.2.2.1 (mkT U.2.2.2 U.2.2.1 so (-5) (q : Int) k (gT U.2.2.2 so k q)) ((U.2.2.1 : Int)).toNat 6 = -5 ∧ wiT q k U.2.2.1 (mkT U.2.2.2 U.2.2.1 so (-5) (q : Int) k (gT U.2.2.2 so k q)) ((U.2.2.1 : Int)).toNat 11 + penB o' (wiT q k U.2.2.1 (mkT U.2.2.2 U.2.2.1 so (-5) (q : Int) k (gT U.2.2.2 so k q)) ((U.2.2.1 : Int)).toNat 0) + (S.2.1 : Int) ≤ U.2.1 ∧ wiT q k U.2.2.1 (mkT U.2.2.2 U.2.2.1 so (-5) (q : Int) k (gT U.2.2.2 so k q)) ((U.2.2.1 : Int)).toNat 9 ≤ d9 + (if so = 3 then 1 else 0) ∧ wiT q k U.2.2.1 (mkT U.2.2.2 U.2.2.1 so (-5) (q : Int) k (gT U.2.2.2 so k q)) ((U.2.2.1 : Int)).toNat 10 ≤ d10 + 1
  rw [Int.toNat_natCast]
  generalize wiT q k U.2.2.1 (mkT U.2.2.2 U.2.2.1 so (-5) (q : Int) k (gT U.2.2.2 so k q)) = G at *
  have f0 : G U.2.2.1 0 = so := by rw [g4 0 (by decide), mkT_s]; rfl
  have f9 : G U.2.2.1 9 = mxC U.2.2.2 9 q k + (if so = 3 then 1 else 0) := by rw [g4 9 (by decide), mkT_s]; rfl
  have f10 : G U.2.2.1 10 = mxC U.2.2.2 10 q k + 1 := by rw [g4 10 (by decide), mkT_s]; rfl
  have f11 : G U.2.2.1 11 = smC U.2.2.2 so q k + exL so q 0 0 0 := by
    rw [g4 11 (by decide), mkT_s]
    show smC U.2.2.2 so q k + (if so = 4 then (q : Int) - 1 else if so = 6 then (q : Int) + 2 else 0) = _
    unfold exL
    rw [if_neg (show ¬ so = 5 by omega)]
  have hx : ∀ x y z, exL so q x y z = exL so q 0 0 0 := fun x y z => by
    unfold exL
    rw [if_neg (show ¬ so = 5 by omega), if_neg (show ¬ so = 5 by omega)]
  refine ⟨WfT.node w1 hP h8 g1 g2 g3 f0 (by omega) (by rw [g4 2 (by decide), mkT_s]; rfl) (by rw [g4 7 (by decide), mkT_s]; rfl) f9 f10 (by rw [hx]; exact f11) (fun e => by omega) (fun _ => h2) h6, g5, ?_, ?_, ?_⟩
  · rw [f11, f0]; exact hlen
  · rw [f9]; omega
  · rw [f10]; omega
theorem penB_le {i : Int} : penB 4 i ≤ penB 3 i ∧ penB 3 i ≤ penB 5 i ∧ 0 ≤ penB 4 i ∧ penB 6 i = 0 ∧ penB 5 i ≤ 2 := by
  unfold penB needB
  refine ⟨?_, ?_, ?_, ?_, ?_⟩ <;> repeat' split
  all_goals omega
theorem end_wf {n : Nat} {S : PS} {k so o' d9 d10 sep : Int} {L : Nat × PS} (h : L.2.1 = true → ∃ l, LpI n S k L.1 l L.2) (hW : LpW so d9 d10 sep S k L.1 L.2) (hso : (so = 3 ∧ sep = 0 ∧ o' = 4) ∨ (so = 4 ∧ sep = 1 ∧ o' = 6)) : Wf o' (d9 + (if so = 3 then 1 else 0)) (d10 + 1) S (endP L so k) := by
  unfold endP
  by_cases hc : L.2.1 = true ∧ 1 < L.1
  · rw [if_pos hc]
    obtain ⟨l, hl⟩ := h hc.1
    obtain ⟨-, -, -, -, p5, p6, -⟩ := hl.2 hc.1
    obtain ⟨w1, w2, w3, w4, w5⟩ := hW hc.1
    refine rnd_wf w1 p5 p6 w2 w4 w5 (by omega) hc.2 (by omega) ?_
    rcases hso with ⟨rfl, rfl, rfl⟩ | ⟨rfl, rfl, rfl⟩
    · have e : exL 3 L.1 0 0 0 = 0 := rfl
      have e2 : penB 4 3 = 0 := by decide
      omega
    · have e : exL 4 L.1 0 0 0 = (L.1 : Int) - 1 := rfl
      have e2 : penB 6 4 = 0 := by decide
      omega
  · rw [if_neg hc]
    intro hw
    obtain ⟨l, hl⟩ := h hw
    obtain ⟨-, -, -, -, p5, p6, -⟩ := hl.2 hw
    obtain ⟨w1, w2, w3, w4, w5⟩ := hW hw
    have b := Pth.bd p5
    have e1 : L.1 = 1 := by
      have : ¬ 1 < L.1 := fun h => hc ⟨hw, h⟩
      omega
    rw [e1] at w2 w3 w4 w5
    have c3 : L.2.2.2.2 k.toNat 11 + penB so (L.2.2.2.2 k.toNat 0) + 0 + sep * (((1 : Nat) : Int) - 1) + (S.2.1 : Int) ≤ L.2.2.1 := w3
    have c4 : max (L.2.2.2.2 k.toNat 9) 0 ≤ d9 := w4
    have c5 : max (L.2.2.2.2 k.toNat 10) 0 ≤ d10 := w5
    rw [show (((1 : Nat) : Int) - 1) = 0 from rfl, Int.mul_zero] at c3
    have hp := penB_le (i := L.2.2.2.2 k.toNat 0)
    refine ⟨w1, w2.1, ?_, ?_, ?_⟩
    · show L.2.2.2.2 k.toNat 11 + penB o' (L.2.2.2.2 k.toNat 0) + (S.2.1 : Int) ≤ L.2.2.1
      rcases hso with ⟨rfl, rfl, rfl⟩ | ⟨rfl, rfl, rfl⟩ <;> omega
    · show L.2.2.2.2 k.toNat 9 ≤ _
      split <;> omega
    · show L.2.2.2.2 k.toNat 10 ≤ _
      omega
theorem num_len (tx : Nat → Int) (n : Nat) (S : PS) : (numP tx n S).2.1 = true → (S.2.1 : Int) + (if 9 < (numP tx n S).1 then 2 else 1) ≤ (numP tx n S).2.2.1 := by
  unfold numP
  by_cases h : isDg (cS tx n S)
  · rw [if_pos h]
    by_cases h2 : isDg (cS tx n (advP S))
    · rw [if_pos h2]
      intro _
      show (S.2.1 : Int) + _ ≤ ((S.2.1 + 1 + 1 : Nat) : Int)
      split <;> omega
    · rw [if_neg h2]
      intro _
      show (S.2.1 : Int) + (if 9 < cS tx n S - 48 then 2 else 1) ≤ ((S.2.1 + 1 : Nat) : Int)
      unfold isDg at h
      rw [if_neg (by omega)]
      omega
  · rw [if_neg h]
    intro e
    cases e
theorem curl_len (tx : Nat → Int) (n : Nat) (S : PS) : (curlP tx n S).2.2.1 = true → qLen (curlP tx n S).1 (curlP tx n S).2.1 1 + (S.2.1 : Int) ≤ (curlP tx n S).2.2.2.1 := by
  have n5 := num_len tx n (advP S)
  have e4 : (advP S).2.1 = S.2.1 + 1 := rfl
  unfold curlP
  generalize numP tx n (advP S) = r at *
  have e3 : (advP r.2).2.1 = r.2.2.1 + 1 := rfl
  by_cases h2 : cS tx n r.2 = 44
  · rw [if_pos h2]
    have h3 := cS_lt (tx := tx) (n := n) (S := r.2) (by omega)
    have n6 := n5 h3.1
    by_cases h4 : isDg (cS tx n (advP r.2))
    · rw [if_pos h4]
      have m5 := num_len tx n (advP r.2)
      generalize numP tx n (advP r.2) = q at *
      simp only
      intro h
      by_cases h5 : q.1 = 0 ∨ q.1 < r.1
      · rw [if_pos h5] at h
        have t := (take_fact (tx := tx) (n := n) (S := badAt q.2 (advP r.2).2.1) (c := 125) (by decide)).2 h
        have hb : (badAt q.2 (advP r.2).2.1).1 = false := by
          unfold badAt
          by_cases h6 : q.2.1 = true
          · rw [if_pos h6]
          · rw [if_neg h6]; exact Bool.eq_false_iff.mpr h6
        rw [hb] at t
        cases t.1
      · rw [if_neg h5] at h ⊢
        obtain ⟨t1, -, t2⟩ := (take_fact (tx := tx) (n := n) (S := q.2) (c := 125) (by decide)).2 h
        have m6 := m5 t1
        rw [t2]
        show qLen r.1 q.1 1 + (S.2.1 : Int) ≤ ((q.2.2.1 + 1 : Nat) : Int)
        unfold qLen
        split at m6 <;> split at n6 <;> repeat' split
        all_goals omega
    · rw [if_neg h4]
      simp only
      intro h
      obtain ⟨t1, -, t2⟩ := (take_fact (tx := tx) (n := n) (S := advP r.2) (c := 125) (by decide)).2 h
      rw [t2]
      show qLen r.1 100 1 + (S.2.1 : Int) ≤ ((r.2.2.1 + 1 + 1 : Nat) : Int)
      unfold qLen
      split at n6 <;> repeat' split
      all_goals omega
  · rw [if_neg h2]
    simp only
    intro h
    by_cases h5 : r.1 = 0
    · rw [if_pos h5, take_dead (by decide) rfl] at h
      cases h
    · rw [if_neg h5] at h ⊢
      obtain ⟨t1, -, t2⟩ := (take_fact (tx := tx) (n := n) (S := r.2) (c := 125) (by decide)).2 h
      have n6 := n5 t1
      rw [t2]
      show qLen r.1 r.1 1 + (S.2.1 : Int) ≤ ((r.2.2.1 + 1 : Nat) : Int)
      unfold qLen
      split at n6 <;> repeat' split
      all_goals omega
