/-! PATTERNS: the table of a pattern that is read, all levels -/
theorem Wf.mono {o d9 d10 e9 e10 : Int} {S : PS} {R : Int × PS} (h : Wf o d9 d10 S R) (h9 : d9 ≤ e9) (h10 : d10 ≤ e10) : Wf o e9 e10 S R := fun hw => by
  obtain ⟨a1, a2, a3, a4, a5⟩ := h hw
  exact ⟨a1, a2, a3, by omega, by omega⟩
theorem lpG_le {tx : Nat → Int} {n : Nat} {cond : Int → Nat → Prop} [∀ x q, Decidable (cond x q)] {g : PS → Int × PS} {M : Nat} (hc : ∀ x q, cond x q → q < M) : ∀ (f q : Nat) (l : Int) (U : PS), q ≤ M → (lpG tx n cond g f q l U).1 ≤ M
  | 0, q, l, U, h => h
  | f + 1, q, l, U, h => by
    show (if cond (cS tx n U) q then (if (g U).2.1 = true then lpG tx n cond g f (q + 1) (g U).1 (lnkP (g U).2 l (g U).1) else (q, (g U).2)) else (q, U)).1 ≤ M
    by_cases c : cond (cS tx n U) q
    · rw [if_pos c]
      by_cases w : (g U).2.1 = true
      · rw [if_pos w]; exact lpG_le hc f (q + 1) _ _ (hc _ _ c)
      · rw [if_neg w]; exact h
    · rw [if_neg c]; exact h
theorem lpG_ge {tx : Nat → Int} {n : Nat} {cond : Int → Nat → Prop} [∀ x q, Decidable (cond x q)] {g : PS → Int × PS} : ∀ (f q : Nat) (l : Int) (U : PS), q ≤ (lpG tx n cond g f q l U).1 ∧ ((lpG tx n cond g f q l U).1 ≤ q → (lpG tx n cond g f q l U).2.1 = true → (lpG tx n cond g f q l U).2 = U)
  | 0, q, l, U => ⟨Nat.le_refl _, fun _ _ => rfl⟩
  | f + 1, q, l, U => by
    have e : lpG tx n cond g (f + 1) q l U = (if cond (cS tx n U) q then (if (g U).2.1 = true then lpG tx n cond g f (q + 1) (g U).1 (lnkP (g U).2 l (g U).1) else (q, (g U).2)) else (q, U)) := rfl
    rw [e]
    by_cases c : cond (cS tx n U) q
    · rw [if_pos c]
      by_cases w : (g U).2.1 = true
      · rw [if_pos w]
        have i := (lpG_ge (tx := tx) (n := n) (cond := cond) (g := g) f (q + 1) (g U).1 (lnkP (g U).2 l (g U).1)).1
        exact ⟨by omega, fun h => by omega⟩
      · rw [if_neg w]; exact ⟨Nat.le_refl _, fun _ h => absurd h w⟩
    · rw [if_neg c]; exact ⟨Nat.le_refl _, fun _ _ => rfl⟩
def RtL (R : Int × PS) : Prop := R.2.1 = true → R.1 + 1 = (R.2.2.2.1 : Int)
theorem end_rl {tx : Nat → Int} {n : Nat} {cond : Int → Nat → Prop} [∀ x q, Decidable (cond x q)] {g : PS → Int × PS} {r : Int × PS} {so : Int} (h : RtL r) : RtL (endP (lstP tx n cond g r) so r.1) := by
  unfold endP lstP
  have i := lpG_ge (tx := tx) (n := n) (cond := cond) (g := g) (n + 1) 1 r.1 r.2
  generalize lpG tx n cond g (n + 1) 1 r.1 r.2 = L at *
  by_cases hc : L.2.1 = true ∧ 1 < L.1
  · rw [if_pos hc]; exact fun _ => rfl
  · rw [if_neg hc]
    intro hw
    have e : L.2 = r.2 := i.2 (by have : ¬ 1 < L.1 := fun h => hc ⟨hw, h⟩
                                  omega) hw
    show r.1 + 1 = (L.2.2.2.1 : Int)
    have hw' : L.2.1 = true := hw
    rw [e] at hw' ⊢
    exact h hw'
theorem rep_rl {tx : Nat → Int} {n : Nat} {A : Int × PS} (h : RtL A) : RtL (repP tx n A) := by
  unfold repP
  by_cases hc : cS tx n A.2 = 42 ∨ cS tx n A.2 = 43 ∨ cS tx n A.2 = 63 ∨ cS tx n A.2 = 123
  · rw [if_pos hc]
    by_cases hw : (quantP tx n A.2).2.2.1 = true
    · rw [if_pos hw]
      by_cases hz : cS tx n (quantP tx n A.2).2.2 = 63
      · rw [if_pos hz]; exact fun _ => rfl
      · rw [if_neg hz]; exact fun _ => rfl
    · rw [if_neg hw]; exact fun e => absurd e hw
  · rw [if_neg hc]; exact h
theorem atom_rl {tx : Nat → Int} {n : Nat} {dp : Bool} {sub : PS → Int × PS} (hr : dp = true → ∀ S, RtL (sub S)) (S : PS) : RtL (atomP tx n dp sub S) := by
  unfold atomP
  by_cases h1 : 65 ≤ cS tx n S ∧ cS tx n S ≤ 90
  · rw [if_pos h1]; exact fun _ => rfl
  · rw [if_neg h1]
    by_cases h2 : cS tx n S = 94
    · rw [if_pos h2]; exact fun _ => rfl
    · rw [if_neg h2]
      by_cases h3 : cS tx n S = 36
      · rw [if_pos h3]; exact fun _ => rfl
      · rw [if_neg h3]
        by_cases h4 : cS tx n S = 40 ∧ dp = true
        · rw [if_pos h4]
          intro hw
          obtain ⟨t1, -, t3⟩ := (take_fact (tx := tx) (n := n) (S := (sub (advP S)).2) (c := 41) (by decide)).2 hw
          show (sub (advP S)).1 + 1 = ((takeP tx n (sub (advP S)).2 41).2.2.1 : Int)
          rw [t3]
          exact hr h4.2 _ t1
        · rw [if_neg h4]
          by_cases h5 : cS tx n S = 37 ∧ dp = true
          · rw [if_pos h5]
            unfold anyP
            by_cases hw : (anyE tx n (anyL tx n sub S)).1 = true
            · rw [if_pos hw]; exact fun _ => rfl
            · rw [if_neg hw]; exact fun e => absurd e hw
          · rw [if_neg h5]; exact fun e => by cases e
theorem altL_rl (tx : Nat → Int) (n : Nat) : ∀ k S, RtL (altL tx n k S)
  | 0, S => end_rl (end_rl (rep_rl (atom_rl (fun h => by cases h) S)))
  | k + 1, S => end_rl (end_rl (rep_rl (atom_rl (fun _ => altL_rl tx n k) S)))
theorem leaf_wf {S : PS} {a b d9 d10 : Int} (h9 : 0 ≤ d9) (h10 : 0 ≤ d10) (ha : 0 ≤ a ∧ a ≤ 2) (hb : a = 0 → 0 ≤ b ∧ b ≤ 25) : Wf 5 d9 d10 S (leafP S a b) := fun _ => by
  have hm : ∀ w, mkT S.2.2.2 S.2.2.1 a b 0 (-5) (fun w => if w = 11 then 1 else 0) S.2.2.1 w = _ := fun w => mkT_s
  show WfT (mkT S.2.2.2 S.2.2.1 a b 0 (-5) (fun w => if w = 11 then 1 else 0)) S.2.2.1 (S.2.2.1 + 1) ∧ mkT S.2.2.2 S.2.2.1 a b 0 (-5) (fun w => if w = 11 then 1 else 0) ((S.2.2.1 : Int)).toNat 6 = -5 ∧ mkT S.2.2.2 S.2.2.1 a b 0 (-5) (fun w => if w = 11 then 1 else 0) ((S.2.2.1 : Int)).toNat 11 + penB 5 (mkT S.2.2.2 S.2.2.1 a b 0 (-5) (fun w => if w = 11 then 1 else 0) ((S.2.2.1 : Int)).toNat 0) + (S.2.1 : Int) ≤ ((S.2.1 + 1 : Nat) : Int) ∧ mkT S.2.2.2 S.2.2.1 a b 0 (-5) (fun w => if w = 11 then 1 else 0) ((S.2.2.1 : Int)).toNat 9 ≤ d9 ∧ mkT S.2.2.2 S.2.2.1 a b 0 (-5) (fun w => if w = 11 then 1 else 0) ((S.2.2.1 : Int)).toNat 10 ≤ d10
  rw [Int.toNat_natCast]
  refine ⟨fun p hp1 hp2 => ?_, by rw [hm]; rfl, ?_, by rw [hm]; exact h9, by rw [hm]; exact h10⟩
  · obtain rfl : p = S.2.2.1 := by omega
    left
    unfold Leaf
    rw [hm, hm, hm, hm, hm, hm, hm]
    exact ⟨ha, hb, rfl, rfl, rfl, rfl, rfl⟩
  · rw [hm, hm]
    show 1 + penB 5 a + (S.2.1 : Int) ≤ ((S.2.1 + 1 : Nat) : Int)
    have e : penB 5 a = 0 := by
      unfold penB needB
      rw [if_neg (by omega)]
    omega
theorem any_wf {tx : Nat → Int} {n : Nat} {sub : PS → Int × PS} {d9 d10 : Int} (h9 : 0 ≤ d9) (h10 : 0 ≤ d10) (hr : ∀ S, Nice n S (sub S)) (hW : ∀ S, Wf 6 d9 d10 S (sub S)) (S : PS) (h37 : cS tx n S = 37) : Wf 5 d9 (d10 + 1) S (anyP tx n sub S) := by
  have h0 := cS_lt (tx := tx) (n := n) (S := S) (by omega)
  have t := take_fact (tx := tx) (n := n) (S := advP S) (c := 40) (by decide)
  have hv : ∀ (U : PS) (q : Nat), cAny (cS tx n U) q → U.1 = true ∧ U.2.1 < n := fun U q hc => cS_lt (tx := tx) (n := n) (S := U) (by unfold cAny at hc; omega)
  have h := lpG_nice (tx := tx) (cond := cAny) (g := sub) (vv := advP) hr (fun U q hc => ⟨(hv U q hc).1, Nat.le_succ _, (hv U q hc).2, rfl⟩) (n + 1) 1 _ _ (LpI.one (hr (takeP tx n (advP S) 40)))
  have g := lpG_wf (tx := tx) (cond := cAny) (g := sub) (vv := advP) (sep := 1) h9 h10 hr hW (fun U q hc => ⟨(hv U q hc).1, Int.natCast_add _ _, Nat.le_succ _, (hv U q hc).2, rfl⟩) (n + 1) 1 _ _ (LpI.one (hr (takeP tx n (advP S) 40))) (LpW.one h9 h10 (hW (takeP tx n (advP S) 40)))
  have h4 : (anyL tx n sub S).1 ≤ 4 := lpG_le (fun x q hc => hc.2) (n + 1) 1 _ _ (by decide)
  have hL : anyL tx n sub S = lpG tx n cAny (fun S => sub (advP S)) (n + 1) 1 (sub (takeP tx n (advP S) 40)).1 (sub (takeP tx n (advP S) 40)).2 := rfl
  rw [← hL] at h g
  unfold anyP
  generalize anyL tx n sub S = L at h g h4 ⊢
  have t2 := take_fact (tx := tx) (n := n) (S := if L.1 < 2 then badP L.2 else L.2) (c := 41) (by decide)
  by_cases hw : (anyE tx n L).1 = true
  · rw [if_pos hw]
    obtain ⟨a1, a2, a3⟩ := t2.2 hw
    have h2 : ¬ L.1 < 2 := fun h2 => by rw [if_pos h2] at a1; cases a1
    rw [if_neg h2] at a1 a2 a3
    obtain ⟨l', hl⟩ := h.2 a1
    have e3 : anyE tx n L = advP L.2 := by
      show takeP tx n (if L.1 < 2 then badP L.2 else L.2) 41 = _
      rw [if_neg h2]
      exact a3
    obtain ⟨c1, c2, c3, c4, c5, c6, c7⟩ := hl.2 a1
    obtain ⟨b1, b2, b3⟩ := t.2 c1
    obtain ⟨w1, w2, w3, w4, w5⟩ := g a1
    rw [e3]
    have e4 : (takeP tx n (advP S) 40).2.2 = S.2.2 := by rw [b3]; rfl
    have e5 : (takeP tx n (advP S) 40).2.1 = S.2.1 + 2 := by rw [b3]; rfl
    rw [e4] at c5 w1
    rw [e5] at w3
    have r := rnd_wf (S := S) (U := advP L.2) (o' := 5) (so := 6) w1 c5 c6 w2 w4 w5 (Or.inr (Or.inr rfl)) (by omega) (fun _ => h4) (by
      show smC L.2.2.2.2 6 L.1 (sub (takeP tx n (advP S) 40)).1 + exL 6 L.1 0 0 0 + penB 5 6 + (S.2.1 : Int) ≤ ((L.2.2.1 + 1 : Nat) : Int)
      have x1 : exL 6 L.1 0 0 0 = (L.1 : Int) + 2 := rfl
      have x2 : penB 5 6 = 0 := by decide
      omega)
    rw [if_neg (by decide), Int.add_zero] at r
    exact r
  · rw [if_neg hw]
    exact fun e => absurd e hw
theorem atom_wf {tx : Nat → Int} {n : Nat} {dp : Bool} {sub : PS → Int × PS} {d9 d10 : Int} (h9 : 0 ≤ d9) (h10 : 0 ≤ d10 + 1) (hd : dp = true → 0 ≤ d10) (hr : dp = true → ∀ S, Nice n S (sub S)) (hW : dp = true → ∀ S, Wf 6 d9 d10 S (sub S)) (S : PS) : Wf 5 d9 (d10 + 1) S (atomP tx n dp sub S) := by
  unfold atomP
  by_cases h1 : 65 ≤ cS tx n S ∧ cS tx n S ≤ 90
  · rw [if_pos h1]; exact leaf_wf h9 h10 (by decide) (fun _ => by omega)
  · rw [if_neg h1]
    by_cases h2 : cS tx n S = 94
    · rw [if_pos h2]; exact leaf_wf h9 h10 (by decide) (fun e => by cases e)
    · rw [if_neg h2]
      by_cases h3 : cS tx n S = 36
      · rw [if_pos h3]; exact leaf_wf h9 h10 (by decide) (fun e => by cases e)
      · rw [if_neg h3]
        by_cases h4 : cS tx n S = 40 ∧ dp = true
        · rw [if_pos h4]
          intro hw
          obtain ⟨t1, -, t3⟩ := (take_fact (tx := tx) (n := n) (S := (sub (advP S)).2) (c := 41) (by decide)).2 hw
          obtain ⟨a1, a2, a3, a4, a5⟩ := hW h4.2 (advP S) t1
          have e1 : (advP S).2.1 = S.2.1 + 1 := rfl
          rw [e1] at a3
          have hp := penB_le (i := (sub (advP S)).2.2.2.2 (sub (advP S)).1.toNat 0)
          show WfT (takeP tx n (sub (advP S)).2 41).2.2.2 S.2.2.1 (takeP tx n (sub (advP S)).2 41).2.2.1 ∧ (takeP tx n (sub (advP S)).2 41).2.2.2 (sub (advP S)).1.toNat 6 = -5 ∧ (takeP tx n (sub (advP S)).2 41).2.2.2 (sub (advP S)).1.toNat 11 + penB 5 ((takeP tx n (sub (advP S)).2 41).2.2.2 (sub (advP S)).1.toNat 0) + (S.2.1 : Int) ≤ (takeP tx n (sub (advP S)).2 41).2.1 ∧ (takeP tx n (sub (advP S)).2 41).2.2.2 (sub (advP S)).1.toNat 9 ≤ d9 ∧ (takeP tx n (sub (advP S)).2 41).2.2.2 (sub (advP S)).1.toNat 10 ≤ d10 + 1
          rw [t3]
          refine ⟨a1, a2, ?_, a4, ?_⟩
          · show (sub (advP S)).2.2.2.2 (sub (advP S)).1.toNat 11 + penB 5 ((sub (advP S)).2.2.2.2 (sub (advP S)).1.toNat 0) + (S.2.1 : Int) ≤ (((sub (advP S)).2.2.1 + 1 : Nat) : Int)
            omega
          · show (sub (advP S)).2.2.2.2 (sub (advP S)).1.toNat 10 ≤ d10 + 1
            omega
        · rw [if_neg h4]
          by_cases h5 : cS tx n S = 37 ∧ dp = true
          · rw [if_pos h5]; exact any_wf h9 (hd h5.2) (hr h5.2) (hW h5.2) S h5.1
          · rw [if_neg h5]; exact fun e => by cases e
theorem lev_wf (tx : Nat → Int) (n k : Nat) (h : dpL k = true → ∀ S, Wf 6 (k : Int) (4 * (k : Int) - 1) S (subL tx n k S)) (S : PS) : Wf 6 ((k : Int) + 1) (4 * (k : Int) + 3) S (altL tx n k S) := by
  have hk : (0 : Int) ≤ k := Int.natCast_nonneg k
  have ha : ∀ S, Wf 5 (k : Int) (4 * (k : Int) - 1 + 1) S (atoL tx n k S) := fun S => atom_wf (by omega) (by omega) (fun e => by unfold dpL at e; have := of_decide_eq_true e; omega) (subL_nice tx n k) h S
  have hr : ∀ S, Wf 3 (k : Int) (4 * (k : Int) - 1 + 1 + 1) S (repL tx n k S) := fun S => rep_wf (by omega) (by omega) (atoL_nice tx n k S) (ha S)
  have hs : ∀ S, Wf 4 ((k : Int) + 1) (4 * (k : Int) - 1 + 1 + 1 + 1) S (serL tx n k S) := fun S => ser_wf (by omega) (by omega) (repL_nice tx n k) hr S
  rw [altL_eq]
  exact (alt_wf (by omega) (by omega) (serL_nice tx n k) hs S).mono (by omega) (by omega)
theorem altL_wf (tx : Nat → Int) (n : Nat) : ∀ (k : Nat) (S : PS), Wf 6 ((k : Int) + 1) (4 * (k : Int) + 3) S (altL tx n k S)
  | 0, S => lev_wf tx n 0 (fun h => by cases h) S
  | k + 1, S => lev_wf tx n (k + 1) (fun _ S => by
      have h := altL_wf tx n k S
      exact h.mono (by omega) (by omega)) S
theorem pat_wf {tx : Nat → Int} {n : Nat} (h : PatW tx n) : ∀ F c r, F = (altL tx n 5 S0).2.2.2.2 → c = (altL tx n 5 S0).2.2.2.1 → r = c - 1 → 1 ≤ c ∧ c ≤ 2 * n ∧ WfT F 0 c ∧ F r 6 = -5 ∧ F r 8 = -5 ∧ F r 11 ≤ (n : Int) ∧ F r 9 ≤ 6 ∧ F r 10 ≤ 23 := by
  rintro _ _ _ rfl rfl rfl
  obtain ⟨a1, a2, a3, a4, a5⟩ := altL_wf tx n 5 S0 h.1
  obtain ⟨-, -, r3, r4, r5, r6, r7, -⟩ := (altL_nice tx n 5 S0).2 h.1
  have hr := altL_rl tx n 5 S0 h.1
  have hn := h.2
  have e0 : S0.2.1 = 0 := rfl
  have e1 : S0.2.2.1 = 0 := rfl
  rw [e0] at a3 r4
  rw [e1] at r3 r4 r5
  have er : (altL tx n 5 S0).1.toNat = (altL tx n 5 S0).2.2.2.1 - 1 := by omega
  rw [er] at a2 a3 a4 a5 r7
  have hp := penB_le (i := (altL tx n 5 S0).2.2.2.2 ((altL tx n 5 S0).2.2.2.1 - 1) 0)
  exact ⟨by omega, by omega, a1, a2, r7, by omega, by omega, by omega⟩
