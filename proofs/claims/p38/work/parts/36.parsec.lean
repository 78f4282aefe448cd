/-! PATTERNS as the class reads them: a series at the deepest level ends ahead of a bracket, where the reference goes on and fails -/
abbrev cSerD (dp : Bool) : Int → Nat → Prop := fun x _ => (65 ≤ x ∧ x ≤ 90) ∨ x = 94 ∨ x = 36 ∨ (dp = true ∧ (x = 40 ∨ x = 37))
def serPD (tx : Nat → Int) (n : Nat) (dp : Bool) (rep : PS → Int × PS) (S : PS) : Int × PS := endP (lstP tx n (cSerD dp) rep (rep S)) 3 (rep S).1
def altC (tx : Nat → Int) (n : Nat) : Nat → PS → Int × PS
  | 0 => altP tx n (serPD tx n false (fun S => repP tx n (atomP tx n false (fun S => (-5, S)) S)))
  | k + 1 => altP tx n (serPD tx n true (fun S => repP tx n (atomP tx n true (altC tx n k) S)))
def subC (tx : Nat → Int) (n : Nat) : Nat → PS → Int × PS
  | 0 => fun S => (-5, S)
  | k + 1 => altC tx n k
def atoC (tx : Nat → Int) (n k : Nat) : PS → Int × PS := atomP tx n (dpL k) (subC tx n k)
def repC (tx : Nat → Int) (n k : Nat) : PS → Int × PS := fun S => repP tx n (atoC tx n k S)
def serC (tx : Nat → Int) (n k : Nat) : PS → Int × PS := serPD tx n (dpL k) (repC tx n k)
theorem altC_eq (tx : Nat → Int) (n k : Nat) : altC tx n k = altP tx n (serC tx n k) := by
  cases k <;> rfl
theorem serD_nice {tx : Nat → Int} {n : Nat} {dp : Bool} {rep : PS → Int × PS} (hr : ∀ S, Nice n S (rep S)) (S : PS) : Nice n S (serPD tx n dp rep S) := by
  unfold serPD lstP
  have h := lpG_nice (tx := tx) (cond := cSerD dp) (g := rep) (vv := id) hr (fun U q hc => by
    have := cS_lt (tx := tx) (n := n) (S := U) (by unfold cSerD at hc; omega)
    exact ⟨this.1, Nat.le_refl _, Nat.le_of_lt this.2, rfl⟩) (n + 1) 1 _ _ (LpI.one (hr S))
  exact end_nice h.1 h.2 (l := 0)
theorem altC_nice (tx : Nat → Int) (n : Nat) : ∀ k S, Nice n S (altC tx n k S)
  | 0, S => alt_nice (fun S => serD_nice (fun S => rep_nice (atom_nice (fun h => by cases h) S)) S) S
  | k + 1, S => alt_nice (fun S => serD_nice (fun S => rep_nice (atom_nice (fun _ => altC_nice tx n k) S)) S) S
theorem subC_nice (tx : Nat → Int) (n k : Nat) (h : dpL k = true) (S : PS) : Nice n S (subC tx n k S) := by
  cases k with
  | zero => cases h
  | succ k => exact altC_nice tx n k S
theorem atoC_nice (tx : Nat → Int) (n k : Nat) (S : PS) : Nice n S (atoC tx n k S) := atom_nice (subC_nice tx n k) S
theorem repC_nice (tx : Nat → Int) (n k : Nat) (S : PS) : Nice n S (repC tx n k S) := rep_nice (atoC_nice tx n k S)
theorem serC_nice (tx : Nat → Int) (n k : Nat) (S : PS) : Nice n S (serC tx n k S) := serD_nice (repC_nice tx n k) S
def Lo (tx : Nat → Int) (n : Nat) (b : Bool) (x y : PS) : Prop := y.1 = false ∧ x.2.1 = y.2.1 ∧ (x.1 = false ∨ (b = true ∧ (cS tx n x = 40 ∨ cS tx n x = 37)))
def Lq {α : Type} (tx : Nat → Int) (n : Nat) (b : Bool) (x y : α × PS) : Prop := x = y ∨ Lo tx n b x.2 y.2
theorem cS_of {tx : Nat → Int} {n : Nat} {S U : PS} (h1 : S.1 = U.1) (h2 : S.2.1 = U.2.1) : cS tx n S = cS tx n U := by
  unfold cS; rw [h1, h2]
theorem Lo.up {tx : Nat → Int} {n : Nat} {b : Bool} {x y : PS} (h : Lo tx n b x y) : Lo tx n true x y := ⟨h.1, h.2.1, h.2.2.imp id (fun h => ⟨rfl, h.2⟩)⟩
theorem Lq.up {α : Type} {tx : Nat → Int} {n : Nat} {b : Bool} {x y : α × PS} (h : Lq tx n b x y) : Lq tx n true x y := h.imp id Lo.up
theorem Lo.of {tx : Nat → Int} {n : Nat} {b : Bool} {x y x' : PS} (h : Lo tx n b x y) (h1 : x'.1 = x.1) (h2 : x'.2.1 = x.2.1) : Lo tx n b x' y := ⟨h.1, h2.trans h.2.1, h.2.2.imp (fun e => h1.trans e) (fun e => ⟨e.1, by rw [cS_of h1 h2]; exact e.2⟩)⟩
theorem lp_stop {tx : Nat → Int} {n : Nat} {cond : Int → Nat → Prop} [∀ x q, Decidable (cond x q)] {go : PS → Int × PS} {f q : Nat} {last : Int} {S : PS} (h : ¬ cond (cS tx n S) q) : lpG tx n cond go f q last S = (q, S) := by
  cases f with
  | zero => rfl
  | succ f => exact if_neg h
theorem lp_Lo {tx : Nat → Int} {n : Nat} {b : Bool} {cond : Int → Nat → Prop} [∀ x q, Decidable (cond x q)] {g h : PS → Int × PS} (hg : ∀ S, Lq tx n b (g S) (h S)) (hc : b = true → ∀ q, ¬ cond 40 q ∧ ¬ cond 37 q) : ∀ (f q : Nat) (l : Int) (S : PS), Lq tx n b (lpG tx n cond g f q l S) (lpG tx n cond h f q l S)
  | 0, q, l, S => Or.inl rfl
  | f + 1, q, l, S => by
    show Lq tx n b (if cond (cS tx n S) q then (if (g S).2.1 = true then lpG tx n cond g f (q + 1) (g S).1 (lnkP (g S).2 l (g S).1) else (q, (g S).2)) else (q, S)) (if cond (cS tx n S) q then (if (h S).2.1 = true then lpG tx n cond h f (q + 1) (h S).1 (lnkP (h S).2 l (h S).1) else (q, (h S).2)) else (q, S))
    by_cases c : cond (cS tx n S) q
    · rw [if_pos c, if_pos c]
      rcases hg S with e | e
      · rw [e]
        by_cases w : (h S).2.1 = true
        · rw [if_pos w, if_pos w]
          exact lp_Lo hg hc f (q + 1) _ _
        · rw [if_neg w, if_neg w]; exact Or.inl rfl
      · have w : ¬ (h S).2.1 = true := by rw [e.1]; exact Bool.false_ne_true
        rw [if_neg w]
        by_cases w2 : (g S).2.1 = true
        · rw [if_pos w2]
          have e2 := e.2.2.resolve_left (by rw [w2]; decide)
          have e3 : cS tx n (lnkP (g S).2 l (g S).1) = cS tx n (g S).2 := cS_of rfl rfl
          rw [lp_stop (by rw [e3]; rcases e2.2 with e4 | e4 <;> rw [e4]; exact (hc e2.1 _).1; exact (hc e2.1 _).2)]
          exact Or.inr (e.of rfl rfl)
        · rw [if_neg w2]; exact Or.inr e
    · rw [if_neg c, if_neg c]; exact Or.inl rfl
theorem lst_Lo {tx : Nat → Int} {n : Nat} {b : Bool} {cond : Int → Nat → Prop} [∀ x q, Decidable (cond x q)] {g h : PS → Int × PS} (hg : ∀ S, Lq tx n b (g S) (h S)) (hc : b = true → ∀ q, ¬ cond 40 q ∧ ¬ cond 37 q) (hm : ∀ q, ¬ cond (-1) q) {R R' : Int × PS} (hR : Lq tx n b R R') : (R = R' ∧ Lq tx n b (lstP tx n cond g R) (lstP tx n cond h R')) ∨ (Lo tx n b (lstP tx n cond g R).2 (lstP tx n cond h R').2) := by
  rcases hR with rfl | e
  · exact Or.inl ⟨rfl, lp_Lo hg hc _ _ _ _⟩
  · refine Or.inr ?_
    unfold lstP
    rw [lp_stop (S := R'.2) (by rw [cS_dead e.1]; exact hm _), lp_stop (S := R.2) (by
      rcases e.2.2 with e2 | e2
      · rw [cS_dead e2]; exact hm _
      · rcases e2.2 with e4 | e4 <;> rw [e4]
        exact (hc e2.1 _).1
        exact (hc e2.1 _).2)]
    exact e
theorem end_Lo {tx : Nat → Int} {n : Nat} {b : Bool} {A B : Nat × PS} {so e e' : Int} (h : (e = e' ∧ Lq tx n b A B) ∨ Lo tx n b A.2 B.2) : Lq tx n b (endP A so e) (endP B so e') := by
  have key : Lo tx n b A.2 B.2 → Lq tx n b (endP A so e) (endP B so e') := by
    intro h
    refine Or.inr ?_
    rw [end_dead h.1]
    unfold endP
    by_cases c : A.2.1 = true ∧ 1 < A.1
    · rw [if_pos c]; exact h.of rfl rfl
    · rw [if_neg c]; exact h
  rcases h with ⟨rfl, h | h⟩ | h
  · rw [h]; exact Or.inl rfl
  · exact key h
  · exact key h
theorem alt_Lo {tx : Nat → Int} {n : Nat} {b : Bool} {s s' : PS → Int × PS} (h : ∀ S, Lq tx n b (s S) (s' S)) (S : PS) : Lq tx n b (altP tx n s S) (altP tx n s' S) := by
  unfold altP
  refine end_Lo ?_
  rcases lst_Lo (cond := cAlt) (fun S => h (advP S)) (fun _ q => by unfold cAlt; omega) (fun q => by unfold cAlt; omega) (h S) with h1 | h1
  · exact Or.inl ⟨by rw [h1.1], h1.2⟩
  · exact Or.inr h1
theorem lpG_cc {tx : Nat → Int} {n : Nat} {c1 c2 : Int → Nat → Prop} [∀ x q, Decidable (c1 x q)] [∀ x q, Decidable (c2 x q)] (hc : ∀ x q, c1 x q ↔ c2 x q) {g : PS → Int × PS} : ∀ (f q : Nat) (l : Int) (S : PS), lpG tx n c1 g f q l S = lpG tx n c2 g f q l S
  | 0, _, _, _ => rfl
  | f + 1, q, l, S => by
    show (if c1 (cS tx n S) q then (if (g S).2.1 = true then lpG tx n c1 g f (q + 1) (g S).1 (lnkP (g S).2 l (g S).1) else (q, (g S).2)) else (q, S)) = (if c2 (cS tx n S) q then (if (g S).2.1 = true then lpG tx n c2 g f (q + 1) (g S).1 (lnkP (g S).2 l (g S).1) else (q, (g S).2)) else (q, S))
    by_cases c : c1 (cS tx n S) q
    · rw [if_pos c, if_pos ((hc _ _).mp c), lpG_cc hc]
    · rw [if_neg c, if_neg (fun h => c ((hc _ _).mpr h))]
theorem serT_Lo {tx : Nat → Int} {n : Nat} {g h : PS → Int × PS} (hg : ∀ S, Lq tx n false (g S) (h S)) (S : PS) : Lq tx n false (serPD tx n true g S) (serP tx n h S) := by
  unfold serPD serP
  have e : lstP tx n (cSerD true) g (g S) = lstP tx n cSer g (g S) := by
    unfold lstP
    exact lpG_cc (fun x q => by show ((65 ≤ x ∧ x ≤ 90) ∨ x = 94 ∨ x = 36 ∨ (true = true ∧ (x = 40 ∨ x = 37))) ↔ ((65 ≤ x ∧ x ≤ 90) ∨ x = 94 ∨ x = 36 ∨ x = 40 ∨ x = 37); simp) _ _ _ _
  rw [e]
  refine end_Lo ?_
  rcases lst_Lo (cond := cSer) hg (fun h => by cases h) (fun q => by unfold cSer isAt1; omega) (hg S) with h1 | h1
  · exact Or.inl ⟨by rw [h1.1], h1.2⟩
  · exact Or.inr h1
theorem lp0_Lo {tx : Nat → Int} {n : Nat} {g : PS → Int × PS} (hg : ∀ S, cS tx n S = 40 ∨ cS tx n S = 37 → (g S).2 = badP S) : ∀ (f q : Nat) (l : Int) (S : PS), Lq tx n true (lpG tx n (cSerD false) g f q l S) (lpG tx n cSer g f q l S)
  | 0, q, l, S => Or.inl rfl
  | f + 1, q, l, S => by
    show Lq tx n true (if cSerD false (cS tx n S) q then (if (g S).2.1 = true then lpG tx n (cSerD false) g f (q + 1) (g S).1 (lnkP (g S).2 l (g S).1) else (q, (g S).2)) else (q, S)) (if cSer (cS tx n S) q then (if (g S).2.1 = true then lpG tx n cSer g f (q + 1) (g S).1 (lnkP (g S).2 l (g S).1) else (q, (g S).2)) else (q, S))
    by_cases c : cSerD false (cS tx n S) q
    · have c2 : cSer (cS tx n S) q := by unfold cSer isAt1; unfold cSerD at c; omega
      rw [if_pos c, if_pos c2]
      by_cases w : (g S).2.1 = true
      · rw [if_pos w, if_pos w]; exact lp0_Lo hg f (q + 1) _ _
      · rw [if_neg w, if_neg w]; exact Or.inl rfl
    · rw [if_neg c]
      by_cases c2 : cSer (cS tx n S) q
      · have c3 : cS tx n S = 40 ∨ cS tx n S = 37 := by
          unfold cSer isAt1 at c2
          unfold cSerD at c
          omega
        have e := hg S c3
        have w : ¬ (g S).2.1 = true := by rw [e]; exact Bool.false_ne_true
        rw [if_pos c2, if_neg w]
        refine Or.inr ⟨by show (g S).2.1 = false; rw [e]; rfl, by show S.2.1 = (g S).2.2.1; rw [e]; rfl, Or.inr ⟨rfl, c3⟩⟩
      · rw [if_neg c2]; exact Or.inl rfl
theorem ser0_Lo {tx : Nat → Int} {n : Nat} {g : PS → Int × PS} (hg : ∀ S, cS tx n S = 40 ∨ cS tx n S = 37 → (g S).2 = badP S) (S : PS) : Lq tx n true (serPD tx n false g S) (serP tx n g S) := by
  unfold serPD serP lstP
  exact end_Lo (Or.inl ⟨rfl, lp0_Lo hg _ _ _ _⟩)
theorem rep_Lo {tx : Nat → Int} {n : Nat} {A B : Int × PS} (h : Lq tx n false A B) : Lq tx n false (repP tx n A) (repP tx n B) := by
  rcases h with rfl | h
  · exact Or.inl rfl
  · have h2 := h.2.2.resolve_right (fun e => by cases e.1)
    rw [rep_dead h.1, rep_dead h2]
    exact Or.inr h
theorem take_Lo {tx : Nat → Int} {n : Nat} {x y : PS} (h : Lo tx n true x y) : Lo tx n false (takeP tx n x 41) (takeP tx n y 41) := by
  rw [take_dead (by decide) h.1]
  refine ⟨h.1, ?_, Or.inl ?_⟩
  · rcases h.2.2 with e | e
    · rw [take_dead (by decide) e]; exact h.2.1
    · unfold takeP; rw [if_neg (by omega)]; exact h.2.1
  · rcases h.2.2 with e | e
    · rw [take_dead (by decide) e]; exact e
    · unfold takeP; rw [if_neg (by omega)]; rfl
theorem any_Lo {tx : Nat → Int} {n : Nat} {s s' : PS → Int × PS} (h : ∀ S, Lq tx n true (s S) (s' S)) (S : PS) : Lq tx n false (anyP tx n s S) (anyP tx n s' S) := by
  have key : ∀ L L' : Nat × PS, Lo tx n true L.2 L'.2 → Lo tx n false (anyE tx n L) (anyE tx n L') := by
    intro L L' e
    unfold anyE
    have e1 : (if L'.1 < 2 then badP L'.2 else L'.2) = L'.2 := by
      by_cases c : L'.1 < 2
      · rw [if_pos c, bad_dead e.1]
      · rw [if_neg c]
    rw [e1]
    by_cases c : L.1 < 2
    · rw [if_pos c]
      exact take_Lo (x := badP L.2) ⟨e.1, e.2.1, Or.inl rfl⟩
    · rw [if_neg c]; exact take_Lo e
  have fin : Lo tx n false (anyE tx n (anyL tx n s S)) (anyE tx n (anyL tx n s' S)) → Lq tx n false (anyP tx n s S) (anyP tx n s' S) := by
    intro e
    refine Or.inr ?_
    have w1 : ¬ (anyE tx n (anyL tx n s S)).1 = true := by
      rw [e.2.2.resolve_right (fun e => by cases e.1)]; exact Bool.false_ne_true
    have w2 : ¬ (anyE tx n (anyL tx n s' S)).1 = true := by rw [e.1]; exact Bool.false_ne_true
    unfold anyP
    rw [if_neg w1, if_neg w2]
    exact e
  rcases lst_Lo (cond := cAny) (fun S => h (advP S)) (fun _ q => by unfold cAny; omega) (fun q => by unfold cAny; omega) (h (takeP tx n (advP S) 40)) with ⟨h1, h2 | h2⟩ | h1
  · refine Or.inl ?_
    have h3 : anyL tx n s S = anyL tx n s' S := h2
    unfold anyP
    rw [h3, h1]
  · exact fin (key _ _ h2)
  · exact fin (key _ _ h1)
theorem atom_Lo {tx : Nat → Int} {n : Nat} {s s' : PS → Int × PS} (h : ∀ S, Lq tx n true (s S) (s' S)) (S : PS) : Lq tx n false (atomP tx n true s S) (atomP tx n true s' S) := by
  unfold atomP
  by_cases h1 : 65 ≤ cS tx n S ∧ cS tx n S ≤ 90
  · rw [if_pos h1, if_pos h1]; exact Or.inl rfl
  · rw [if_neg h1, if_neg h1]
    by_cases h2 : cS tx n S = 94
    · rw [if_pos h2, if_pos h2]; exact Or.inl rfl
    · rw [if_neg h2, if_neg h2]
      by_cases h3 : cS tx n S = 36
      · rw [if_pos h3, if_pos h3]; exact Or.inl rfl
      · rw [if_neg h3, if_neg h3]
        by_cases h4 : cS tx n S = 40 ∧ true = true
        · rw [if_pos h4, if_pos h4]
          rcases h (advP S) with e | e
          · rw [e]; exact Or.inl rfl
          · exact Or.inr (take_Lo e)
        · rw [if_neg h4, if_neg h4]
          by_cases h5 : cS tx n S = 37 ∧ true = true
          · rw [if_pos h5, if_pos h5]; exact any_Lo h S
          · rw [if_neg h5, if_neg h5]; exact Or.inl rfl
theorem rep0_bad {tx : Nat → Int} {n : Nat} {sub : PS → Int × PS} (S : PS) (h : cS tx n S = 40 ∨ cS tx n S = 37) : (repP tx n (atomP tx n false sub S)).2 = badP S := by
  have e : atomP tx n false sub S = (-5, badP S) := by
    unfold atomP
    rw [if_neg (by omega), if_neg (by omega), if_neg (by omega), if_neg (by rintro ⟨_, h⟩; cases h), if_neg (by rintro ⟨_, h⟩; cases h)]
  rw [e, rep_dead rfl]
theorem altC_Lo (tx : Nat → Int) (n : Nat) : ∀ k S, Lq tx n (decide (k = 0)) (altC tx n k S) (altL tx n k S)
  | 0, S => alt_Lo (b := true) (fun S => ser0_Lo (fun S h => rep0_bad S h) S) S
  | k + 1, S => by
    show Lq tx n false _ _
    exact alt_Lo (fun S => serT_Lo (fun S => rep_Lo (atom_Lo (fun S => (altC_Lo tx n k S).up) S)) S) S
