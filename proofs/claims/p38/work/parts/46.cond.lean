/-! CONDITIONS: one function reads them; what it gives: a code (a row of signs), its value, the state (well, the place). A ; ends a text as its end does. -/
abbrev CS : Type := Bool × Nat
abbrev CEnv : Type := Int × Int × (Nat → Int) × Int × (Nat → Int)
abbrev CO : Type := Int × (CEnv → Option Int) × CS
abbrev CR : Type := List Int × (CEnv → Bool) × CS
def ccS (tx : Nat → Int) (n : Nat) (S : CS) : Int := if S.1 = true ∧ S.2 < n ∧ tx S.2 ≠ 59 then tx S.2 else -1
def cAdv (S : CS) : CS := (S.1, S.2 + 1)
def cBad (S : CS) : CS := (false, S.2)
def cTake (tx : Nat → Int) (n : Nat) (S : CS) (c : Int) : CS := if ccS tx n S = c then cAdv S else cBad S
def cellE (e : CEnv) (r c : Int) : Option Int := if 0 ≤ r ∧ r < e.2.2.2.1 ∧ e.2.2.2.2 (2 * r + c).toNat ≠ 1000 then some (e.2.2.2.2 (2 * r + c).toNat) else none
def frE (le : Nat → Int) (w : Int) : Nat → Int → Int
  | 0, _ => -1
  | d + 1, r => if le r.toNat = w then r else frE le w d (r + 1)
def lsE (le : Nat → Int) (w : Int) : Nat → Int → Int
  | 0, _ => -1
  | d + 1, r => if le (r + d).toNat = w then r + d else lsE le w d r
def cnE (le : Nat → Int) (w : Int) : Nat → Int → Int
  | 0, _ => 0
  | d + 1, r => cnE le w d r + (if le (r + d).toNat = w then 1 else 0)
def smE (le : Nat → Int) (ce : Nat → Int) (w c : Int) : Nat → Int → Int
  | 0, _ => 0
  | d + 1, r => smE le ce w c d r + (if le (r + d).toNat = w ∧ ce (2 * (r + d) + c).toNat ≠ 1000 then ce (2 * (r + d) + c).toNat else 0)
def spE (e : CEnv) : Nat := (e.2.1 - e.1 + 1).toNat
def valC (e : CEnv) (k d : Int) : Option Int :=
  if k = 48 then some (d - 1000)
  else if k = 120 then cellE e e.2.1 d
  else if k = 112 then cellE e (e.2.1 - 1) d
  else if k = 110 then cellE e (e.2.1 + 1) d
  else if k = 102 then cellE e (frE e.2.2.1 (d / 2) (spE e) e.1) (d % 2)
  else if k = 108 then cellE e (lsE e.2.2.1 (d / 2) (spE e) e.1) (d % 2)
  else if k = 115 then some (smE e.2.2.1 e.2.2.2.2 (d / 2) (d % 2) (spE e) e.1)
  else some (cnE e.2.2.1 (d / 2) (spE e) e.1)
abbrev cDg (x : Int) : Prop := 48 ≤ x ∧ x ≤ 57
def num3 (tx : Nat → Int) (n : Nat) (S : CS) : Int × CS :=
  if cDg (ccS tx n S) then
    (if cDg (ccS tx n (cAdv S)) then
      (if cDg (ccS tx n (cAdv (cAdv S))) then (100 * (ccS tx n S - 48) + 10 * (ccS tx n (cAdv S) - 48) + (ccS tx n (cAdv (cAdv S)) - 48), cAdv (cAdv (cAdv S)))
      else (10 * (ccS tx n S - 48) + (ccS tx n (cAdv S) - 48), cAdv (cAdv S)))
    else (ccS tx n S - 48, cAdv S))
  else (0, cBad S)
def cCol (tx : Nat → Int) (n : Nat) (S : CS) : Int × CS := if ccS tx n S = 121 then (1, cAdv S) else (0, cTake tx n S 120)
def opK (tx : Nat → Int) (n : Nat) (S : CS) : Int × Int × CS :=
  if ccS tx n S = 120 ∨ ccS tx n S = 121 then (120, cCol tx n S)
  else if ccS tx n S = 112 ∨ ccS tx n S = 110 then (ccS tx n S, cCol tx n (cAdv S))
  else if ccS tx n S = 102 ∨ ccS tx n S = 108 ∨ ccS tx n S = 115 ∨ ccS tx n S = 99 then
    (if 65 ≤ ccS tx n (cAdv S) ∧ ccS tx n (cAdv S) ≤ 90 then
      (if ccS tx n S = 99 then (99, 2 * (ccS tx n (cAdv S) - 65), cAdv (cAdv S))
      else (ccS tx n S, 2 * (ccS tx n (cAdv S) - 65) + (cCol tx n (cAdv (cAdv S))).1, (cCol tx n (cAdv (cAdv S))).2))
    else (0, 0, cBad (cAdv S)))
  else if ccS tx n S = 45 then (48, 1000 - (num3 tx n (cAdv S)).1, (num3 tx n (cAdv S)).2)
  else (48, (num3 tx n S).1 + 1000, (num3 tx n S).2)
def opS (tx : Nat → Int) (n : Nat) (S : CS) : CO := (opc (opK tx n S).1 (opK tx n S).2.1, fun e => valC e (opK tx n S).1 (opK tx n S).2.1, (opK tx n S).2.2)
def cmpB (s : Int) : Option Int → Option Int → Bool
  | some x, some y => if s = 60 then decide (x < y) else if s = 61 then decide (x = y) else decide (y < x)
  | _, _ => false
def sgn (tx : Nat → Int) (n : Nat) (S : CS) : Int := if ccS tx n S = 60 then 60 else if ccS tx n S = 62 then 62 else 61
def tstS (tx : Nat → Int) (n : Nat) (S : CS) : CR :=
  ([sgn tx n (opS tx n S).2.2, (opS tx n S).1, (opS tx n (cTake tx n (opS tx n S).2.2 (sgn tx n (opS tx n S).2.2))).1],
   fun e => cmpB (sgn tx n (opS tx n S).2.2) ((opS tx n S).2.1 e) ((opS tx n (cTake tx n (opS tx n S).2.2 (sgn tx n (opS tx n S).2.2))).2.1 e),
   (opS tx n (cTake tx n (opS tx n S).2.2 (sgn tx n (opS tx n S).2.2))).2.2)
def joinC (ch : Int) (A B : CR) : CR := (A.1 ++ B.1 ++ [ch], fun e => if ch = 38 then A.2.1 e && B.2.1 e else A.2.1 e || B.2.1 e, B.2.2)
def lpC (tx : Nat → Int) (n : Nat) (ch : Int) (go : CS → CR) : Nat → CR → CR
  | 0, R => R
  | f + 1, R => if ccS tx n R.2.2 = ch then lpC tx n ch go f (joinC ch R (go (cAdv R.2.2))) else R
def bthC (tx : Nat → Int) (n : Nat) (fac : CS → CR) (S : CS) : CR := lpC tx n 38 fac (n + 1) (fac S)
def eitF (tx : Nat → Int) (n : Nat) (fac : CS → CR) (S : CS) : CR := lpC tx n 124 (bthC tx n fac) (n + 1) (bthC tx n fac S)
def facC (tx : Nat → Int) (n : Nat) : Nat → CS → CR
  | 0 => tstS tx n
  | k + 1 => fun S =>
    if ccS tx n S = 33 then ((facC tx n k (cAdv S)).1 ++ [33], fun e => !((facC tx n k (cAdv S)).2.1 e), (facC tx n k (cAdv S)).2.2)
    else if ccS tx n S = 40 then ((eitF tx n (facC tx n k) (cAdv S)).1, (eitF tx n (facC tx n k) (cAdv S)).2.1, cTake tx n (eitF tx n (facC tx n k) (cAdv S)).2.2 41)
    else tstS tx n S
def bthL (tx : Nat → Int) (n k : Nat) : CS → CR := bthC tx n (facC tx n k)
def eitL (tx : Nat → Int) (n k : Nat) : CS → CR := eitF tx n (facC tx n k)
/-! places -/
theorem cc_lt {tx : Nat → Int} {n : Nat} {S : CS} (h : ccS tx n S ≠ -1) : S.1 = true ∧ S.2 < n := by
  unfold ccS at h
  by_cases c : S.1 = true ∧ S.2 < n ∧ tx S.2 ≠ 59
  · exact ⟨c.1, c.2.1⟩
  · rw [if_neg c] at h; exact absurd rfl h
theorem cc_dead {tx : Nat → Int} {n : Nat} {S : CS} (h : S.1 = false) : ccS tx n S = -1 := by
  unfold ccS; rw [if_neg (by rw [h]; simp)]
theorem cbad_dead {S : CS} (h : S.1 = false) : cBad S = S := by
  obtain ⟨a, b⟩ := S
  simp only at h
  subst h
  rfl
theorem ctake_dead {tx : Nat → Int} {n : Nat} {S : CS} {c : Int} (hc : c ≠ -1) (h : S.1 = false) : cTake tx n S c = S := by
  unfold cTake
  rw [cc_dead h, if_neg (Ne.symm hc), cbad_dead h]
def CNi (n : Nat) (a : Nat) (S T : CS) : Prop := (S.2 ≤ n → T.2 ≤ n) ∧ (T.1 = true → S.1 = true ∧ S.2 + a ≤ T.2) ∧ (S.1 = false → T = S)
theorem CNi.adv {tx : Nat → Int} {n : Nat} {S : CS} (h : ccS tx n S ≠ -1) : CNi n 1 S (cAdv S) := by
  have := cc_lt h
  exact ⟨fun _ => this.2, fun _ => ⟨this.1, Nat.le_refl _⟩, fun e => by rw [this.1] at e; cases e⟩
theorem CNi.bad {n a : Nat} {S : CS} : CNi n a S (cBad S) := ⟨fun h => h, fun h => (by cases h), fun h => cbad_dead h⟩
theorem CNi.tr {n a b : Nat} {S T U : CS} (h : CNi n a S T) (h2 : CNi n b T U) : CNi n (a + b) S U := by
  refine ⟨fun e => h2.1 (h.1 e), fun e => ?_, fun e => ?_⟩
  · have x := h2.2.1 e
    have y := h.2.1 x.1
    exact ⟨y.1, by omega⟩
  · have x := h.2.2 e
    rw [h2.2.2 (by rw [x]; exact e), x]
theorem CNi.le {n a b : Nat} {S T : CS} (h : CNi n a S T) (hb : b ≤ a) : CNi n b S T := ⟨h.1, fun e => ⟨(h.2.1 e).1, by have := (h.2.1 e).2; omega⟩, h.2.2⟩
theorem CNi.take {tx : Nat → Int} {n : Nat} {S : CS} {c : Int} (hc : c ≠ -1) : CNi n 1 S (cTake tx n S c) := by
  unfold cTake
  by_cases h : ccS tx n S = c
  · rw [if_pos h]; exact CNi.adv (by rw [h]; exact hc)
  · rw [if_neg h]; exact CNi.bad
theorem num3_ni (tx : Nat → Int) (n : Nat) (S : CS) : CNi n 1 S (num3 tx n S).2 ∧ 0 ≤ (num3 tx n S).1 ∧ (num3 tx n S).1 ≤ 999 := by
  unfold num3
  by_cases h : cDg (ccS tx n S)
  · rw [if_pos h]
    have a1 := CNi.adv (tx := tx) (n := n) (S := S) (by unfold cDg at h; omega)
    by_cases h2 : cDg (ccS tx n (cAdv S))
    · rw [if_pos h2]
      have a2 := CNi.adv (tx := tx) (n := n) (S := cAdv S) (by unfold cDg at h2; omega)
      by_cases h3 : cDg (ccS tx n (cAdv (cAdv S)))
      · rw [if_pos h3]
        have a3 := CNi.adv (tx := tx) (n := n) (S := cAdv (cAdv S)) (by unfold cDg at h3; omega)
        unfold cDg at h h2 h3
        exact ⟨((a1.tr a2).tr a3).le (by omega), by show 0 ≤ 100 * (ccS tx n S - 48) + 10 * (ccS tx n (cAdv S) - 48) + (ccS tx n (cAdv (cAdv S)) - 48); omega, by show 100 * (ccS tx n S - 48) + 10 * (ccS tx n (cAdv S) - 48) + (ccS tx n (cAdv (cAdv S)) - 48) ≤ 999; omega⟩
      · rw [if_neg h3]
        unfold cDg at h h2
        exact ⟨(a1.tr a2).le (by omega), by show 0 ≤ 10 * (ccS tx n S - 48) + (ccS tx n (cAdv S) - 48); omega, by show 10 * (ccS tx n S - 48) + (ccS tx n (cAdv S) - 48) ≤ 999; omega⟩
    · rw [if_neg h2]
      unfold cDg at h
      exact ⟨a1, by show 0 ≤ ccS tx n S - 48; omega, by show ccS tx n S - 48 ≤ 999; omega⟩
  · rw [if_neg h]
    exact ⟨CNi.bad, by show (0 : Int) ≤ 0; decide, by show (0 : Int) ≤ 999; decide⟩
theorem ccol_ni (tx : Nat → Int) (n : Nat) (S : CS) : CNi n 1 S (cCol tx n S).2 ∧ 0 ≤ (cCol tx n S).1 ∧ (cCol tx n S).1 ≤ 1 := by
  unfold cCol
  by_cases h : ccS tx n S = 121
  · rw [if_pos h]; exact ⟨CNi.adv (tx := tx) (by omega), by show (0 : Int) ≤ 1; decide, by show (1 : Int) ≤ 1; decide⟩
  · rw [if_neg h]; exact ⟨CNi.take (by decide), by show (0 : Int) ≤ 0; decide, by show (0 : Int) ≤ 1; decide⟩
def KD (k d : Int) : Prop := (k = 48 ∧ 0 ≤ d ∧ d ≤ 1999) ∨ ((k = 120 ∨ k = 112 ∨ k = 110) ∧ 0 ≤ d ∧ d ≤ 1) ∨ ((k = 102 ∨ k = 108 ∨ k = 115 ∨ k = 99) ∧ 0 ≤ d ∧ d ≤ 51)
theorem opK_ni (tx : Nat → Int) (n : Nat) (S : CS) : CNi n 1 S (opK tx n S).2.2 ∧ ((opK tx n S).2.2.1 = true → KD (opK tx n S).1 (opK tx n S).2.1) := by
  unfold opK
  by_cases h1 : ccS tx n S = 120 ∨ ccS tx n S = 121
  · rw [if_pos h1]
    have c := ccol_ni tx n S
    exact ⟨c.1, fun _ => Or.inr (Or.inl ⟨Or.inl rfl, c.2.1, c.2.2⟩)⟩
  · rw [if_neg h1]
    by_cases h2 : ccS tx n S = 112 ∨ ccS tx n S = 110
    · rw [if_pos h2]
      have c := ccol_ni tx n (cAdv S)
      exact ⟨((CNi.adv (tx := tx) (by omega)).tr c.1).le (by omega), fun _ => Or.inr (Or.inl ⟨Or.inr h2, c.2.1, c.2.2⟩)⟩
    · rw [if_neg h2]
      by_cases h3 : ccS tx n S = 102 ∨ ccS tx n S = 108 ∨ ccS tx n S = 115 ∨ ccS tx n S = 99
      · rw [if_pos h3]
        have a1 := CNi.adv (tx := tx) (n := n) (S := S) (by omega)
        by_cases h4 : 65 ≤ ccS tx n (cAdv S) ∧ ccS tx n (cAdv S) ≤ 90
        · rw [if_pos h4]
          have a2 := CNi.adv (tx := tx) (n := n) (S := cAdv S) (by omega)
          by_cases h5 : ccS tx n S = 99
          · rw [if_pos h5]
            exact ⟨(a1.tr a2).le (by omega), fun _ => Or.inr (Or.inr ⟨Or.inr (Or.inr (Or.inr rfl)), by show 0 ≤ 2 * (ccS tx n (cAdv S) - 65); omega, by show 2 * (ccS tx n (cAdv S) - 65) ≤ 51; omega⟩)⟩
          · rw [if_neg h5]
            have c := ccol_ni tx n (cAdv (cAdv S))
            exact ⟨((a1.tr a2).tr c.1).le (by omega), fun _ => Or.inr (Or.inr ⟨h3, by show 0 ≤ 2 * (ccS tx n (cAdv S) - 65) + (cCol tx n (cAdv (cAdv S))).1; omega, by show 2 * (ccS tx n (cAdv S) - 65) + (cCol tx n (cAdv (cAdv S))).1 ≤ 51; omega⟩)⟩
        · rw [if_neg h4]
          exact ⟨(a1.tr (b := 0) CNi.bad).le (by omega), fun h => by cases h⟩
      · rw [if_neg h3]
        by_cases h4 : ccS tx n S = 45
        · rw [if_pos h4]
          have c := num3_ni tx n (cAdv S)
          exact ⟨((CNi.adv (tx := tx) (by omega)).tr c.1).le (by omega), fun _ => Or.inl ⟨rfl, by show 0 ≤ 1000 - (num3 tx n (cAdv S)).1; omega, by show 1000 - (num3 tx n (cAdv S)).1 ≤ 1999; omega⟩⟩
        · rw [if_neg h4]
          have c := num3_ni tx n S
          exact ⟨c.1, fun _ => Or.inl ⟨rfl, by show 0 ≤ (num3 tx n S).1 + 1000; omega, by show (num3 tx n S).1 + 1000 ≤ 1999; omega⟩⟩
theorem opS_ni (tx : Nat → Int) (n : Nat) (S : CS) : CNi n 1 S (opS tx n S).2.2 := (opK_ni tx n S).1
theorem sgn_v (tx : Nat → Int) (n : Nat) (S : CS) : sgn tx n S = 60 ∨ sgn tx n S = 61 ∨ sgn tx n S = 62 := by
  unfold sgn; split
  · exact Or.inl rfl
  · split
    · exact Or.inr (Or.inr rfl)
    · exact Or.inr (Or.inl rfl)
theorem tst_ni (tx : Nat → Int) (n : Nat) (S : CS) : CNi n 3 S (tstS tx n S).2.2 :=
  ((opS_ni tx n S).tr (CNi.take (by rcases sgn_v tx n (opS tx n S).2.2 with h | h | h <;> rw [h] <;> decide))).tr (opS_ni tx n _)
def CLn (S : CS) (R : CR) : Prop := R.2.2.1 = true → R.1.length + S.2 ≤ R.2.2.2
theorem lpC_ni {tx : Nat → Int} {n : Nat} {ch : Int} {go : CS → CR} (hc : ch ≠ -1) (hg : ∀ S, CNi n 3 S (go S).2.2 ∧ CLn S (go S)) {S : CS} : ∀ (f : Nat) (R : CR), CNi n 3 S R.2.2 → CLn S R → CNi n 3 S (lpC tx n ch go f R).2.2 ∧ CLn S (lpC tx n ch go f R)
  | 0, R, h, h2 => ⟨h, h2⟩
  | f + 1, R, h, h2 => by
    show CNi n 3 S (if ccS tx n R.2.2 = ch then lpC tx n ch go f (joinC ch R (go (cAdv R.2.2))) else R).2.2 ∧ CLn S (if ccS tx n R.2.2 = ch then lpC tx n ch go f (joinC ch R (go (cAdv R.2.2))) else R)
    by_cases c : ccS tx n R.2.2 = ch
    · rw [if_pos c]
      have a1 := CNi.adv (tx := tx) (n := n) (S := R.2.2) (by rw [c]; exact hc)
      have a2 := hg (cAdv R.2.2)
      refine lpC_ni hc hg f _ (((h.tr a1).tr a2.1).le (by omega)) ?_
      intro e
      have b1 := a2.2 e
      have b2 := h2 (cc_lt (by rw [c]; exact hc)).1
      show (R.1 ++ (go (cAdv R.2.2)).1 ++ [ch]).length + S.2 ≤ (go (cAdv R.2.2)).2.2.2
      simp only [List.length_append, List.length_cons, List.length_nil]
      have b3 : (cAdv R.2.2).2 = R.2.2.2 + 1 := rfl
      omega
    · rw [if_neg c]; exact ⟨h, h2⟩
theorem bth_ni {tx : Nat → Int} {n : Nat} {fac : CS → CR} (hg : ∀ S, CNi n 3 S (fac S).2.2 ∧ CLn S (fac S)) (S : CS) : CNi n 3 S (bthC tx n fac S).2.2 ∧ CLn S (bthC tx n fac S) := lpC_ni (by decide) hg _ _ (hg S).1 (hg S).2
theorem eit_ni {tx : Nat → Int} {n : Nat} {fac : CS → CR} (hg : ∀ S, CNi n 3 S (fac S).2.2 ∧ CLn S (fac S)) (S : CS) : CNi n 3 S (eitF tx n fac S).2.2 ∧ CLn S (eitF tx n fac S) := lpC_ni (by decide) (bth_ni hg) _ _ (bth_ni hg S).1 (bth_ni hg S).2
theorem tst_ln (tx : Nat → Int) (n : Nat) (S : CS) : CLn S (tstS tx n S) := by
  intro h
  have := ((tst_ni tx n S).2.1 h).2
  show 3 + S.2 ≤ _
  omega
theorem fac_ni (tx : Nat → Int) (n : Nat) : ∀ k S, CNi n 3 S (facC tx n k S).2.2 ∧ CLn S (facC tx n k S)
  | 0, S => ⟨tst_ni tx n S, tst_ln tx n S⟩
  | k + 1, S => by
    unfold facC
    by_cases h1 : ccS tx n S = 33
    · simp only [if_pos h1]
      have a1 := CNi.adv (tx := tx) (n := n) (S := S) (by omega)
      have a2 := fac_ni tx n k (cAdv S)
      refine ⟨(a1.tr a2.1).le (by omega), fun e => ?_⟩
      have b := a2.2 e
      show ((facC tx n k (cAdv S)).1 ++ [33]).length + S.2 ≤ (facC tx n k (cAdv S)).2.2.2
      simp only [List.length_append, List.length_cons, List.length_nil]
      have b3 : (cAdv S).2 = S.2 + 1 := rfl
      omega
    · simp only [if_neg h1]
      by_cases h2 : ccS tx n S = 40
      · simp only [if_pos h2]
        have a1 := CNi.adv (tx := tx) (n := n) (S := S) (by omega)
        have a2 := eit_ni (tx := tx) (n := n) (fac_ni tx n k) (cAdv S)
        have a3 := CNi.take (tx := tx) (n := n) (S := (eitF tx n (facC tx n k) (cAdv S)).2.2) (c := 41) (by decide)
        refine ⟨((a1.tr a2.1).tr a3).le (by omega), fun e => ?_⟩
        have e2 := a3.2.1 e
        have b := a2.2 e2.1
        show (eitF tx n (facC tx n k) (cAdv S)).1.length + S.2 ≤ (cTake tx n (eitF tx n (facC tx n k) (cAdv S)).2.2 41).2
        have b3 : (cAdv S).2 = S.2 + 1 := rfl
        omega
      · simp only [if_neg h2]
        exact ⟨tst_ni tx n S, tst_ln tx n S⟩
theorem bthL_ni (tx : Nat → Int) (n k : Nat) (S : CS) : CNi n 3 S (bthL tx n k S).2.2 ∧ CLn S (bthL tx n k S) := bth_ni (fac_ni tx n k) S
theorem eitL_ni (tx : Nat → Int) (n k : Nat) (S : CS) : CNi n 3 S (eitL tx n k S).2.2 ∧ CLn S (eitL tx n k S) := eit_ni (fac_ni tx n k) S
