/-! the reference reads: signs, numbers -/
def RTab (I : Nat → Nat → Int) (F : Tb) (c : Nat) : Prop := ∀ p, p < c → I 35 p = F p 0 ∧ I 36 p = F p 1 ∧ I 40 p = F p 2 ∧ I 37 p = F p 3 ∧ I 38 p = F p 4 ∧ I 39 p = F p 5 ∧ I 43 p = F p 6 ∧ I 41 p = F p 7 ∧ I 42 p = F p 8
def RP (I : Nat → Nat → Int) (tx : Nat → Int) (n : Nat) (S : PS) : Prop := I 30 6 = (n : Int) ∧ I 30 7 = (S.2.1 : Int) ∧ I 30 8 = (if S.1 = true then 1 else 0) ∧ I 30 9 = (S.2.2.1 : Int) ∧ S.2.1 ≤ n ∧ (S.1 = true → S.2.2.1 ≤ 2 * S.2.1) ∧ n ≤ 120 ∧ (∀ k, k < n → I 34 k = tx k ∧ 1 ≤ tx k ∧ tx k ≤ 127) ∧ RTab I S.2.2.2 S.2.2.1
def RFr (I I' : Nat → Nat → Int) : Prop := ∀ o k, ¬ (35 ≤ o ∧ o ≤ 43) → ¬ (o = 30 ∧ (k = 7 ∨ k = 8 ∨ k = 9 ∨ k = 19 ∨ k = 20)) → I' o k = I o k
theorem RFr.rf {I : Nat → Nat → Int} : RFr I I := fun _ _ _ _ => rfl
theorem RFr.tr {I J K : Nat → Nat → Int} (h : RFr I J) (h2 : RFr J K) : RFr I K := fun o k a b => (h2 o k a b).trans (h o k a b)
theorem RFr.set {I J : Nat → Nat → Int} {o k : Nat} {v : Int} (h : RFr I J) (hk : (35 ≤ o ∧ o ≤ 43) ∨ (o = 30 ∧ (k = 7 ∨ k = 8 ∨ k = 9 ∨ k = 19 ∨ k = 20))) : RFr I (up2 J o k v) := fun o' k' a b => by
  have e : up2 J o k v o' k' = J o' k' := if_neg fun e => by
    obtain ⟨rfl, rfl⟩ := e
    exact hk.elim a b
  rw [e]
  exact h o' k' a b
def RFs (I I' : Nat → Nat → Int) : Prop := ∀ o k, ¬ (o = 30 ∧ (k = 7 ∨ k = 8)) → I' o k = I o k
theorem RFs.r {I I' : Nat → Nat → Int} (h : RFs I I') : RFr I I' := fun o k _ b => h o k (by omega)
theorem RFs.rf {I : Nat → Nat → Int} : RFs I I := fun _ _ _ => rfl
theorem RFs.set {I J : Nat → Nat → Int} {k : Nat} {v : Int} (h : RFs I J) (hk : k = 7 ∨ k = 8) : RFs I (up2 J 30 k v) := fun o' k' a => by
  have e : up2 J 30 k v o' k' = J o' k' := if_neg fun e => by
    obtain ⟨rfl, rfl⟩ := e
    exact a ⟨rfl, hk⟩
  rw [e]
  exact h o' k' a
theorem cS_eq {tx : Nat → Int} {n : Nat} {S : PS} : cS tx n S = if S.1 = true then chT tx n S.2.1 else -1 := rfl
theorem badAt_eq {S : PS} {q : Nat} : badAt S q = if S.1 = true then (false, q, S.2.2) else S := rfl
theorem RP.cS {I : Nat → Nat → Int} {tx : Nat → Int} {n : Nat} {S : PS} (h : RP I tx n S) : cS tx n S = (if I 30 8 = 1 ∧ I 30 7 < I 30 6 then I 34 (I 30 7).toNat else -1) ∧ 0 ≤ I 30 7 ∧ I 30 7 ≤ I 30 6 ∧ I 30 6 ≤ 120 ∧ (I 30 8 = 0 ∨ I 30 8 = 1) ∧ (I 30 7 < I 30 6 → 1 ≤ I 34 (I 30 7).toNat ∧ I 34 (I 30 7).toNat ≤ 127) ∧ (S.1 = true ↔ I 30 8 = 1) ∧ I 30 7 = (S.2.1 : Int) := by
  obtain ⟨h1, h2, h3, h4, h5, h6, h7, h8, h9⟩ := h
  have e : (I 30 7).toNat = S.2.1 := by omega
  refine ⟨?_, by omega, by omega, by omega, ?_, fun hl => ?_, ?_, h2⟩
  · rw [cS_eq]
    unfold chT
    rw [e]
    by_cases a : S.1 = true
    · rw [if_pos a] at h3
      rw [if_pos a]
      by_cases b : S.2.1 < n
      · rw [if_pos b, if_pos ⟨h3, by omega⟩]; exact (h8 _ b).1.symm
      · rw [if_neg b, if_neg (by omega)]
    · rw [if_neg a] at h3
      rw [if_neg a, if_neg (by omega)]
  · by_cases a : S.1 = true
    · rw [if_pos a] at h3; exact Or.inr h3
    · rw [if_neg a] at h3; exact Or.inl h3
  · rw [e, (h8 _ (by omega)).1]; exact (h8 _ (by omega)).2
  · by_cases a : S.1 = true
    · rw [if_pos a] at h3; exact ⟨fun _ => h3, fun _ => a⟩
    · rw [if_neg a] at h3; exact ⟨fun e => absurd e a, fun e => by omega⟩
theorem RP.adv {I : Nat → Nat → Int} {tx : Nat → Int} {n : Nat} {S : PS} {v : Int} (h : RP I tx n S) (hv : v = I 30 7 + 1) (hlt : I 30 7 < I 30 6) : RP (up2 I 30 7 v) tx n (advP S) := by
  obtain ⟨h1, h2, h3, h4, h5, h6, h7, h8, h9⟩ := h
  refine ⟨h1, ?_, h3, h4, ?_, fun e => ?_, h7, h8, h9⟩
  · show v = ((S.2.1 + 1 : Nat) : Int); omega
  · show S.2.1 + 1 ≤ n; omega
  · have := h6 e
    show S.2.2.1 ≤ 2 * (S.2.1 + 1); omega
theorem RP.bad {I : Nat → Nat → Int} {tx : Nat → Int} {n : Nat} {S : PS} (h : RP I tx n S) : RP (up2 I 30 8 0) tx n (badP S) := by
  obtain ⟨h1, h2, h3, h4, h5, h6, h7, h8, h9⟩ := h
  exact ⟨h1, h2, rfl, h4, h5, fun e => (by cases e), h7, h8, h9⟩
theorem RP.oth {I : Nat → Nat → Int} {tx : Nat → Int} {n : Nat} {S : PS} {k : Nat} {v : Int} (h : RP I tx n S) (hk : k = 19 ∨ k = 20) : RP (up2 I 30 k v) tx n S := by
  obtain ⟨h1, h2, h3, h4, h5, h6, h7, h8, h9⟩ := h
  rcases hk with rfl | rfl <;> exact ⟨h1, h2, h3, h4, h5, h6, h7, h8, h9⟩

theorem RP.bad' {I : Nat → Nat → Int} {tx : Nat → Int} {n : Nat} {S : PS} (h : RP I tx n S) (h0 : I 30 8 = 0) : RP I tx n (badP S) := by
  have e : S.1 = false := by
    have := (RP.cS h).2.2.2.2.2.2.1
    cases hS : S.1 with
    | false => rfl
    | true => have := this.mp hS; omega
  rw [bad_dead e]; exact h
theorem RP.badAt {I : Nat → Nat → Int} {tx : Nat → Int} {n : Nat} {S : PS} {q : Nat} (h : RP I tx n S) (hq : q ≤ n) : RP (up2 (up2 I 30 7 (if I 30 8 = 1 then (q : Int) else I 30 7)) 30 8 0) tx n (badAt S q) := by
  have hw := (RP.cS h).2.2.2.2.2.2.1
  obtain ⟨h1, h2, h3, h4, h5, h6, h7, h8, h9⟩ := h
  rw [badAt_eq]
  by_cases a : S.1 = true
  · rw [if_pos a, if_pos (hw.mp a)]
    exact ⟨h1, rfl, rfl, h4, hq, fun e => (by cases e), h7, h8, h9⟩
  · rw [if_neg a, if_neg (fun e => a (hw.mpr e))]
    exact ⟨h1, h2, by rw [if_neg a]; rfl, h4, h5, h6, h7, h8, h9⟩
theorem num0 {tx : Nat → Int} {n : Nat} {S : PS} (h : ¬ isDg (cS tx n S)) : numP tx n S = (0, badP S) := if_neg h
theorem num1 {tx : Nat → Int} {n : Nat} {S : PS} (h : isDg (cS tx n S)) (h2 : ¬ isDg (cS tx n (advP S))) : numP tx n S = (cS tx n S - 48, advP S) := (if_pos h).trans (if_neg h2)
theorem num2 {tx : Nat → Int} {n : Nat} {S : PS} (h : isDg (cS tx n S)) (h2 : isDg (cS tx n (advP S))) : numP tx n S = (10 * (cS tx n S - 48) + (cS tx n (advP S) - 48), advP (advP S)) := (if_pos h).trans (if_pos h2)

