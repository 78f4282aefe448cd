/-! the reference reads a whole text: the tape, the pattern that holds -/
def S0 : PS := (true, 0, 0, fun _ _ => 0)
abbrev txR (I : Nat → Nat → Int) (a q : Nat) (tx : Nat → Int) (n : Nat) : Prop := ∀ k, k < n → I a (q + k) = tx k ∧ 1 ≤ tx k ∧ tx k ≤ 127
def RFt (I I' : Nat → Nat → Int) : Prop := ∀ o k, o ≠ 34 → ¬ (o = 30 ∧ (k = 4 ∨ k = 6 ∨ k = 7 ∨ k = 8)) → I' o k = I o k
def RFq (I I' : Nat → Nat → Int) : Prop := ∀ o k, ¬ (34 ≤ o ∧ o ≤ 43) → ¬ (o = 30 ∧ (k = 4 ∨ k = 6 ∨ k = 7 ∨ k = 8 ∨ k = 9 ∨ k = 19 ∨ k = 20)) → I' o k = I o k
theorem RFr.q {I J : Nat → Nat → Int} (h : RFr I J) : RFq I J := fun o k a b => h o k (by omega) (by omega)
theorem RFt.q {I J : Nat → Nat → Int} (h : RFt I J) : RFq I J := fun o k a b => h o k (by omega) (by omega)
theorem RFq.tr {I J K : Nat → Nat → Int} (h : RFq I J) (h2 : RFq J K) : RFq I K := fun o k a b => (h2 o k a b).trans (h o k a b)
theorem RP.S0 {I : Nat → Nat → Int} {tx : Nat → Int} {n : Nat} (h6 : I 30 6 = (n : Int)) (h7 : I 30 7 = 0) (h8 : I 30 8 = 1) (h9 : I 30 9 = 0) (hn : n ≤ 120) (ht : txR I 34 0 tx n) : RP I tx n S0 :=
  ⟨h6, h7, h8, h9, Nat.zero_le _, fun _ => Nat.zero_le _, hn, fun k hk => by have := ht k hk; rw [Nat.zero_add] at this; exact this, fun p hp => absurd hp (Nat.not_lt_zero p)⟩

