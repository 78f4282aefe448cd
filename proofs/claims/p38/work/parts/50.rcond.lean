/-! the reference reads conditions: tests, the levels -/
theorem tst_val {sg x y l1 l2 r : Int} {va vb : Option Int} (hx : x = va.getD 0) (hy : y = vb.getD 0) (h1 : l1 = (if va.isSome = true then 0 else 1)) (h2 : l2 = (if vb.isSome = true then l1 else 1)) (hr : (r = 1 ∧ l2 = 0 ∧ (if sg = 60 then x < y else if sg = 61 then x = y else y < x)) ∨ (r = 0 ∧ ¬ (l2 = 0 ∧ (if sg = 60 then x < y else if sg = 61 then x = y else y < x)))) : r = bI (cmpB sg va vb) := by
  have key : ∀ p : Prop, ∀ _ : Decidable p, (r = 1 ∧ l2 = 0 ∧ p) ∨ (r = 0 ∧ ¬ (l2 = 0 ∧ p)) → l2 = 0 → r = bI (decide p) := by
    intro p d h h0
    by_cases c : p
    · rcases h with h | h
      · rw [h.1]; simp [bI, c]
      · exact absurd ⟨h0, c⟩ h.2
    · rcases h with h | h
      · exact absurd h.2.2 c
      · rw [h.1]; simp [bI, c]
  have kn : l2 = 1 → r = 0 := by
    intro h0
    rcases hr with h | h
    · have := h.2.1; omega
    · exact h.1
  cases va with
  | none =>
    have e : l2 = 1 := by
      rw [h2, h1]
      cases vb <;> rfl
    rw [kn e]; rfl
  | some a =>
    cases vb with
    | none =>
      have e : l2 = 1 := h2
      rw [kn e]; rfl
    | some b =>
      have e : l2 = 0 := by rw [h2, h1]; rfl
      have hx' : x = a := hx
      have hy' : y = b := hy
      subst hx' hy'
      show r = bI (if sg = 60 then decide (x < y) else if sg = 61 then decide (x = y) else decide (y < x))
      by_cases c : sg = 60
      · rw [if_pos c] at hr ⊢; exact key _ _ hr e
      · rw [if_neg c] at hr ⊢
        by_cases c2 : sg = 61
        · rw [if_pos c2] at hr ⊢; exact key _ _ hr e
        · rw [if_neg c2] at hr ⊢; exact key _ _ hr e
def QOut (I0 I : Nat → Nat → Int) (tx : Nat → Int) (n : Nat) (R : CR) (x : Int) : Prop := RQ I tx n R.2.2 ∧ QFr I0 I ∧ (I 30 27 = 0 ∨ I 30 27 = 1) ∧ I 30 26 = I0 30 26 ∧ (x = 0 ∨ x = 1) ∧ (0 ≤ I0 30 25 → R.2.2.1 = true → x = bI (R.2.1 (envR I0)))

theorem facC_pos {tx : Nat → Int} {n k : Nat} (h : 0 < k) (S : CS) : facC tx n k S = (if ccS tx n S = 33 then ((facC tx n (k - 1) (cAdv S)).1 ++ [33], (fun e => !((facC tx n (k - 1) (cAdv S)).2.1 e)), (facC tx n (k - 1) (cAdv S)).2.2)
      else if ccS tx n S = 40 then ((eitL tx n (k - 1) (cAdv S)).1, (eitL tx n (k - 1) (cAdv S)).2.1, cTake tx n (eitL tx n (k - 1) (cAdv S)).2.2 41)
      else tstS tx n S) := by
  cases k with
  | zero => omega
  | succ k => rfl
theorem facC_tst {tx : Nat → Int} {n k : Nat} {S : CS} (h : 0 < k → ccS tx n S ≠ 33 ∧ ccS tx n S ≠ 40) : facC tx n k S = tstS tx n S := by
  cases k with
  | zero => rfl
  | succ k =>
    have h' := h (by omega)
    rw [facC_pos (by omega), if_neg h'.1, if_neg h'.2]
theorem bI_not (b : Bool) : bI (!b) = 1 - bI b := by cases b <;> rfl

