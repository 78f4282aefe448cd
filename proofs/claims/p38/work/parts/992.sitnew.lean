/-! a new situation: the class -/
theorem mR_sRif {M : Mem} {o k : Nat} {v : Option Nat} {o' k' : Nat} : mR (setR M o k v) o' k' = if o' = o ∧ k' = k then v else mR M o' k' := rfl
def sitE (m : Mem) (S : Nat) : Mem := setR (newO (setR (newO (setR (newO (newO (setR (newO (setR (setR (newO (newO m 8 2) 20 64) (mN m) 0 (some (mN (newO m 8 2)))) S 0 (some (mN m))) 23 26) S 1 (some (mN m + 2))) 3 4) 20 33) (mN m + 3) 0 (some (mN (newO (setR (newO (setR (setR (newO (newO m 8 2) 20 64) (mN m) 0 (some (mN (newO m 8 2)))) S 0 (some (mN m))) 23 26) S 1 (some (mN m + 2))) 3 4)))) 20 33) (mN m + 3) 1 (some (mN (newO (setR (newO (setR (setR (newO (newO m 8 2) 20 64) (mN m) 0 (some (mN (newO m 8 2)))) S 0 (some (mN m))) 23 26) S 1 (some (mN m + 2))) 3 4) + 1))) 20 1056) (mN m + 3) 2 (some (mN (newO (setR (newO (setR (setR (newO (newO m 8 2) 20 64) (mN m) 0 (some (mN (newO m 8 2)))) S 0 (some (mN m))) 23 26) S 1 (some (mN m + 2))) 3 4) + 2))
def SitM (m b : Mem) (S : Nat) : Prop := (mT b S = (7, 8) ∧ mR b S 0 = some (S + 1) ∧ mR b S 1 = some (S + 1 + 2) ∧ mT b (S + 1) = (8, 2) ∧ mR b (S + 1) 0 = some (S + 1 + 1) ∧ mT b (S + 1 + 1) = (20, 64) ∧ mT b (S + 1 + 2) = (23, 26) ∧ mT b (S + 1 + 3) = (3, 4) ∧ mR b (S + 1 + 3) 0 = some (S + 1 + 4) ∧ mR b (S + 1 + 3) 1 = some (S + 1 + 5) ∧ mR b (S + 1 + 3) 2 = some (S + 1 + 6) ∧ mT b (S + 1 + 4) = (20, 33) ∧ mT b (S + 1 + 5) = (20, 33) ∧ mT b (S + 1 + 6) = (20, 1056)) ∧ mN b = S + 8 ∧ mZ b = mZ m + 1218 ∧ (∀ o, o < S → mT b o = mT m o) ∧ (∀ o k, o < S → mI b o k = mI m o k) ∧ (∀ o k, o < S → mR b o k = mR m o k) ∧ (∀ k, mR b (S + 3) k = none) ∧ mR b S 2 = none
theorem sitM_of (m : Mem) (S : Nat) (h : mN m = S + 1) (hT : mT m S = (7, 8)) (hR : ∀ k, mR m S k = none) : SitM m (sitE m S) S := by
  have t : ∀ o, mT (sitE m S) o = if o = mN m + 6 then (20, 1056) else if o = mN m + 5 then (20, 33) else if o = mN m + 4 then (20, 33) else if o = mN m + 3 then (3, 4) else if o = mN m + 2 then (23, 26) else if o = mN m + 1 then (20, 64) else if o = mN m then (8, 2) else mT m o := fun o => by unfold sitE; simp only [mT_setR, mT_newO, mN_newO, mN_setR, Nat.add_assoc, Nat.reduceAdd]; try rfl
  have i : ∀ o k, mI (sitE m S) o k = if o = mN m + 6 then 0 else if o = mN m + 5 then 0 else if o = mN m + 4 then 0 else if o = mN m + 3 then 0 else if o = mN m + 2 then 0 else if o = mN m + 1 then 0 else if o = mN m then 0 else mI m o k := fun o k => by unfold sitE; simp only [mI_setR, mI_newO, mN_newO, mN_setR, Nat.add_assoc, Nat.reduceAdd]; try rfl
  have r : ∀ o k, mR (sitE m S) o k = if o = mN m + 3 ∧ k = 2 then some (mN m + 6) else if o = mN m + 6 then none else if o = mN m + 3 ∧ k = 1 then some (mN m + 5) else if o = mN m + 5 then none else if o = mN m + 3 ∧ k = 0 then some (mN m + 4) else if o = mN m + 4 then none else if o = mN m + 3 then none else if o = S ∧ k = 1 then some (mN m + 2) else if o = mN m + 2 then none else if o = S ∧ k = 0 then some (mN m) else if o = mN m ∧ k = 0 then some (mN m + 1) else if o = mN m + 1 then none else if o = mN m then none else mR m o k := fun o k => by unfold sitE; simp only [mR_sRif, mR_newO, mN_newO, mN_setR, Nat.add_assoc, Nat.reduceAdd]; try rfl
  have n : mN (sitE m S) = mN m + 7 := by unfold sitE; simp only [mN_newO, mN_setR]
  have z : mZ (sitE m S) = mZ m + 1218 := by unfold sitE; simp only [mZ_newOs, mZ_setRs]
  generalize sitE m S = b at t i r n z
  refine ⟨⟨?_, ?_, ?_, ?_, ?_, ?_, ?_, ?_, ?_, ?_, ?_, ?_, ?_, ?_⟩, by omega, z, fun o ho => ?_, fun o k ho => ?_, fun o k ho => ?_, fun k => ?_, ?_⟩
  · rw [t]; (repeat rw [if_neg (by omega)]); exact hT
  · rw [r]; (repeat (first | rw [if_pos (by omega)] | rw [if_neg (by omega)])) <;> (first | rfl | exact congrArg some (by omega))
  · rw [r]; (repeat (first | rw [if_pos (by omega)] | rw [if_neg (by omega)])) <;> (first | rfl | exact congrArg some (by omega))
  · rw [t]; (repeat (first | rw [if_pos (by omega)] | rw [if_neg (by omega)])) <;> (first | rfl | exact congrArg some (by omega))
  · rw [r]; (repeat (first | rw [if_pos (by omega)] | rw [if_neg (by omega)])) <;> (first | rfl | exact congrArg some (by omega))
  · rw [t]; (repeat (first | rw [if_pos (by omega)] | rw [if_neg (by omega)])) <;> (first | rfl | exact congrArg some (by omega))
  · rw [t]; (repeat (first | rw [if_pos (by omega)] | rw [if_neg (by omega)])) <;> (first | rfl | exact congrArg some (by omega))
  · rw [t]; (repeat (first | rw [if_pos (by omega)] | rw [if_neg (by omega)])) <;> (first | rfl | exact congrArg some (by omega))
  · rw [r]; (repeat (first | rw [if_pos (by omega)] | rw [if_neg (by omega)])) <;> (first | rfl | exact congrArg some (by omega))
  · rw [r]; (repeat (first | rw [if_pos (by omega)] | rw [if_neg (by omega)])) <;> (first | rfl | exact congrArg some (by omega))
  · rw [r]; (repeat (first | rw [if_pos (by omega)] | rw [if_neg (by omega)])) <;> (first | rfl | exact congrArg some (by omega))
  · rw [t]; (repeat (first | rw [if_pos (by omega)] | rw [if_neg (by omega)])) <;> (first | rfl | exact congrArg some (by omega))
  · rw [t]; (repeat (first | rw [if_pos (by omega)] | rw [if_neg (by omega)])) <;> (first | rfl | exact congrArg some (by omega))
  · rw [t]; (repeat (first | rw [if_pos (by omega)] | rw [if_neg (by omega)])) <;> (first | rfl | exact congrArg some (by omega))
  · rw [t]; (repeat rw [if_neg (by omega)])
  · rw [i]; (repeat rw [if_neg (by omega)])
  · rw [r]; (repeat rw [if_neg (by omega)])
  · rw [r]; (repeat (first | rw [if_pos (by omega)] | rw [if_neg (by omega)]))
  · rw [r]; (repeat rw [if_neg (by omega)]); exact hR 2

