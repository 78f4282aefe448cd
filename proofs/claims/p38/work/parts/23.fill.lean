/-! filling and copying; lists -/
def fillR (m : Mem) (a lo n : Nat) (v : Int) : Mem := wI m (fun o k => if o = a ∧ lo ≤ k ∧ k < lo + n then v else mI m o k)
theorem mI_fillR {m : Mem} {a lo n : Nat} {v : Int} {o k : Nat} : mI (fillR m a lo n v) o k = if o = a ∧ lo ≤ k ∧ k < lo + n then v else mI m o k := rfl
theorem mI_cpyI {m : Mem} {a sp b dp n : Nat} {o k : Nat} : mI (cpyI m a sp b dp n) o k = if o = b ∧ dp ≤ k ∧ k < dp + n then mI m a (sp + (k - dp)) else mI m o k := rfl
theorem fillR_0 {m : Mem} {a lo : Nat} {v : Int} : fillR m a lo 0 v = m := by
  have h : (fun o k => if o = a ∧ lo ≤ k ∧ k < lo + 0 then v else mI m o k) = mI m := by
    funext o k; exact if_neg (by omega)
  unfold fillR; rw [h]; rfl
theorem fillR_s {m : Mem} {a lo n q : Nat} {v : Int} (hq : q = lo + n) : setI (fillR m a lo n v) a q v = fillR m a lo (n + 1) v := by
  subst hq
  have h : up2 (mI (fillR m a lo n v)) a (lo + n) v = fun o k => if o = a ∧ lo ≤ k ∧ k < lo + (n + 1) then v else mI m o k := by
    funext o k
    unfold up2
    rw [mI_fillR]
    by_cases h1 : o = a ∧ k = lo + n
    · rw [if_pos h1, if_pos (by omega)]
    · rw [if_neg h1]
      by_cases h2 : o = a ∧ lo ≤ k ∧ k < lo + n
      · rw [if_pos h2, if_pos (by omega)]
      · rw [if_neg h2, if_neg (by omega)]
  unfold setI; rw [h]; rfl
theorem cpyI_0 {m : Mem} {a sp b dp : Nat} : cpyI m a sp b dp 0 = m := by
  have h : (fun o k => if o = b ∧ dp ≤ k ∧ k < dp + 0 then mI m a (sp + (k - dp)) else mI m o k) = mI m := by
    funext o k; exact if_neg (by omega)
  unfold cpyI; rw [h]; rfl
theorem cpyI_s {m : Mem} {a sp b dp n q : Nat} {v : Int} (hq : q = dp + n) (hv : v = mI m a (sp + n)) : setI (cpyI m a sp b dp n) b q v = cpyI m a sp b dp (n + 1) := by
  subst hq; subst hv
  have h : up2 (mI (cpyI m a sp b dp n)) b (dp + n) (mI m a (sp + n)) = fun o k => if o = b ∧ dp ≤ k ∧ k < dp + (n + 1) then mI m a (sp + (k - dp)) else mI m o k := by
    funext o k
    unfold up2
    rw [mI_cpyI]
    by_cases h1 : o = b ∧ k = dp + n
    · rw [if_pos h1, if_pos (by omega)]
      congr 1
      omega
    · rw [if_neg h1]
      by_cases h2 : o = b ∧ dp ≤ k ∧ k < dp + n
      · rw [if_pos h2, if_pos (by omega)]
      · rw [if_neg h2, if_neg (by omega)]
  unfold setI; rw [h]; rfl

