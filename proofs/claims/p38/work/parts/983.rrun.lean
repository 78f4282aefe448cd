/-! run(): the reference -/
def RFw (I I' : Nat → Nat → Int) : Prop := ∀ o k, ¬ (34 ≤ o ∧ o ≤ 43) → o ≠ 45 → ¬ (49 ≤ o ∧ o ≤ 55) → ¬ (o = 30 ∧ (k = 6 ∨ k = 7 ∨ k = 8 ∨ k = 9 ∨ k = 19 ∨ k = 20 ∨ k = 24 ∨ k = 25 ∨ k = 26 ∨ k = 27 ∨ k = 33 ∨ (38 ≤ k ∧ k ≤ 48))) → I' o k = I o k
theorem RFw.rf {I : Nat → Nat → Int} : RFw I I := fun _ _ _ _ _ _ => rfl
theorem RFw.f {I J K : Nat → Nat → Int} (h : RFw I J) (h2 : ∀ o k, o ≠ 55 → K o k = J o k) : RFw I K := fun o k a b d e => (h2 o k (by omega)).trans (h o k a b d e)
def RunR (I0 I' : Nat → Nat → Int) (rn : Int × ML × SJ) (x : Int) : Prop := (∀ k, I' 45 k = rn.2.2.2.1 k) ∧ (I' 30 27 = 0 ∨ I' 30 27 = 1) ∧ ((rn.1 = -7 ∧ x = -7 ∧ RFw I0 I') ∨ (rn.1 = 0 ∧ x = (rn.2.1.length : Int) ∧ I' 31 3336 = (rn.2.1.length : Int) ∧ MaR I' 31 3337 rn.2.1 ∧ ∃ I1, RFw I0 I1 ∧ (∀ o k, ¬ (o = 31 ∧ 3336 ≤ k) → I' o k = I1 o k)))
theorem MaR.fr {I I' : Nat → Nat → Int} {o off : Nat} {Ms : ML} (h : MaR I o off Ms) (hI : ∀ k, I' o k = I o k) : MaR I' o off Ms := fun j s e le hj => by
  obtain ⟨g1, g2, g3⟩ := h j s e le hj
  exact ⟨(hI _).trans g1, (hI _).trans g2, fun r hr => (hI _).trans (g3 r hr)⟩
theorem MaR.ap {I I' : Nat → Nat → Int} {Ms : ML} {s e : Int} {le : Nat → Int} (h : MaR I 55 0 Ms) (hse : s ≤ e ∧ e ≤ s + 32) (hlow : ∀ k, k < 34 * Ms.length → I' 55 k = I 55 k) (h0 : I' 55 (34 * Ms.length) = s) (h1 : I' 55 (34 * Ms.length + 1) = e - s) (h2 : ∀ r : Nat, s + (r : Int) < e → I' 55 (34 * Ms.length + 2 + r) = le (s + (r : Int)).toNat) (hb : ∀ x ∈ Ms, x.2.1 ≤ x.1 + 32) : MaR I' 55 0 (Ms ++ [(s, e, le)]) := by
  intro j s' e' l' hj
  rw [Nat.zero_add]
  by_cases ej : j < Ms.length
  · rw [List.getElem?_append_left ej] at hj
    obtain ⟨g1, g2, g3⟩ := h j s' e' l' hj
    rw [Nat.zero_add] at g1 g2 g3
    have hm := hb (s', e', l') (List.mem_of_getElem? hj)
    have hm : e' ≤ s' + 32 := hm
    exact ⟨(hlow _ (by omega)).trans g1, (hlow _ (by omega)).trans g2, fun r hr => (hlow _ (by omega)).trans (g3 r hr)⟩
  · rw [List.getElem?_append_right (by omega)] at hj
    have e0 : j = Ms.length := by
      by_cases e1 : j - Ms.length = 0
      · omega
      · rw [List.getElem?_eq_none (by simp only [List.length_cons, List.length_nil]; omega)] at hj; cases hj
    subst e0
    rw [Nat.sub_self] at hj
    cases hj
    exact ⟨h0, h1, h2⟩
theorem txR.w {I I' : Nat → Nat → Int} {tx : Nat → Int} {nt : Nat} (h : txR I 31 66 tx nt) (hI : ∀ k, I' 31 k = I 31 k) : txR I' 31 66 tx nt := fun k hk => by rw [hI]; exact h k hk
