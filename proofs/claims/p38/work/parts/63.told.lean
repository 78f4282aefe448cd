/-! part(): class and reference -/
def partV (F : Tb) (c : Nat) (p w : Int) : Int := if 0 ≤ p ∧ p < (c : Int) ∧ 0 ≤ w ∧ w ≤ 6 then F p.toNat w.toNat else -1
theorem partV_n {F : Tb} {c : Nat} {p w : Int} (h : ¬ (0 ≤ p ∧ p < (c : Int) ∧ 0 ≤ w ∧ w ≤ 6)) : partV F c p w = -1 := if_neg h
theorem partV_y {F : Tb} {c : Nat} {p w : Int} (h : 0 ≤ p ∧ p < (c : Int) ∧ 0 ≤ w ∧ w ≤ 6) : partV F c p w = F p.toNat w.toNat := if_pos h
theorem RTab.pv {I : Nat → Nat → Int} {F : Tb} {c : Nat} (h : RTab I F c) {p w : Int} (hp : 0 ≤ p ∧ p < (c : Int)) (k : Nat) (hk : w = (k : Int)) (h6 : k ≤ 6) : I (colA k) p.toNat = partV F c p w := by
  rw [partV_y ⟨hp.1, hp.2, by omega, by omega⟩, show w.toNat = k from by omega]
  exact RTab.at h (by omega) (by omega)

