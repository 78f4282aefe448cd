/-! the reference searches: one comes, goes on, turns -/
section STP
variable {F : Tb} {n may : Int} {hc : Nat → CEnv → Int} {cl : Nat → Int} {J : SJ}
theorem comeW_y {far : Int} (h : far + 1 < F (J.1 7).toNat 2) : comeW F J far = (0, setS (pushF F J (far + 1)) 7 (kidN F (J.1 7) far.toNat)) := by unfold comeW; rw [if_pos h]
theorem comeW_n {far : Int} (h : ¬ far + 1 < F (J.1 7).toNat 2) : comeW F J far = (0, setS J 7 (kidN F (J.1 7) far.toNat)) := by unfold comeW; rw [if_neg h]
theorem chooA_y {far : Int} (h : far + 1 < F (J.1 7).toNat 2) : chooA F J far = (0, setS (pushO J (far + 1)) 7 (kidN F (J.1 7) far.toNat)) := by unfold chooA; rw [if_pos h]
theorem chooA_n {far : Int} (h : ¬ far + 1 < F (J.1 7).toNat 2) : chooA F J far = (0, setS J 7 (kidN F (J.1 7) far.toNat)) := by unfold chooA; rw [if_neg h]
theorem takA_f {w : Int} (h : n ≤ J.1 9) : takA n hc cl J w = (2, J) := if_pos h
theorem takA_y {w : Int} (h : ¬ n ≤ J.1 9) (h2 : hc w.toNat (envJ (setL J (J.1 9).toNat w) n cl) = 1) : takA n hc cl J w = (1, setS (setL J (J.1 9).toNat w) 9 (J.1 9 + 1)) := (if_neg h).trans (if_pos h2)
theorem takA_n {w : Int} (h : ¬ n ≤ J.1 9) (h2 : ¬ hc w.toNat (envJ (setL J (J.1 9).toNat w) n cl) = 1) : takA n hc cl J w = (2, setL J (J.1 9).toNat w) := (if_neg h).trans (if_neg h2)
theorem cdR_01 (e : CEnv) (tx : Nat → Int) (k : Nat) : cdR e tx k = 0 ∨ cdR e tx k = 1 := by
  unfold cdR
  split
  · exact Or.inr rfl
  · exact bI_v _
end STP

