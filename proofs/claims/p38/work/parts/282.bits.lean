/-! bits 2 -/
theorem byte1' (b c : Nat) (hb : b < 256) (hc : c < 2) : ((b / 2 + 128 * c) &&& 85) = (b / 2 &&& 85) ∧ (b / 2 &&& 85) ≤ b := byte1 ⟨b, hb⟩ ⟨c, hc⟩
