/-! bits 3 -/
theorem byte2' (b c : Nat) (hb : b < 256) (hc : c < 4) : ((b / 4 + 64 * c) &&& 51) = (b / 4 &&& 51) := byte2 ⟨b, hb⟩ ⟨c, hc⟩
