/-! bits 7 -/
theorem sw_y1 (x y1 b0 b1 b2 b3 : Nat) (h0 : b0 < 256) (h1 : b1 < 256) (h2 : b2 < 256) (h3 : b3 < 256) (hx : x = b0 + 256 * b1 + 65536 * b2 + 16777216 * b3) (e : y1 = x - (x / 2 &&& 1431655765)) : y1 = sw1 b0 + 256 * sw1 b1 + 65536 * sw1 b2 + 16777216 * sw1 b3 ∧ (x / 2 &&& 1431655765) ≤ x := by
  have a0 := byte1' b0 (b1 % 2) (by omega) (by omega)
  have a1 := byte1' b1 (b2 % 2) (by omega) (by omega)
  have a2 := byte1' b2 (b3 % 2) (by omega) (by omega)
  have a3 := byte1' b3 0 (by omega) (by omega)
  have u : x / 2 &&& 1431655765 = (b0 / 2 &&& 85) + 256 * (b1 / 2 &&& 85) + 65536 * (b2 / 2 &&& 85) + 16777216 * (b3 / 2 &&& 85) := by
    rw [and4 (x / 2) 85 1431655765 (by decide) (by decide)]
    have f0 : x / 2 % 256 = b0 / 2 + 128 * (b1 % 2) := by omega
    have f1 : x / 2 / 256 % 256 = b1 / 2 + 128 * (b2 % 2) := by omega
    have f2 : x / 2 / 65536 % 256 = b2 / 2 + 128 * (b3 % 2) := by omega
    have f3 : x / 2 / 16777216 = b3 / 2 + 128 * 0 := by omega
    rw [f0, f1, f2, f3, a0.1, a1.1, a2.1, a3.1]
  rw [u] at e ⊢
  unfold sw1
  replace a0 := a0.2
  replace a1 := a1.2
  replace a2 := a2.2
  replace a3 := a3.2
  clear u
  generalize b0 / 2 &&& 85 = c0 at *
  generalize b1 / 2 &&& 85 = c1 at *
  generalize b2 / 2 &&& 85 = c2 at *
  generalize b3 / 2 &&& 85 = c3 at *
  omega
