/-! bits 5 -/
theorem sw_end (y p0 p1 p2 p3 : Nat) (h0 : p0 ≤ 8) (h1 : p1 ≤ 8) (h2 : p2 ≤ 8) (h3 : p3 ≤ 8) (hy : y = p0 + 256 * p1 + 65536 * p2 + 16777216 * p3) : ((y + y / 256) + (y + y / 256) / 65536) % 64 = p0 + p1 + p2 + p3 := by
  have e1 := (dig4 y p0 p1 p2 p3 (by omega) (by omega) (by omega) hy).2.2.2.2
  have e2 : y + y / 256 = (p0 + p1) + 256 * (p1 + p2) + 65536 * (p2 + p3) + 16777216 * p3 := by rw [e1, hy]; omega
  obtain ⟨-, -, -, e3, e4⟩ := dig4 (y + y / 256) (p0 + p1) (p1 + p2) (p2 + p3) p3 (by omega) (by omega) (by omega) e2
  have e5 : (y + y / 256) / 65536 = (p2 + p3) + 256 * p3 := by
    rw [show (65536 : Nat) = 256 * 256 from rfl, ← Nat.div_div_eq_div_mul, e4]
    omega
  rw [e5, e2]
  omega
