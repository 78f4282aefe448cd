/-! bits 4 -/
theorem dig4 (X A B C D : Nat) (hA : A < 256) (hB : B < 256) (hC : C < 256) (h : X = A + 256 * B + 65536 * C + 16777216 * D) : X % 256 = A ∧ X / 256 % 256 = B ∧ X / 65536 % 256 = C ∧ X / 16777216 = D ∧ X / 256 = B + 256 * C + 65536 * D := by
  have e1 : X / 256 = B + 256 * C + 65536 * D := by omega
  have e2 : X / 65536 = C + 256 * D := by
    rw [show (65536 : Nat) = 256 * 256 from rfl, ← Nat.div_div_eq_div_mul, e1]
    omega
  have e3 : X / 16777216 = D := by
    rw [show (16777216 : Nat) = 65536 * 256 from rfl, ← Nat.div_div_eq_div_mul, e2]
    omega
  refine ⟨by omega, ?_, ?_, e3, e1⟩
  · rw [e1]; omega
  · rw [e2]; omega
theorem m15 (q : Nat) (h : q < 256) : (q &&& 15) = q % 16 := byte4 ⟨q, h⟩
theorem sw_y3 (y2 y3 t0 t1 t2 t3 : Nat) (h0 : t0 / 16 ≤ 4 ∧ t0 % 16 ≤ 4) (h1 : t1 / 16 ≤ 4 ∧ t1 % 16 ≤ 4) (h2 : t2 / 16 ≤ 4 ∧ t2 % 16 ≤ 4) (h3 : t3 / 16 ≤ 4 ∧ t3 % 16 ≤ 4) (hy : y2 = t0 + 256 * t1 + 65536 * t2 + 16777216 * t3) (e : y3 = (y2 + y2 / 16) &&& 252645135) : y3 = (t0 / 16 + t0 % 16) + 256 * (t1 / 16 + t1 % 16) + 65536 * (t2 / 16 + t2 % 16) + 16777216 * (t3 / 16 + t3 % 16) := by
  have q : y2 / 16 = t0 / 16 + 16 * t1 + 4096 * t2 + 1048576 * t3 := by omega
  have w : y2 + y2 / 16 = (t0 + t0 / 16 + 16 * (t1 % 16)) + 256 * (t1 + t1 / 16 + 16 * (t2 % 16)) + 65536 * (t2 + t2 / 16 + 16 * (t3 % 16)) + 16777216 * (t3 + t3 / 16) := by
    rw [q, hy]
    have a1 := Nat.div_add_mod t1 16
    have a2 := Nat.div_add_mod t2 16
    have a3 := Nat.div_add_mod t3 16
    generalize t1 / 16 = d1 at *
    generalize t1 % 16 = r1 at *
    generalize t2 / 16 = d2 at *
    generalize t2 % 16 = r2 at *
    generalize t3 / 16 = d3 at *
    generalize t3 % 16 = r3 at *
    generalize t0 / 16 = d0 at *
    omega
  have b0 : t0 + t0 / 16 + 16 * (t1 % 16) < 256 := by omega
  have b1 : t1 + t1 / 16 + 16 * (t2 % 16) < 256 := by omega
  have b2 : t2 + t2 / 16 + 16 * (t3 % 16) < 256 := by omega
  have b3 : t3 + t3 / 16 < 256 := by omega
  have g0 : (t0 + t0 / 16 + 16 * (t1 % 16)) % 16 = t0 / 16 + t0 % 16 := by omega
  have g1 : (t1 + t1 / 16 + 16 * (t2 % 16)) % 16 = t1 / 16 + t1 % 16 := by omega
  have g2 : (t2 + t2 / 16 + 16 * (t3 % 16)) % 16 = t2 / 16 + t2 % 16 := by omega
  have g3 : (t3 + t3 / 16) % 16 = t3 / 16 + t3 % 16 := by omega
  obtain ⟨f0, f1, f2, f3, -⟩ := dig4 _ _ _ _ _ b0 b1 b2 w
  rw [e, and4 _ 15 252645135 (by decide) (by decide), f0, f1, f2, f3, m15 _ b0, m15 _ b1, m15 _ b2, m15 _ b3, g0, g1, g2, g3]
