/-! bits 6 -/
theorem sw_y2 (y1 y2 v0 v1 v2 v3 : Nat) (h0 : v0 < 256) (h1 : v1 < 256) (h2 : v2 < 256) (h3 : v3 < 256) (hy1 : y1 = v0 + 256 * v1 + 65536 * v2 + 16777216 * v3) (e : y2 = (y1 &&& 858993459) + (y1 / 4 &&& 858993459)) : y2 = sw2 v0 + 256 * sw2 v1 + 65536 * sw2 v2 + 16777216 * sw2 v3 := by
  rw [e, and4 y1 51 858993459 (by decide) (by decide), and4 (y1 / 4) 51 858993459 (by decide) (by decide)]
  have f0 : y1 / 4 % 256 = v0 / 4 + 64 * (v1 % 4) := by omega
  have f1 : y1 / 4 / 256 % 256 = v1 / 4 + 64 * (v2 % 4) := by omega
  have f2 : y1 / 4 / 65536 % 256 = v2 / 4 + 64 * (v3 % 4) := by omega
  have f3 : y1 / 4 / 16777216 = v3 / 4 + 64 * 0 := by omega
  have g0 : y1 % 256 = v0 := by omega
  have g1 : y1 / 256 % 256 = v1 := by omega
  have g2 : y1 / 65536 % 256 = v2 := by omega
  have g3 : y1 / 16777216 = v3 := by omega
  rw [f0, f1, f2, f3, g0, g1, g2, g3, byte2' _ _ h0 (by omega), byte2' _ _ h1 (by omega), byte2' _ _ h2 (by omega), byte2' _ _ h3 (by omega)]
  unfold sw2
  generalize v0 &&& 51 = a0
  generalize v1 &&& 51 = a1
  generalize v2 &&& 51 = a2
  generalize v3 &&& 51 = a3
  generalize v0 / 4 &&& 51 = c0
  generalize v1 / 4 &&& 51 = c1
  generalize v2 / 4 &&& 51 = c2
  generalize v3 / 4 &&& 51 = c3
  omega
