/-! bits 1 -/
theorem and4 (x m M : Nat) (hm : m < 256) (hM : M = m + 256 * m + 65536 * m + 16777216 * m) : x &&& M = (x % 256 &&& m) + 256 * (x / 256 % 256 &&& m) + 65536 * (x / 65536 % 256 &&& m) + 16777216 * (x / 16777216 &&& m) := by
  have e1 : M % 256 = m := by omega
  have e2 : M / 256 % 256 = m := by omega
  have e3 : M / 256 / 256 % 256 = m := by omega
  have e4 : M / 256 / 256 / 256 = m := by omega
  have f2 : x / 65536 % 256 = x / 256 / 256 % 256 := by omega
  have f3 : x / 16777216 = x / 256 / 256 / 256 := by omega
  rw [and_byte x M, and_byte (x / 256) (M / 256), and_byte (x / 256 / 256) (M / 256 / 256), e1, e2, e3, e4, f2, f3]
  omega
