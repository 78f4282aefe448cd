/-! bits: how many letters a match has -/
theorem bv32_nat {z : Int} (hz : 0 ≤ z ∧ z < 2147483648) : (Int32.ofInt z).toBitVec.toNat = z.toNat := by
  show (BitVec.ofInt 32 z).toNat = _
  rw [BitVec.toNat_ofInt]
  omega
theorem i32_nat {z : Int32} (h : z.toBitVec.toNat < 2147483648) : z.toInt = (z.toBitVec.toNat : Int) := by
  show z.toBitVec.toInt = _
  rw [BitVec.toInt_eq_toNat_of_lt (by omega)]
theorem and32_nat {x y : Int} (hx : 0 ≤ x ∧ x < 2147483648) (hy : 0 ≤ y ∧ y < 2147483648) : and32 x y = ((x.toNat &&& y.toNat : Nat) : Int) := by
  unfold and32
  have e : (Int32.ofInt x &&& Int32.ofInt y).toBitVec.toNat = x.toNat &&& y.toNat := by
    rw [Int32.toBitVec_and, BitVec.toNat_and, bv32_nat hx, bv32_nat hy]
  have l : x.toNat &&& y.toNat ≤ x.toNat := Nat.and_le_left
  rw [i32_nat (by rw [e]; omega), e]
theorem or32_nat {x y : Int} (hx : 0 ≤ x ∧ x < 2147483648) (hy : 0 ≤ y ∧ y < 2147483648) : or32 x y = ((x.toNat ||| y.toNat : Nat) : Int) := by
  unfold or32
  have e : (Int32.ofInt x ||| Int32.ofInt y).toBitVec.toNat = x.toNat ||| y.toNat := by
    rw [Int32.toBitVec_or, BitVec.toNat_or, bv32_nat hx, bv32_nat hy]
  have l : x.toNat ||| y.toNat < 2 ^ 31 := Nat.or_lt_two_pow (by omega) (by omega)
  rw [i32_nat (by rw [e]; omega), e]
theorem ushr32_nat {x : Int} {k : Nat} (hx : 0 ≤ x ∧ x < 2147483648) (hk : k < 32) : ushr32 x (k : Int) = ((x.toNat / 2 ^ k : Nat) : Int) := by
  unfold ushr32
  have ek : ((Int32.ofInt (k : Int)).toUInt32 &&& Int32.toUInt32 31).toNat = k := by
    rw [UInt32.toNat_and]
    have e1 : (Int32.ofInt (k : Int)).toUInt32.toNat = k := by
      show (Int32.ofInt (k : Int)).toBitVec.toNat = k
      rw [bv32_nat (by omega)]
      omega
    have e2 : (Int32.toUInt32 31).toNat = 2 ^ 5 - 1 := rfl
    rw [e1, e2, Nat.and_two_pow_sub_one_eq_mod]
    omega
  have e : (((Int32.ofInt x).toUInt32 >>> ((Int32.ofInt (k : Int)).toUInt32 &&& Int32.toUInt32 31)).toInt32).toBitVec.toNat = x.toNat / 2 ^ k := by
    show ((Int32.ofInt x).toUInt32 >>> ((Int32.ofInt (k : Int)).toUInt32 &&& Int32.toUInt32 31)).toNat = _
    rw [UInt32.toNat_shiftRight, ek, Nat.mod_eq_of_lt hk, Nat.shiftRight_eq_div_pow]
    congr 1
    exact bv32_nat hx
  have l : x.toNat / 2 ^ k ≤ x.toNat := Nat.div_le_self _ _
  rw [i32_nat (by rw [e]; omega), e]
theorem shl32_one {k : Int} (hk : 0 ≤ k ∧ k ≤ 25) : shl32 1 k = ((2 ^ k.toNat : Nat) : Int) := by
  have h : k = 0 ∨ k = 1 ∨ k = 2 ∨ k = 3 ∨ k = 4 ∨ k = 5 ∨ k = 6 ∨ k = 7 ∨ k = 8 ∨ k = 9 ∨ k = 10 ∨ k = 11 ∨ k = 12 ∨ k = 13 ∨ k = 14 ∨ k = 15 ∨ k = 16 ∨ k = 17 ∨ k = 18 ∨ k = 19 ∨ k = 20 ∨ k = 21 ∨ k = 22 ∨ k = 23 ∨ k = 24 ∨ k = 25 := by omega
  rcases h with rfl | rfl | rfl | rfl | rfl | rfl | rfl | rfl | rfl | rfl | rfl | rfl | rfl | rfl | rfl | rfl | rfl | rfl | rfl | rfl | rfl | rfl | rfl | rfl | rfl | rfl <;> decide +kernel
def popN : Nat → Nat → Nat
  | 0, _ => 0
  | n + 1, x => x % 2 + popN n (x / 2)
theorem popN_add (a b x : Nat) : popN (a + b) x = popN a (x % 2 ^ a) + popN b (x / 2 ^ a) := by
  induction a generalizing x with
  | zero => simp [popN]
  | succ a ih =>
    rw [Nat.add_right_comm]
    show x % 2 + popN (a + b) (x / 2) = (x % 2 ^ (a + 1)) % 2 + popN a (x % 2 ^ (a + 1) / 2) + _
    rw [ih]
    have e1 : x % 2 ^ (a + 1) % 2 = x % 2 := Nat.mod_mod_of_dvd _ ⟨2 ^ a, by rw [Nat.pow_succ, Nat.mul_comm]⟩
    have e2 : x % 2 ^ (a + 1) / 2 = x / 2 % 2 ^ a := by
      rw [Nat.pow_succ, Nat.mul_comm, Nat.mod_mul_right_div_self]
    have e3 : x / 2 / 2 ^ a = x / 2 ^ (a + 1) := by rw [Nat.div_div_eq_div_mul, Nat.pow_succ, Nat.mul_comm]
    rw [e1, e2, e3]
    omega
theorem popN_bit (k : Nat) : ∀ (n x : Nat), k < n → x / 2 ^ k % 2 = 0 → popN n (x + 2 ^ k) = popN n x + 1 := by
  induction k with
  | zero =>
    intro n x hn hx
    obtain ⟨n, rfl⟩ : ∃ q, n = q + 1 := ⟨n - 1, by omega⟩
    simp only [Nat.pow_zero, Nat.div_one] at hx
    show (x + 1) % 2 + popN n ((x + 1) / 2) = x % 2 + popN n (x / 2) + 1
    have e : (x + 1) / 2 = x / 2 := by omega
    rw [e]
    omega
  | succ k ih =>
    intro n x hn hx
    obtain ⟨n, rfl⟩ : ∃ q, n = q + 1 := ⟨n - 1, by omega⟩
    show (x + 2 ^ (k + 1)) % 2 + popN n ((x + 2 ^ (k + 1)) / 2) = x % 2 + popN n (x / 2) + 1
    have e : (x + 2 ^ (k + 1)) / 2 = x / 2 + 2 ^ k := by rw [Nat.pow_succ]; omega
    have e2 : (x + 2 ^ (k + 1)) % 2 = x % 2 := by rw [Nat.pow_succ]; omega
    rw [e, e2, ih n (x / 2) (by omega) (by rw [Nat.div_div_eq_div_mul, Nat.mul_comm, ← Nat.pow_succ]; exact hx)]
    omega
theorem and_byte (x y : Nat) : x &&& y = (x % 256 &&& y % 256) + 256 * (x / 256 &&& y / 256) := by
  have h1 : (x &&& y) % 2 ^ 8 = x % 2 ^ 8 &&& y % 2 ^ 8 := Nat.and_mod_two_pow
  have h2 : (x &&& y) / 2 ^ 8 = x / 2 ^ 8 &&& y / 2 ^ 8 := Nat.and_div_two_pow
  have e : (2 : Nat) ^ 8 = 256 := rfl
  rw [e] at h1 h2
  omega
theorem byte1 : ∀ b : Fin 256, ∀ c : Fin 2, ((b.1 / 2 + 128 * c.1) &&& 85) = (b.1 / 2 &&& 85) ∧ (b.1 / 2 &&& 85) ≤ b.1 := by decide +kernel
theorem byte2 : ∀ b : Fin 256, ∀ c : Fin 4, ((b.1 / 4 + 64 * c.1) &&& 51) = (b.1 / 4 &&& 51) := by decide +kernel
def sw1 (b : Nat) : Nat := b - (b / 2 &&& 85)
def sw2 (b : Nat) : Nat := (b &&& 51) + (b / 4 &&& 51)
theorem byte3 : ∀ b : Fin 256, sw2 (sw1 b.1) / 16 + sw2 (sw1 b.1) % 16 = popN 8 b.1 ∧ sw2 (sw1 b.1) / 16 ≤ 4 ∧ sw2 (sw1 b.1) % 16 ≤ 4 := by decide +kernel
theorem byte4 : ∀ b : Fin 256, (b.1 &&& 15) = b.1 % 16 := by decide +kernel
