/-! bits of longs: a pile of truths, the latest lowest -/
theorem bv64_nat {z : Int} (hz : 0 ≤ z ∧ z < 9223372036854775808) : (Int64.ofInt z).toBitVec.toNat = z.toNat := by
  show (BitVec.ofInt 64 z).toNat = _
  rw [BitVec.toNat_ofInt]
  omega
theorem i64_nat {z : Int64} (h : z.toBitVec.toNat < 9223372036854775808) : z.toInt = (z.toBitVec.toNat : Int) := by
  show z.toBitVec.toInt = _
  rw [BitVec.toInt_eq_toNat_of_lt (by omega)]
theorem m2_nat : (Int64.ofInt (-2)).toBitVec.toNat = 2 ^ 64 - 2 := by decide
theorem n_xor1 (t b : Nat) (hb : b < 2) : (2 * t + b) ^^^ 1 = 2 * t + (1 - b) := by
  have h1 : ((2 * t + b) ^^^ 1) / 2 = (2 * t + b) / 2 ^^^ 1 / 2 := Nat.xor_div_two
  have h2 : ((2 * t + b) ^^^ 1) % 2 = 1 ↔ ¬ ((2 * t + b) % 2 = 1 ↔ 1 % 2 = 1) := Nat.xor_mod_two_eq_one
  rw [show (1 : Nat) / 2 = 0 from rfl, Nat.xor_zero] at h1
  generalize ((2 * t + b) ^^^ 1) = z at *
  have h3 : b = 0 ∨ b = 1 := by omega
  rcases h3 with rfl | rfl
  · have : z % 2 = 1 := h2.mpr (by omega)
    omega
  · have : ¬ z % 2 = 1 := fun e => (h2.mp e) (by omega)
    omega
theorem n_ones {y k : Nat} (h : y < 2 ^ k) : y ||| (2 ^ k - 1) = 2 ^ k - 1 := by
  apply Nat.eq_of_testBit_eq
  intro i
  rw [Nat.testBit_or, Nat.testBit_two_pow_sub_one]
  by_cases hi : i < k
  · simp [hi]
  · simp [hi]
    exact Nat.testBit_lt_two_pow (Nat.lt_of_lt_of_le h (Nat.pow_le_pow_right (by decide) (by omega)))
theorem n_and (X T : Nat) (hX : X < 2 ^ 63) (hT : T < 2 ^ 63) : X &&& (T ||| (2 ^ 64 - 2)) = 2 * (X / 2) + (if X % 2 = 1 ∧ T % 2 = 1 then 1 else 0) := by
  have h1 : (X &&& (T ||| (2 ^ 64 - 2))) / 2 = X / 2 &&& (T ||| (2 ^ 64 - 2)) / 2 := Nat.and_div_two
  have h2 : (T ||| (2 ^ 64 - 2)) / 2 = T / 2 ||| (2 ^ 64 - 2) / 2 := Nat.or_div_two
  have h3 : (2 ^ 64 - 2) / 2 = 2 ^ 63 - 1 := by decide
  rw [h3, n_ones (k := 63) (by omega)] at h2
  rw [h2, Nat.and_two_pow_sub_one_eq_mod, Nat.mod_eq_of_lt (by omega)] at h1
  have h4 : (X &&& (T ||| (2 ^ 64 - 2))) % 2 = 1 ↔ X % 2 = 1 ∧ T % 2 = 1 := by
    rw [Nat.and_mod_two_eq_one, Nat.or_mod_two_eq_one]
    have : ¬ ((2 ^ 64 - 2) % 2 = 1) := by decide
    simp [this]
  generalize (X &&& (T ||| (2 ^ 64 - 2))) = z at *
  split <;> omega
theorem n_or (X b : Nat) (hb : b < 2) : X ||| b = 2 * (X / 2) + (if X % 2 = 1 ∨ b = 1 then 1 else 0) := by
  have h1 : (X ||| b) / 2 = X / 2 ||| b / 2 := Nat.or_div_two
  rw [show b / 2 = 0 from by omega, Nat.or_zero] at h1
  have h4 : (X ||| b) % 2 = 1 ↔ X % 2 = 1 ∨ b % 2 = 1 := Nat.or_mod_two_eq_one
  generalize (X ||| b) = z at *
  split <;> omega
theorem xor64_1 {t b : Int} (ht : 0 ≤ t ∧ t < 4000000000000000000) (hb : b = 0 ∨ b = 1) : xor64 (2 * t + b) 1 = 2 * t + (1 - b) := by
  unfold xor64
  have e : (Int64.ofInt (2 * t + b) ^^^ Int64.ofInt 1).toBitVec.toNat = 2 * t.toNat + (1 - b.toNat) := by
    rw [Int64.toBitVec_xor, BitVec.toNat_xor, bv64_nat (by omega), bv64_nat (by omega), show (2 * t + b).toNat = 2 * t.toNat + b.toNat from by omega]
    exact n_xor1 _ _ (by omega)
  rw [i64_nat (by rw [e]; omega), e]
  omega
theorem shr64_1 {x : Int} (hx : 0 ≤ x ∧ x < 4611686018427387904) : shr64 x 1 = x / 2 := by
  have h : ((((Int32.ofInt 1).toInt64 &&& 63).toBitVec).smod 64).toNat = 1 := by decide
  have e := BitVec.toInt_sshiftRight (x := (Int64.ofInt x).toBitVec) (n := ((((Int32.ofInt 1).toInt64 &&& 63).toBitVec).smod 64).toNat)
  have e2 : shr64 x 1 = (Int64.ofInt x).toBitVec.toInt >>> ((((Int32.ofInt 1).toInt64 &&& 63).toBitVec).smod 64).toNat := e
  have e3 : (Int64.ofInt x).toBitVec.toInt = x := i64_toInt (by unfold I64; omega)
  rw [e2, h, e3, Int.shiftRight_eq_div_pow]
  omega
theorem shl64_1 {x : Int} (hx : 0 ≤ x ∧ x < 4000000000000000000) : shl64 x 1 = 2 * x := by
  unfold shl64
  have e : (Int64.ofInt x <<< ((Int32.ofInt 1).toInt64 &&& 63)).toBitVec.toNat = 2 * x.toNat := by
    show (Int64.ofInt x <<< (1 : Int64)).toBitVec.toNat = _
    rw [Int64.toBitVec_shiftLeft]
    show ((Int64.ofInt x).toBitVec <<< (BitVec.smod (1 : Int64).toBitVec 64)).toNat = _
    rw [show BitVec.smod (1 : Int64).toBitVec 64 = 1#64 from by decide, BitVec.shiftLeft_eq', BitVec.toNat_shiftLeft, bv64_nat (by omega), Nat.shiftLeft_eq]
    show x.toNat * 2 ^ 1 % 2 ^ 64 = _
    omega
  rw [i64_nat (by rw [e]; omega), e]
  omega
theorem or64_b {x b : Int} (hx : 0 ≤ x ∧ x < 9000000000000000000) (hb : b = 0 ∨ b = 1) : or64 x b = 2 * (x / 2) + (if x % 2 = 1 ∨ b = 1 then 1 else 0) := by
  unfold or64
  have e : (Int64.ofInt x ||| Int64.ofInt b).toBitVec.toNat = 2 * (x.toNat / 2) + (if x.toNat % 2 = 1 ∨ b.toNat = 1 then 1 else 0) := by
    rw [Int64.toBitVec_or, BitVec.toNat_or, bv64_nat (by omega), bv64_nat (by omega)]
    exact n_or _ _ (by omega)
  rw [i64_nat (by rw [e]; split <;> omega), e]
  split <;> split <;> omega
theorem and64_1 {x : Int} (hx : 0 ≤ x ∧ x < 9000000000000000000) : and64 x 1 = x % 2 := by
  unfold and64
  have e : (Int64.ofInt x &&& Int64.ofInt 1).toBitVec.toNat = x.toNat % 2 := by
    rw [Int64.toBitVec_and, BitVec.toNat_and, bv64_nat (by omega), bv64_nat (by omega)]
    exact Nat.and_one_is_mod _
  rw [i64_nat (by rw [e]; omega), e]
  omega
theorem and64_or {X T : Int} (hX : 0 ≤ X ∧ X < 9000000000000000000) (hT : 0 ≤ T ∧ T < 9000000000000000000) : and64 X (or64 T (-2)) = 2 * (X / 2) + (if X % 2 = 1 ∧ T % 2 = 1 then 1 else 0) := by
  unfold and64 or64
  have e0 : Int64.ofInt ((Int64.ofInt T ||| Int64.ofInt (-2)).toInt) = Int64.ofInt T ||| Int64.ofInt (-2) := Int64.ofInt_toInt _
  rw [e0]
  have e : (Int64.ofInt X &&& (Int64.ofInt T ||| Int64.ofInt (-2))).toBitVec.toNat = 2 * (X.toNat / 2) + (if X.toNat % 2 = 1 ∧ T.toNat % 2 = 1 then 1 else 0) := by
    rw [Int64.toBitVec_and, Int64.toBitVec_or, BitVec.toNat_and, BitVec.toNat_or, bv64_nat (by omega), bv64_nat (by omega), m2_nat]
    exact n_and _ _ (by omega) (by omega)
  rw [i64_nat (by rw [e]; split <;> omega), e]
  split <;> split <;> omega
/-! an operand's code: its kind and a detail -/
theorem shl12 {k : Int} (hk : 0 ≤ k ∧ k < 128) : shl32 k 12 = 4096 * k := by
  have h : ∀ n : Fin 128, shl32 (n.val : Int) 12 = 4096 * (n.val : Int) := by decide +kernel
  have := h ⟨k.toNat, by omega⟩
  simp only [Int.toNat_of_nonneg hk.1] at this
  exact this
theorem or32_add {k d : Int} (hk : 0 ≤ k ∧ k < 128) (hd : 0 ≤ d ∧ d < 4096) : or32 (4096 * k) d = 4096 * k + d := by
  rw [or32_nat (by omega) (by omega)]
  have h := Nat.two_pow_add_eq_or_of_lt (i := 12) (b := d.toNat) (by omega) k.toNat
  rw [show (4096 * k).toNat = 2 ^ 12 * k.toNat from by omega, ← h]
  omega
theorem shr12 {x : Int} (hx : 0 ≤ x ∧ x < 1000000) : shr32 x 12 = x / 4096 := by
  unfold shr32
  have e : (Int32.ofInt x >>> (Int32.ofInt 12 &&& 31)) = nI (x.toNat / 2 ^ 12) := by
    have h := pk_shrN (n := x.toNat) (by omega) (Int32.ofInt 12 &&& 31) 12 (by decide)
    rw [← h]
    congr 1
    show Int32.ofInt x = Int32.ofNat x.toNat
    rw [← Int32.toBitVec_inj]
    show BitVec.ofInt 32 x = BitVec.ofNat 32 x.toNat
    rw [← BitVec.ofInt_natCast, Int.toNat_of_nonneg hx.1]
  rw [e]
  have e2 : (nI (x.toNat / 2 ^ 12)).toBitVec.toNat = x.toNat / 4096 := by
    show (BitVec.ofNat 32 (x.toNat / 2 ^ 12)).toNat = _
    rw [BitVec.toNat_ofNat]
    omega
  rw [i32_nat (by rw [e2]; omega), e2]
  omega
theorem and4095 {x : Int} (hx : 0 ≤ x ∧ x < 1000000) : and32 x 4095 = x % 4096 := by
  rw [and32_nat (by omega) (by omega)]
  have h := Nat.and_two_pow_sub_one_eq_mod x.toNat 12
  rw [show (4095 : Int).toNat = 2 ^ 12 - 1 from rfl, h]
  omega
def opc (k d : Int) : Int := or32 (shl32 k 12) d
theorem opc_eq {k d : Int} (hk : 0 ≤ k ∧ k < 128) (hd : 0 ≤ d ∧ d < 4096) : opc k d = 4096 * k + d := by
  unfold opc; rw [shl12 hk, or32_add hk hd]
