/-! bits 8 -/
theorem swar_pop (x y1 y2 y3 : Nat) (hx : x < 4294967296) (h1 : y1 = x - (x / 2 &&& 1431655765)) (h2 : y2 = (y1 &&& 858993459) + (y1 / 4 &&& 858993459)) (h3 : y3 = (y2 + y2 / 16) &&& 252645135) : ((y3 + y3 / 256) + (y3 + y3 / 256) / 65536) % 64 = popN 32 x ∧ (x / 2 &&& 1431655765) ≤ x ∧ y1 ≤ x ∧ y2 ≤ 1145324612 ∧ y3 ≤ 134744072 := by
  obtain ⟨b0, hb0⟩ : ∃ b, b = x % 256 := ⟨_, rfl⟩
  obtain ⟨b1, hb1⟩ : ∃ b, b = x / 256 % 256 := ⟨_, rfl⟩
  obtain ⟨b2, hb2⟩ : ∃ b, b = x / 65536 % 256 := ⟨_, rfl⟩
  obtain ⟨b3, hb3⟩ : ∃ b, b = x / 16777216 := ⟨_, rfl⟩
  have n0 : b0 < 256 := by omega
  have n1 : b1 < 256 := by omega
  have n2 : b2 < 256 := by omega
  have n3 : b3 < 256 := by omega
  have hxb : x = b0 + 256 * b1 + 65536 * b2 + 16777216 * b3 := by omega
  clear hb0 hb1 hb2 hb3
  have c0 := byte3 ⟨b0, n0⟩
  have c1 := byte3 ⟨b1, n1⟩
  have c2 := byte3 ⟨b2, n2⟩
  have c3 := byte3 ⟨b3, n3⟩
  simp only at c0 c1 c2 c3
  have p : popN 32 x = popN 8 b0 + popN 8 b1 + popN 8 b2 + popN 8 b3 := by
    obtain ⟨q0, -, -, -, q1⟩ := dig4 x b0 b1 b2 b3 n0 n1 n2 hxb
    have q2 : x / 256 % 256 = b1 := by rw [q1]; omega
    have q3 : x / 256 / 256 = b2 + 256 * b3 := by rw [q1]; omega
    have q4 : x / 256 / 256 % 256 = b2 := by rw [q3]; omega
    have q5 : x / 256 / 256 / 256 = b3 := by rw [q3]; omega
    have e : (2 : Nat) ^ 8 = 256 := rfl
    rw [show popN 32 x = popN (8 + (8 + (8 + 8))) x from rfl, popN_add 8 (8 + (8 + 8)), popN_add 8 (8 + 8), popN_add 8 8, e, q0, q2, q4, q5]
    omega
  obtain ⟨hy1, hle⟩ := sw_y1 x y1 b0 b1 b2 b3 n0 n1 n2 n3 hxb h1
  have s0 : sw1 b0 < 256 := by unfold sw1; omega
  have s1 : sw1 b1 < 256 := by unfold sw1; omega
  have s2 : sw1 b2 < 256 := by unfold sw1; omega
  have s3 : sw1 b3 < 256 := by unfold sw1; omega
  have hy2 := sw_y2 y1 y2 _ _ _ _ s0 s1 s2 s3 hy1 h2
  have hy3 := sw_y3 y2 y3 _ _ _ _ c0.2 c1.2 c2.2 c3.2 hy2 h3
  have hyx : y1 ≤ x := by omega
  clear hy1 h1 h2 h3 hxb
  rw [p, ← c0.1, ← c1.1, ← c2.1, ← c3.1]
  generalize sw2 (sw1 b0) = t0 at *
  generalize sw2 (sw1 b1) = t1 at *
  generalize sw2 (sw1 b2) = t2 at *
  generalize sw2 (sw1 b3) = t3 at *
  have k0 := c0.2
  have k1 := c1.2
  have k2 := c2.2
  have k3 := c3.2
  clear c0 c1 c2 c3
  refine ⟨sw_end y3 _ _ _ _ (by omega) (by omega) (by omega) (by omega) hy3, hle, hyx, by omega, by omega⟩
theorem and_bit (x k : Nat) : (x &&& 2 ^ k = 0 ↔ x / 2 ^ k % 2 = 0) := by
  have h : x.testBit k = decide (x / 2 ^ k % 2 = 1) := Nat.testBit_eq_decide_div_mod_eq
  constructor
  · intro e
    have h1 : (x &&& 2 ^ k).testBit k = false := by rw [e]; exact Nat.zero_testBit k
    rw [Nat.testBit_and, Nat.testBit_two_pow_self, Bool.and_true, h] at h1
    have := of_decide_eq_false h1
    omega
  · intro e
    apply Nat.eq_of_testBit_eq
    intro j
    rw [Nat.testBit_and, Nat.testBit_two_pow, Nat.zero_testBit]
    by_cases c : k = j
    · subst c
      rw [h, decide_eq_false (by omega)]
      rfl
    · simp [c]
theorem or_bit0 (x k : Nat) (hx : x < 2 ^ 32) (hk : k < 32) (h : x &&& 2 ^ k = 0) : x ||| 2 ^ k = x + 2 ^ k := by
  have h2 : (BitVec.ofNat 33 x) &&& (BitVec.ofNat 33 (2 ^ k)) = 0#33 := by
    apply BitVec.eq_of_toNat_eq
    rw [BitVec.toNat_and, BitVec.toNat_ofNat, BitVec.toNat_ofNat, Nat.mod_eq_of_lt (by omega), Nat.mod_eq_of_lt (Nat.pow_lt_pow_right (by decide) (by omega)), h]
    rfl
  have h3 := congrArg BitVec.toNat (BitVec.add_eq_or_of_and_eq_zero _ _ h2)
  have p : 2 ^ k ≤ 2 ^ 31 := Nat.pow_le_pow_right (by decide) (by omega)
  rw [BitVec.toNat_or, BitVec.toNat_add, BitVec.toNat_ofNat, BitVec.toNat_ofNat, Nat.mod_eq_of_lt (a := x) (by omega), Nat.mod_eq_of_lt (a := 2 ^ k) (by omega), Nat.mod_eq_of_lt (by omega)] at h3
  exact h3.symm
theorem or_bit1 (x k : Nat) (h : x &&& 2 ^ k ≠ 0) : x ||| 2 ^ k = x := by
  apply Nat.eq_of_testBit_eq
  intro j
  rw [Nat.testBit_or, Nat.testBit_two_pow]
  by_cases c : k = j
  · subst c
    have h1 : x.testBit k = decide (x / 2 ^ k % 2 = 1) := Nat.testBit_eq_decide_div_mod_eq
    have h2 : ¬ (x / 2 ^ k % 2 = 0) := fun e => h ((and_bit x k).mpr e)
    rw [h1, decide_eq_true (by omega)]
    rfl
  · simp [c]
theorem foldB_pop (f : Nat → Int) (n : Nat) (hf : ∀ k, k < n → 0 ≤ f k ∧ f k ≤ 25) : ∀ q, q ≤ n → 0 ≤ (foldB f q).1 ∧ (foldB f q).1 < 67108864 ∧ (foldB f q).2 = (popN 32 (foldB f q).1.toNat : Int) := by
  intro q
  induction q with
  | zero =>
    intro _
    show (0 : Int) ≤ 0 ∧ (0 : Int) < 67108864 ∧ (0 : Int) = (popN 32 (0 : Int).toNat : Int)
    exact ⟨by decide, by decide, by decide +kernel⟩
  | succ q ih =>
    intro hq
    obtain ⟨i1, i2, i3⟩ := ih (by omega)
    have hk := hf q (by omega)
    have e : foldB f (q + 1) = (or32 (foldB f q).1 (shl32 1 (f q)), if and32 (foldB f q).1 (shl32 1 (f q)) = 0 then (foldB f q).2 + 1 else (foldB f q).2) := rfl
    rw [e]
    generalize foldB f q = S at i1 i2 i3 ⊢
    obtain ⟨b, c⟩ := S
    simp only at i1 i2 i3 ⊢
    rw [shl32_one hk]
    generalize hk' : (f q).toNat = k at *
    have p : 2 ^ k ≤ 2 ^ 25 := Nat.pow_le_pow_right (by decide) (by omega)
    have p1 : (2 ^ 25 : Nat) = 33554432 := by decide
    rw [p1] at p
    have pI : (0 : Int) ≤ ((2 ^ k : Nat) : Int) ∧ ((2 ^ k : Nat) : Int) < 2147483648 := ⟨Int.natCast_nonneg _, Int.ofNat_lt.mpr (Nat.lt_of_le_of_lt p (by decide))⟩
    rw [or32_nat ⟨i1, by omega⟩ pI, and32_nat ⟨i1, by omega⟩ pI, Int.toNat_natCast]
    have l : b.toNat ||| 2 ^ k < 2 ^ 26 := Nat.or_lt_two_pow (by omega) (by omega)
    have p2 : (2 ^ 26 : Nat) = 67108864 := by decide
    rw [p2] at l
    refine ⟨by omega, by omega, ?_⟩
    rw [Int.toNat_natCast]
    by_cases h : b.toNat &&& 2 ^ k = 0
    · rw [if_pos (by omega), or_bit0 _ _ (by omega) (by omega) h, popN_bit k 32 _ (by omega) ((and_bit _ _).mp h), i3]
      rfl
    · rw [if_neg (by omega), or_bit1 _ _ h, i3]
