/-! matches: the reference -/
def MatR (m : Mem) : Prop := 0 ≤ mI m 31 3336 ∧ mI m 31 3336 ≤ 33 ∧ ∀ j : Int, 0 ≤ j → j < mI m 31 3336 → 0 ≤ mI m 31 (3337 + 34 * j + 0).toNat ∧ 0 ≤ mI m 31 (3337 + 34 * j + 1).toNat ∧ mI m 31 (3337 + 34 * j + 0).toNat + mI m 31 (3337 + 34 * j + 1).toNat ≤ 32
def labR (m : Mem) (j r : Int) : Int := if 0 ≤ r - mI m 31 (3337 + 34 * j + 0).toNat ∧ r - mI m 31 (3337 + 34 * j + 0).toNat < mI m 31 (3337 + 34 * j + 1).toNat then mI m 31 (3337 + 34 * j + (2 + (r - mI m 31 (3337 + 34 * j + 0).toNat))).toNat else -5
def stepR (la nu L : Int) (S : MS) : MS := if 0 ≤ la ∧ (L = 26 ∨ la = L) then (if nu = 1000 then (S.1 + 1, S.2) else (S.1 + 1, S.2.1 + 1, S.2.2.1 + nu, (if S.2.1 = 0 then nu else if nu < S.2.2.2.1 then nu else S.2.2.2.1), (if S.2.1 = 0 then nu else if S.2.2.2.2.1 < nu then nu else S.2.2.2.2.1), (if S.2.1 = 0 then nu else S.2.2.2.2.2.1), nu)) else S
def foldR (lab num : Nat → Int) (L : Int) : Nat → MS
  | 0 => (0, 0, 0, 0, 0, 0, 0)
  | r + 1 => stepR (lab r) (num r) L (foldR lab num L r)
theorem foldR_M {lab num : Nat → Int} {L : Int} (h : ∀ r, -999 ≤ num r ∧ num r ≤ 1000) : ∀ r : Nat, (foldR lab num L r).1 = (foldM lab num L r).1 ∧ (foldR lab num L r).2.1 = (foldM lab num L r).2.1 ∧ (foldR lab num L r).2.2.1 = (foldM lab num L r).2.2.1 ∧ 0 ≤ (foldM lab num L r).2.1 ∧ ((foldM lab num L r).2.1 = 0 → (foldM lab num L r).2.2.1 = 0 ∧ (foldM lab num L r).2.2.2 = ((-9223372036854775808), (-9223372036854775808), (-9223372036854775808), (-9223372036854775808))) ∧ (0 < (foldM lab num L r).2.1 → (foldR lab num L r).2.2.2 = (foldM lab num L r).2.2.2) := by
  intro r
  induction r with
  | zero => simp [foldM, foldR]
  | succ r ih =>
    have hr := h r
    have e1 : foldM lab num L (r + 1) = stepM (lab r) (num r) L (foldM lab num L r) := rfl
    have e2 : foldR lab num L (r + 1) = stepR (lab r) (num r) L (foldR lab num L r) := rfl
    rw [e1, e2]
    generalize foldM lab num L r = S at ih ⊢
    generalize foldR lab num L r = T at ih ⊢
    obtain ⟨s1, s2, s3, s4, s5, s6, s7⟩ := S
    obtain ⟨t1, t2, t3, t4, t5, t6, t7⟩ := T
    simp only [Prod.mk.injEq] at ih
    obtain ⟨rfl, rfl, rfl, i4, i5, i6⟩ := ih
    unfold stepM stepR
    by_cases h1 : 0 ≤ lab r ∧ (L = 26 ∨ lab r = L)
    · rw [if_pos h1, if_pos h1]
      by_cases h2 : num r = 1000
      · rw [if_pos h2, if_pos h2]
        exact ⟨rfl, rfl, rfl, i4, fun e => ⟨(i5 e).1, by have := (i5 e).2; simp only [Prod.mk.injEq]; omega⟩, fun e => by have := i6 e; simp only [Prod.mk.injEq]; omega⟩
      · rw [if_neg h2, if_neg h2]
        refine ⟨rfl, rfl, rfl, by show 0 ≤ t2 + 1; omega, fun e => by have e : t2 + 1 = 0 := e; omega, fun _ => ?_⟩
        by_cases h3 : t2 = 0
        · obtain ⟨j1, j2⟩ := i5 h3
          simp only [Prod.mk.injEq]
          refine ⟨by simp [h3], ?_, by simp [h3], trivial⟩
          simp only [h3, if_true]
          omega
        · have := i6 (by omega)
          simp only [Prod.mk.injEq]
          simp only [h3, if_false]
          refine ⟨by omega, by omega, by omega, trivial⟩
    · rw [if_neg h1, if_neg h1]
      exact ⟨rfl, rfl, rfl, i4, fun e => ⟨(i5 e).1, by have := (i5 e).2; simp only [Prod.mk.injEq]; omega⟩, fun e => by have := i6 e; simp only [Prod.mk.injEq]; omega⟩

def numR (m : Mem) (col : Int) : Nat → Int := fun r => mI m 31 (2 * (r : Int) + col).toNat

theorem foldR_bd {lab num : Nat → Int} {L : Int} (h : ∀ r, -999 ≤ num r ∧ num r ≤ 1000) (r : Nat) : 0 ≤ (foldR lab num L r).1 ∧ (foldR lab num L r).1 ≤ r ∧ 0 ≤ (foldR lab num L r).2.1 ∧ (foldR lab num L r).2.1 ≤ r ∧ -1000 * (r : Int) ≤ (foldR lab num L r).2.2.1 ∧ (foldR lab num L r).2.2.1 ≤ 1000 * (r : Int) := by
  obtain ⟨h1, h2, h3, -⟩ := foldR_M (lab := lab) (L := L) h r
  rw [h1, h2, h3]
  exact foldM_bd h r

theorem tdiv_fl2 {a b : Int} (hb : 0 < b) : a / b = if a < Int.tdiv a b * b then Int.tdiv a b - 1 else Int.tdiv a b := by
  have h := tdiv_fl (a := a) hb
  rw [h]
  rcases Int.le_total 0 a with h0 | h0
  · have e : Int.tdiv a b = a / b := Int.tdiv_eq_ediv_of_nonneg h0
    have h3 := Int.mul_ediv_add_emod a b
    have h4 := Int.emod_nonneg a (by omega : b ≠ 0)
    have h6 : a / b * b = b * (a / b) := Int.mul_comm _ _
    rw [e, if_neg (by omega), if_neg (by omega)]
  · have e : Int.tdiv a b = -((-a) / b) := by
      rw [← Int.neg_neg a, Int.neg_tdiv, Int.tdiv_eq_ediv_of_nonneg (by omega)]
      simp
    have h3 := Int.mul_ediv_add_emod (-a) b
    have h4 := Int.emod_nonneg (-a) (by omega : b ≠ 0)
    have h6 : -(-a / b) * b = -(b * (-a / b)) := by rw [Int.neg_mul, Int.mul_comm]
    have h5 : 0 ≤ b * ((-a) / b) := Int.mul_nonneg (by omega) (Int.ediv_nonneg (by omega) (by omega))
    rw [e]
    by_cases h7 : a < -(-a / b) * b
    · rw [if_pos h7, if_pos (by omega)]
    · rw [if_neg h7, if_neg (by omega)]
theorem tdiv_fl3 {a b : Int} : 0 < b → (a < Int.tdiv a b * b → a / b = Int.tdiv a b - 1) ∧ (Int.tdiv a b * b ≤ a → a / b = Int.tdiv a b) := fun hb => by
  have h := tdiv_fl2 (a := a) hb
  rw [h]
  exact ⟨fun h => if_pos h, fun h => if_neg (by omega)⟩
theorem tdiv_i64 {a b : Int} (hb : 0 < b) (ha : -1000000 ≤ a ∧ a ≤ 1000000) : I64 (Int.tdiv a b) := by
  have := tdiv_bd hb ha
  unfold I64; omega
theorem foldR_M2 {lab num : Nat → Int} {L : Int} (h : ∀ r, -999 ≤ num r ∧ num r ≤ 1000) (r : Nat) : (foldR lab num L r).1 = (foldM lab num L r).1 ∧ (foldR lab num L r).2.1 = (foldM lab num L r).2.1 ∧ (foldR lab num L r).2.2.1 = (foldM lab num L r).2.2.1 ∧ 0 ≤ (foldM lab num L r).2.1 ∧ ((foldM lab num L r).2.1 = 0 → (foldM lab num L r).2.2.1 = 0 ∧ (foldM lab num L r).2.2.2.1 = -9223372036854775808 ∧ (foldM lab num L r).2.2.2.2.1 = -9223372036854775808 ∧ (foldM lab num L r).2.2.2.2.2.1 = -9223372036854775808 ∧ (foldM lab num L r).2.2.2.2.2.2 = -9223372036854775808) ∧ (0 < (foldM lab num L r).2.1 → (foldR lab num L r).2.2.2.1 = (foldM lab num L r).2.2.2.1 ∧ (foldR lab num L r).2.2.2.2.1 = (foldM lab num L r).2.2.2.2.1 ∧ (foldR lab num L r).2.2.2.2.2.1 = (foldM lab num L r).2.2.2.2.2.1 ∧ (foldR lab num L r).2.2.2.2.2.2 = (foldM lab num L r).2.2.2.2.2.2) := by
  obtain ⟨h1, h2, h3, h4, h5, h6⟩ := foldR_M (lab := lab) (L := L) h r
  refine ⟨h1, h2, h3, h4, fun e => ?_, fun e => ?_⟩
  · obtain ⟨a1, a2⟩ := h5 e
    rw [a2]
    exact ⟨a1, rfl, rfl, rfl, rfl⟩
  · rw [h6 e]
    exact ⟨rfl, rfl, rfl, rfl⟩

def foldB (f : Nat → Int) : Nat → Int × Int
  | 0 => (0, 0)
  | k + 1 => (or32 (foldB f k).1 (shl32 1 (f k)), if and32 (foldB f k).1 (shl32 1 (f k)) = 0 then (foldB f k).2 + 1 else (foldB f k).2)
theorem foldB_bd (f : Nat → Int) : ∀ n : Nat, 0 ≤ (foldB f n).2 ∧ (foldB f n).2 ≤ n := by
  intro n
  induction n with
  | zero => simp [foldB]
  | succ n ih =>
    show 0 ≤ (if and32 (foldB f n).1 (shl32 1 (f n)) = 0 then (foldB f n).2 + 1 else (foldB f n).2) ∧ (if and32 (foldB f n).1 (shl32 1 (f n)) = 0 then (foldB f n).2 + 1 else (foldB f n).2) ≤ _
    split <;> omega

