/-! measures: the folds; the loops of class and reference -/
abbrev MS : Type := Int × Int × Int × Int × Int × Int × Int
def stepM (la nu L : Int) (S : MS) : MS := if 0 ≤ la ∧ (L = 26 ∨ la = L) then (if nu = 1000 then (S.1 + 1, S.2) else (S.1 + 1, S.2.1 + 1, S.2.2.1 + nu, (if S.2.1 = 0 then nu else if nu < S.2.2.2.1 then nu else S.2.2.2.1), (if S.2.2.2.2.1 < nu then nu else S.2.2.2.2.1), (if S.2.1 = 0 then nu else S.2.2.2.2.2.1), nu)) else S
def foldM (lab num : Nat → Int) (L : Int) : Nat → MS
  | 0 => (0, 0, 0, (-9223372036854775808), (-9223372036854775808), (-9223372036854775808), (-9223372036854775808))
  | r + 1 => stepM (lab r) (num r) L (foldM lab num L r)
theorem foldM_bd {lab num : Nat → Int} {L : Int} (h : ∀ r, -999 ≤ num r ∧ num r ≤ 1000) : ∀ r : Nat, 0 ≤ (foldM lab num L r).1 ∧ (foldM lab num L r).1 ≤ r ∧ 0 ≤ (foldM lab num L r).2.1 ∧ (foldM lab num L r).2.1 ≤ r ∧ -1000 * (r : Int) ≤ (foldM lab num L r).2.2.1 ∧ (foldM lab num L r).2.2.1 ≤ 1000 * (r : Int) := by
  intro r
  induction r with
  | zero => simp [foldM]
  | succ r ih =>
    have hr := h r
    show 0 ≤ (stepM (lab r) (num r) L (foldM lab num L r)).1 ∧ _
    have e : foldM lab num L (r + 1) = stepM (lab r) (num r) L (foldM lab num L r) := rfl
    rw [e]
    generalize foldM lab num L r = S at ih ⊢
    obtain ⟨s1, s2, s3, s4⟩ := S
    simp only at ih
    unfold stepM
    split
    · split
      · exact ⟨by simp only; omega, by simp only; omega, by simp only; omega, by simp only; omega, by simp only; omega, by simp only; omega⟩
      · exact ⟨by simp only; omega, by simp only; omega, by simp only; omega, by simp only; omega, by simp only; omega, by simp only; omega⟩
    · exact ⟨by simp only; omega, by simp only; omega, by simp only; omega, by simp only; omega, by simp only; omega, by simp only; omega⟩
def measM (S : MS) (w : Int) : Int := if w = 0 then S.1 else if w = 1 then S.2.2.1 else if w = 2 then S.2.2.2.1 else if w = 3 then S.2.2.2.2.1 else if w = 4 then S.2.2.2.2.2.1 else if w = 5 then S.2.2.2.2.2.2 else if S.2.1 = 0 then (-9223372036854775808) else S.2.2.1 / S.2.1
def labC (m : Mem) (c : Nat) (j : Int) : Nat → Int := fun r => mI m c (j * 32 + (r : Int)).toNat
def numC (m : Mem) (t b : Nat) (col : Int) : Nat → Int := fun r => if (r : Int) < mI m t 1 then mI m b ((r : Int) * 2 + col).toNat else 1000

theorem xor64_neg {x y : Int} (hx : I64 x) (hy : 0 ≤ y) (hy2 : I64 y) : xor64 x y < 0 ↔ x < 0 := by
  have h : ∀ z : Int64, z.toInt < 0 ↔ z.toBitVec.msb = true := fun z => by
    rw [BitVec.msb_eq_toInt]
    exact (decide_eq_true_iff).symm
  have ex : (Int64.ofInt x).toInt = x := Int64.toInt_ofInt_of_le (by unfold I64 at hx; omega) (by unfold I64 at hx; omega)
  have ey : (Int64.ofInt y).toInt = y := Int64.toInt_ofInt_of_le (by omega) (by unfold I64 at hy2; omega)
  have hy' : (Int64.ofInt y).toBitVec.msb = false := by
    cases hm : (Int64.ofInt y).toBitVec.msb with
    | false => rfl
    | true => exact absurd ((h _).mpr hm) (by rw [ey]; omega)
  unfold xor64
  rw [h, Int64.toBitVec_xor, BitVec.msb_xor, hy', Bool.xor_false, ← h, ex]

theorem tdiv_fl {a b : Int} (hb : 0 < b) : a / b = if a < 0 ∧ Int.tdiv a b * b ≠ a then Int.tdiv a b - 1 else Int.tdiv a b := by
  have h1 := Int.ediv_emod_unique (a := a) (b := b) (r := a % b) (q := a / b) hb
  have e1 : b * (a / b) + a % b = a := Int.mul_ediv_add_emod a b
  have e2 := Int.emod_nonneg a (by omega : b ≠ 0)
  have e3 := Int.emod_lt_of_pos a hb
  by_cases ha : a < 0
  · have t1 : Int.tdiv a b = -((-a) / b) := by
      rw [← Int.neg_neg a, Int.neg_tdiv, Int.tdiv_eq_ediv_of_nonneg (by omega)]
      simp
    have f1 : b * ((-a) / b) + (-a) % b = -a := Int.mul_ediv_add_emod (-a) b
    have f2 := Int.emod_nonneg (-a) (by omega : b ≠ 0)
    have f3 := Int.emod_lt_of_pos (-a) hb
    rw [t1]
    generalize (-a) / b = q at *
    generalize (-a) % b = r at *
    have hq : (-q) * b = -(b * q) := by rw [Int.neg_mul, Int.mul_comm]
    by_cases hr : r = 0
    · have he : -q * b = a := by omega
      rw [if_neg (by omega)]
      refine Int.ediv_eq_of_eq_mul_left (by omega) ?_
      omega
    · rw [if_pos ⟨ha, by omega⟩]
      have : a / b = -q - 1 ∧ a % b = b - r := (Int.ediv_emod_unique hb).mpr ⟨by
        have : b * (-q - 1) = -(b * q) - b := by rw [Int.mul_sub, Int.mul_neg, Int.mul_one]
        omega, by omega, by omega⟩
      exact this.1
  · rw [if_neg (by omega), Int.tdiv_eq_ediv_of_nonneg (by omega)]
theorem tdiv_bd {a b : Int} (hb : 0 < b) (ha : -1000000 ≤ a ∧ a ≤ 1000000) : -1000000 ≤ Int.tdiv a b ∧ Int.tdiv a b ≤ 1000000 ∧ -1000000 ≤ Int.tdiv a b * b ∧ Int.tdiv a b * b ≤ 1000000 := by
  have h := Int.mul_tdiv_add_tmod a b
  rw [Int.mul_comm]
  rcases Int.le_total 0 a with h0 | h0
  · have e : Int.tdiv a b = a / b := Int.tdiv_eq_ediv_of_nonneg h0
    have h1 := Int.ediv_nonneg h0 (by omega : 0 ≤ b)
    have h2 := Int.ediv_le_self b h0
    have h3 := Int.mul_ediv_add_emod a b
    have h4 := Int.emod_nonneg a (by omega : b ≠ 0)
    have h5 : 0 ≤ b * (a / b) := Int.mul_nonneg (by omega) h1
    rw [e]
    omega
  · have e : Int.tdiv a b = -((-a) / b) := by
      rw [← Int.neg_neg a, Int.neg_tdiv, Int.tdiv_eq_ediv_of_nonneg (by omega)]
      simp
    have h1 := Int.ediv_nonneg (by omega : 0 ≤ -a) (by omega : 0 ≤ b)
    have h2 := Int.ediv_le_self b (by omega : 0 ≤ -a)
    have h3 := Int.mul_ediv_add_emod (-a) b
    have h4 := Int.emod_nonneg (-a) (by omega : b ≠ 0)
    have h5 : 0 ≤ b * ((-a) / b) := Int.mul_nonneg (by omega) h1
    have h6 : b * -(-a / b) = -(b * (-a / b)) := Int.mul_neg _ _
    rw [e]
    omega

def covF (f : Nat → Int) : Nat → Int
  | 0 => 0
  | n + 1 => if 0 ≤ f n then covF f n + 1 else covF f n
theorem covF_bd (f : Nat → Int) : ∀ n : Nat, 0 ≤ covF f n ∧ covF f n ≤ n := by
  intro n
  induction n with
  | zero => simp [covF]
  | succ n ih =>
    unfold covF
    split <;> omega
def bitsF (f : Nat → Int) : Nat → Int
  | 0 => 0
  | n + 1 => if 0 ≤ f n then or32 (bitsF f n) (shl32 1 (f n)) else bitsF f n

set_option maxHeartbeats 4000000 in
theorem L_covering {F : Nat} {m0 m : Mem} {post : Option AV → Mem → Prop} {t c n : Nat} {r : Int} (T_t : mT m t = (3, 4)) (R_t_2 : mR m t 2 = some c) (T_c : mT m c = (20, 1056)) (hn : (n : Int) = mI m t 3) (hn3 : n ≤ 33) (hr : 0 ≤ r ∧ r < 32) (kx : V μX3_covering (F + 2) m0 post 30 [(3, vi ((n : Nat) : Int)), (2, vi (covF (fun j_ : Nat => mI m c ((j_ : Int) * 32 + r).toNat) n)), (0, vr t), (1, vi r)] [] m) : ∀ (dd i : Nat), dd + i = n → V μX3_covering (F + 2) m0 post 4 [(3, vi ((i : Nat) : Int)), (2, vi (covF (fun j_ : Nat => mI m c ((j_ : Int) * 32 + r).toNat) i)), (0, vr t), (1, vi r)] [] m := by
  intro dd
  induction dd with
  | zero =>
    intro i hi
    obtain rfl : n = i := by omega
    have hb_ := covF_bd (fun j_ : Nat => mI m c ((j_ : Int) * 32 + r).toNat) n
    refine V_ld (pc := 4) dX3_covering_4 (v := vi ((n : Nat) : Int)) rfl rfl ?_
    refine V_ld (pc := 5) dX3_covering_5 (v := vr t) rfl rfl ?_
    refine V_getIv (pc := 6) dX3_covering_6 (v := mI m t 3) fw_RX3_21 rfl T_t rfl (fun g6 => ?_)
    refine V_icmp_ge (pc := 9) dX3_covering_9 (tgt := 30) rfl (fun h9 => ?_) (fun h9 => ?_)
    · skip
      first | exact kx | (skip; exact kx) | (exfalso; omega)
    · skip
      exfalso; omega
  | succ dd ih =>
    intro i hi
    have hb_ := covF_bd (fun j_ : Nat => mI m c ((j_ : Int) * 32 + r).toNat) i
    refine V_ld (pc := 4) dX3_covering_4 (v := vi ((i : Nat) : Int)) rfl rfl ?_
    refine V_ld (pc := 5) dX3_covering_5 (v := vr t) rfl rfl ?_
    refine V_getIv (pc := 6) dX3_covering_6 (v := mI m t 3) fw_RX3_21 rfl T_t rfl (fun g6 => ?_)
    refine V_icmp_ge (pc := 9) dX3_covering_9 (tgt := 30) rfl (fun h9 => ?_) (fun h9 => ?_)
    · skip
      exfalso; omega
    · skip
      refine V_ld (pc := 12) dX3_covering_12 (v := vr t) rfl rfl ?_
      refine V_ld (pc := 13) dX3_covering_13 (v := vi ((i : Nat) : Int)) rfl rfl ?_
      refine V_ld (pc := 14) dX3_covering_14 (v := vi r) rfl rfl ?_
      refine V_callV (pc := 15) dX3_covering_15 (F' := 1) (As := [vi ((i : Nat) : Int), vi r]) (st := []) cw_RX3_41 rfl rfl T_t (by decide) (Nat.le_of_ble_eq_true rfl) (by omega) (c_letterOf  m t ((i : Nat) : Int) r c  T_t R_t_2 T_c) ?_
      rintro _ _ ⟨x15, rfl, hx15, rfl⟩ ok15 le15
      refine V_if_lt (pc := 18) dX3_covering_18 (tgt := 24) rfl (fun h18 => ?_) (fun h18 => ?_)
      · skip
        refine V_iinc (pc := 24) dX3_covering_24 (x := ((i : Nat) : Int)) (ls' := [(3, vi (((i : Nat) : Int) + 1)), (2, vi (covF (fun j_ : Nat => mI m c ((j_ : Int) * 32 + r).toNat) i)), (0, vr t), (1, vi r)]) rfl (by unfold I32 at *; omega) (Nat.le_of_ble_eq_true rfl) rfl ?_
        refine V_goto (pc := 27) dX3_covering_27 (tgt := 4) rfl ?_
        have ela : (mI m c ((i : Int) * 32 + r).toNat) = x15 := by omega
        have e_ : covF (fun j_ : Nat => mI m c ((j_ : Int) * 32 + r).toNat) (i + 1) = covF (fun j_ : Nat => mI m c ((j_ : Int) * 32 + r).toNat) i := by
          show (if 0 ≤ (mI m c ((i : Int) * 32 + r).toNat) then covF (fun j_ : Nat => mI m c ((j_ : Int) * 32 + r).toNat) i + 1 else covF (fun j_ : Nat => mI m c ((j_ : Int) * 32 + r).toNat) i) = _
          rw [ela]
          first
            | (exfalso; omega)
            | exact if_pos (by omega)
            | exact if_neg (by omega)
        have h_ := ih (i + 1) (by omega)
        rw [e_] at h_
        skip
        exact h_
      · skip
        refine V_iinc (pc := 21) dX3_covering_21 (x := (covF (fun j_ : Nat => mI m c ((j_ : Int) * 32 + r).toNat) i)) (ls' := [(2, vi ((covF (fun j_ : Nat => mI m c ((j_ : Int) * 32 + r).toNat) i) + 1)), (3, vi ((i : Nat) : Int)), (0, vr t), (1, vi r)]) rfl (by unfold I32 at *; omega) (Nat.le_of_ble_eq_true rfl) rfl ?_
        refine V_iinc (pc := 24) dX3_covering_24 (x := ((i : Nat) : Int)) (ls' := [(3, vi (((i : Nat) : Int) + 1)), (2, vi ((covF (fun j_ : Nat => mI m c ((j_ : Int) * 32 + r).toNat) i) + 1)), (0, vr t), (1, vi r)]) rfl (by unfold I32 at *; omega) (Nat.le_of_ble_eq_true rfl) rfl ?_
        refine V_goto (pc := 27) dX3_covering_27 (tgt := 4) rfl ?_
        have ela : (mI m c ((i : Int) * 32 + r).toNat) = x15 := by omega
        have e_ : covF (fun j_ : Nat => mI m c ((j_ : Int) * 32 + r).toNat) (i + 1) = (covF (fun j_ : Nat => mI m c ((j_ : Int) * 32 + r).toNat) i) + 1 := by
          show (if 0 ≤ (mI m c ((i : Int) * 32 + r).toNat) then covF (fun j_ : Nat => mI m c ((j_ : Int) * 32 + r).toNat) i + 1 else covF (fun j_ : Nat => mI m c ((j_ : Int) * 32 + r).toNat) i) = _
          rw [ela]
          first
            | (exfalso; omega)
            | exact if_pos (by omega)
            | exact if_neg (by omega)
        have h_ := ih (i + 1) (by omega)
        rw [e_] at h_
        skip
        exact h_

set_option maxHeartbeats 4000000 in
theorem c_covering  (m : Mem) (t : Nat) (r : Int) (c : Nat)  (T_t : mT m t = (3, 4)) (R_t_2 : mR m t 2 = some c) (T_c : mT m c = (20, 1056)) (hn : 0 ≤ mI m t 3 ∧ mI m t 3 ≤ 33) (hr : 0 ≤ r ∧ r < 32) : Ct μX3_covering 2 [vr t, vi r] m (ri fun x_ m' => (x_ = covF (fun j_ : Nat => mI m c ((j_ : Int) * 32 + r).toNat) (mI m t 3).toNat) ∧ m = m') := by
  refine Ct_of_V rfl (by decide) rfl (Nat.le_of_ble_eq_true rfl) ?_
  show V μX3_covering 2 m _ 0 [(0, vr t), (1, vi r)] [] m
  refine V_rg (k := 1) (x := r) rfl fun r_r => ?_
  refine V_iconst (pc := 0) dX3_covering_0 (by unfold I32; omega) ?_
  refine V_st (pc := 1) dX3_covering_1 (ls' := [(2, vi 0), (0, vr t), (1, vi r)]) rfl (Nat.le_of_ble_eq_true rfl) rfl ?_
  refine V_iconst (pc := 2) dX3_covering_2 (by unfold I32; omega) ?_
  refine V_st (pc := 3) dX3_covering_3 (ls' := [(3, vi 0), (2, vi 0), (0, vr t), (1, vi r)]) rfl (Nat.le_of_ble_eq_true rfl) rfl ?_
  skip
  refine L_covering (F := 0) (m := m) (t := t) (c := c) (r := r) (n := (mI m t 3).toNat) T_t R_t_2 T_c (by omega) (by omega) hr ?_ (mI m t 3).toNat 0 (by omega)
  refine V_ld (pc := 30) dX3_covering_30 (v := vi (covF (fun j_ : Nat => mI m c ((j_ : Int) * 32 + r).toNat) ((mI m t 3).toNat))) rfl rfl ?_
  refine V_reti (pc := 31) dX3_covering_31 trivial ?_
  exact ⟨rfl, rfl⟩

set_option maxHeartbeats 4000000 in
theorem L_lettersOf {F : Nat} {m0 m : Mem} {post : Option AV → Mem → Prop} {t c : Nat} {j : Int} (T_t : mT m t = (3, 4)) (R_t_2 : mR m t 2 = some c) (T_c : mT m c = (20, 1056)) (hj : 0 ≤ j ∧ j < mI m t 3 ∧ j < 33) (kx : V μX3_lettersOf (F + 2) m0 post 36 [(3, vi ((32 : Nat) : Int)), (2, vi (bitsF (labC m c j) 32)), (0, vr t), (1, vi j)] [] m) : ∀ (dd i : Nat), dd + i = 32 → V μX3_lettersOf (F + 2) m0 post 4 [(3, vi ((i : Nat) : Int)), (2, vi (bitsF (labC m c j) i)), (0, vr t), (1, vi j)] [] m := by
  intro dd
  induction dd with
  | zero =>
    intro i hi
    obtain rfl : 32 = i := by omega
    refine V_ld (pc := 4) dX3_lettersOf_4 (v := vi ((32 : Nat) : Int)) rfl rfl ?_
    refine V_bipush (pc := 5) dX3_lettersOf_5 (by unfold I32; omega) (by decide) ?_
    refine V_icmp_ge (pc := 7) dX3_lettersOf_7 (tgt := 36) rfl (fun h7 => ?_) (fun h7 => ?_)
    · skip
      first | exact kx | (skip; exact kx) | (exfalso; omega)
    · skip
      exfalso; omega
  | succ dd ih =>
    intro i hi
    refine V_ld (pc := 4) dX3_lettersOf_4 (v := vi ((i : Nat) : Int)) rfl rfl ?_
    refine V_bipush (pc := 5) dX3_lettersOf_5 (by unfold I32; omega) (by decide) ?_
    refine V_icmp_ge (pc := 7) dX3_lettersOf_7 (tgt := 36) rfl (fun h7 => ?_) (fun h7 => ?_)
    · skip
      exfalso; omega
    · skip
      refine V_ld (pc := 10) dX3_lettersOf_10 (v := vr t) rfl rfl ?_
      refine V_ld (pc := 11) dX3_lettersOf_11 (v := vi j) rfl rfl ?_
      refine V_ld (pc := 12) dX3_lettersOf_12 (v := vi ((i : Nat) : Int)) rfl rfl ?_
      refine V_callV (pc := 13) dX3_lettersOf_13 (F' := 1) (As := [vi j, vi ((i : Nat) : Int)]) (st := []) cw_RX3_41 rfl rfl T_t (by decide) (Nat.le_of_ble_eq_true rfl) (by omega) (c_letterOf  m t j ((i : Nat) : Int) c  T_t R_t_2 T_c) ?_
      rintro _ _ ⟨x13, rfl, hx13, rfl⟩ ok13 le13
      refine V_st (pc := 16) dX3_lettersOf_16 (ls' := [(4, vi x13), (3, vi ((i : Nat) : Int)), (2, vi (bitsF (labC m c j) i)), (0, vr t), (1, vi j)]) rfl (Nat.le_of_ble_eq_true rfl) rfl ?_
      refine V_ld (pc := 18) dX3_lettersOf_18 (v := vi x13) rfl rfl ?_
      refine V_if_lt (pc := 20) dX3_lettersOf_20 (tgt := 30) rfl (fun h20 => ?_) (fun h20 => ?_)
      · skip
        refine V_iinc (pc := 30) dX3_lettersOf_30 (x := ((i : Nat) : Int)) (ls' := [(3, vi (((i : Nat) : Int) + 1)), (4, vi x13), (2, vi (bitsF (labC m c j) i)), (0, vr t), (1, vi j)]) rfl (by unfold I32 at *; omega) (Nat.le_of_ble_eq_true rfl) rfl ?_
        refine V_goto (pc := 33) dX3_lettersOf_33 (tgt := 4) rfl ?_
        have ela : (mI m c (j * 32 + (i : Int)).toNat) = x13 := by omega
        have e_ : bitsF (labC m c j) (i + 1) = bitsF (labC m c j) i := by
          show (if 0 ≤ (mI m c (j * 32 + (i : Int)).toNat) then or32 (bitsF (labC m c j) i) (shl32 1 (mI m c (j * 32 + (i : Int)).toNat)) else bitsF (labC m c j) i) = _
          rw [ela]
          first
            | (exfalso; omega)
            | exact if_pos (by omega)
            | exact if_neg (by omega)
        have h_ := ih (i + 1) (by omega)
        rw [e_] at h_
        refine V_ls (ls' := [(3, vi (((i : Nat) : Int) + 1)), (2, vi (bitsF (labC m c j) i)), (0, vr t), (1, vi j)]) (by intro q_ h_; simp only [List.mem_cons, List.not_mem_nil, or_false] at h_ ⊢; rcases h_ with rfl | rfl | rfl | rfl <;> simp) ?_
        exact h_
      · skip
        refine V_ld (pc := 23) dX3_lettersOf_23 (v := vi (bitsF (labC m c j) i)) rfl rfl ?_
        refine V_iconst (pc := 24) dX3_lettersOf_24 (by unfold I32; omega) ?_
        refine V_ld (pc := 25) dX3_lettersOf_25 (v := vi x13) rfl rfl ?_
        refine V_ishl (pc := 27) dX3_lettersOf_27 ?_
        refine V_ior (pc := 28) dX3_lettersOf_28 ?_
        refine V_st (pc := 29) dX3_lettersOf_29 (ls' := [(2, vi (or32 (bitsF (labC m c j) i) (shl32 1 x13))), (4, vi x13), (3, vi ((i : Nat) : Int)), (0, vr t), (1, vi j)]) rfl (Nat.le_of_ble_eq_true rfl) rfl ?_
        refine V_iinc (pc := 30) dX3_lettersOf_30 (x := ((i : Nat) : Int)) (ls' := [(3, vi (((i : Nat) : Int) + 1)), (2, vi (or32 (bitsF (labC m c j) i) (shl32 1 x13))), (4, vi x13), (0, vr t), (1, vi j)]) rfl (by unfold I32 at *; omega) (Nat.le_of_ble_eq_true rfl) rfl ?_
        refine V_goto (pc := 33) dX3_lettersOf_33 (tgt := 4) rfl ?_
        have ela : (mI m c (j * 32 + (i : Int)).toNat) = x13 := by omega
        have e_ : bitsF (labC m c j) (i + 1) = or32 (bitsF (labC m c j) i) (shl32 1 x13) := by
          show (if 0 ≤ (mI m c (j * 32 + (i : Int)).toNat) then or32 (bitsF (labC m c j) i) (shl32 1 (mI m c (j * 32 + (i : Int)).toNat)) else bitsF (labC m c j) i) = _
          rw [ela]
          first
            | (exfalso; omega)
            | exact if_pos (by omega)
            | exact if_neg (by omega)
        have h_ := ih (i + 1) (by omega)
        rw [e_] at h_
        refine V_ls (ls' := [(3, vi (((i : Nat) : Int) + 1)), (2, vi (or32 (bitsF (labC m c j) i) (shl32 1 x13))), (0, vr t), (1, vi j)]) (by intro q_ h_; simp only [List.mem_cons, List.not_mem_nil, or_false] at h_ ⊢; rcases h_ with rfl | rfl | rfl | rfl <;> simp) ?_
        exact h_

set_option maxHeartbeats 4000000 in
theorem c_lettersOf  (m : Mem) (t : Nat) (j : Int) (c : Nat)  (T_t : mT m t = (3, 4)) (R_t_2 : mR m t 2 = some c) (T_c : mT m c = (20, 1056)) (hj : 0 ≤ j ∧ j < mI m t 3 ∧ j < 33) : Ct μX3_lettersOf 2 [vr t, vi j] m (ri fun x_ m' => (x_ = bitsF (labC m c j) 32) ∧ m = m') := by
  refine Ct_of_V rfl (by decide) rfl (Nat.le_of_ble_eq_true rfl) ?_
  show V μX3_lettersOf 2 m _ 0 [(0, vr t), (1, vi j)] [] m
  refine V_rg (k := 1) (x := j) rfl fun r_j => ?_
  refine V_iconst (pc := 0) dX3_lettersOf_0 (by unfold I32; omega) ?_
  refine V_st (pc := 1) dX3_lettersOf_1 (ls' := [(2, vi 0), (0, vr t), (1, vi j)]) rfl (Nat.le_of_ble_eq_true rfl) rfl ?_
  refine V_iconst (pc := 2) dX3_lettersOf_2 (by unfold I32; omega) ?_
  refine V_st (pc := 3) dX3_lettersOf_3 (ls' := [(3, vi 0), (2, vi 0), (0, vr t), (1, vi j)]) rfl (Nat.le_of_ble_eq_true rfl) rfl ?_
  skip
  refine L_lettersOf (F := 0) (m := m) (t := t) (c := c) (j := j) T_t R_t_2 T_c hj ?_ 32 0 (by omega)
  refine V_ld (pc := 36) dX3_lettersOf_36 (v := vi (bitsF (labC m c j) 32)) rfl rfl ?_
  refine V_reti (pc := 37) dX3_lettersOf_37 trivial ?_
  exact ⟨rfl, rfl⟩
