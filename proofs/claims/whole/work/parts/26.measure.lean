/-! measures: the folds; the loops of class and reference -/
abbrev MS : Type := Int × Int × Int × Int × Int × Int × Int
def stepM (la nu L : Int) (S : MS) : MS := if 0 ≤ la ∧ (L = 26 ∨ la = L) then (if nu = 1000 then (S.1 + 1, S.2) else (S.1 + 1, S.2.1 + 1, S.2.2.1 + nu, (if S.2.1 = 0 then nu else if nu < S.2.2.2.1 then nu else S.2.2.2.1), (if S.2.2.2.2.1 < nu then nu else S.2.2.2.2.1), (if S.2.1 = 0 then nu else S.2.2.2.2.2.1), nu)) else S
def foldM (lab num : Nat → Int) (L : Int) : Nat → MS
  | 0 => (0, 0, 0, (-9223372036854775808), (-9223372036854775808), (-9223372036854775808), (-9223372036854775808))
  | r + 1 => stepM (lab r) (num r) L (foldM lab num L r)
theorem foldM_bd {lab num : Nat → Int} {L : Int} (h : ∀ r, -999 ≤ num r ∧ num r ≤ 1000) : ∀ r : Nat, 0 ≤ (foldM lab num L r).1 ∧ (foldM lab num L r).1 ≤ r ∧ 0 ≤ (foldM lab num L r).2.1 ∧ (foldM lab num L r).2.1 ≤ r ∧ -1000 * (r : Int) ≤ (foldM lab num L r).2.2.1 ∧ (foldM lab num L r).2.2.1 ≤ 1000 * (r : Int) := by
  intro r
  induction r with
  | zero => simp [foldM]
  | succ r ih =>
    have hr := h r
    show 0 ≤ (stepM (lab r) (num r) L (foldM lab num L r)).1 ∧ _
    have e : foldM lab num L (r + 1) = stepM (lab r) (num r) L (foldM lab num L r) := rfl
    rw [e]
    generalize foldM lab num L r = S at ih ⊢
    obtain ⟨s1, s2, s3, s4⟩ := S
    simp only at ih
    unfold stepM
    split
    · split
      · exact ⟨by simp only; omega, by simp only; omega, by simp only; omega, by simp only; omega, by simp only; omega, by simp only; omega⟩
      · exact ⟨by simp only; omega, by simp only; omega, by simp only; omega, by simp only; omega, by simp only; omega, by simp only; omega⟩
    · exact ⟨by simp only; omega, by simp only; omega, by simp only; omega, by simp only; omega, by simp only; omega, by simp only; omega⟩
def measM (S : MS) (w : Int) : Int := if w = 0 then S.1 else if w = 1 then S.2.2.1 else if w = 2 then S.2.2.2.1 else if w = 3 then S.2.2.2.2.1 else if w = 4 then S.2.2.2.2.2.1 else if w = 5 then S.2.2.2.2.2.2 else if S.2.1 = 0 then (-9223372036854775808) else S.2.2.1 / S.2.1
def labC (m : Mem) (c : Nat) (j : Int) : Nat → Int := fun r => mI m c (j * 32 + (r : Int)).toNat
def numC (m : Mem) (t b : Nat) (col : Int) : Nat → Int := fun r => if (r : Int) < mI m t 1 then mI m b ((r : Int) * 2 + col).toNat else 1000

theorem xor64_neg {x y : Int} (hx : I64 x) (hy : 0 ≤ y) (hy2 : I64 y) : xor64 x y < 0 ↔ x < 0 := by
  have h : ∀ z : Int64, z.toInt < 0 ↔ z.toBitVec.msb = true := fun z => by
    rw [BitVec.msb_eq_toInt]
    exact (decide_eq_true_iff).symm
  have ex : (Int64.ofInt x).toInt = x := Int64.toInt_ofInt_of_le (by unfold I64 at hx; omega) (by unfold I64 at hx; omega)
  have ey : (Int64.ofInt y).toInt = y := Int64.toInt_ofInt_of_le (by omega) (by unfold I64 at hy2; omega)
  have hy' : (Int64.ofInt y).toBitVec.msb = false := by
    cases hm : (Int64.ofInt y).toBitVec.msb with
    | false => rfl
    | true => exact absurd ((h _).mpr hm) (by rw [ey]; omega)
  unfold xor64
  rw [h, Int64.toBitVec_xor, BitVec.msb_xor, hy', Bool.xor_false, ← h, ex]

theorem tdiv_fl {a b : Int} (hb : 0 < b) : a / b = if a < 0 ∧ Int.tdiv a b * b ≠ a then Int.tdiv a b - 1 else Int.tdiv a b := by
  have h1 := Int.ediv_emod_unique (a := a) (b := b) (r := a % b) (q := a / b) hb
  have e1 : b * (a / b) + a % b = a := Int.mul_ediv_add_emod a b
  have e2 := Int.emod_nonneg a (by omega : b ≠ 0)
  have e3 := Int.emod_lt_of_pos a hb
  by_cases ha : a < 0
  · have t1 : Int.tdiv a b = -((-a) / b) := by
      rw [← Int.neg_neg a, Int.neg_tdiv, Int.tdiv_eq_ediv_of_nonneg (by omega)]
      simp
    have f1 : b * ((-a) / b) + (-a) % b = -a := Int.mul_ediv_add_emod (-a) b
    have f2 := Int.emod_nonneg (-a) (by omega : b ≠ 0)
    have f3 := Int.emod_lt_of_pos (-a) hb
    rw [t1]
    generalize (-a) / b = q at *
    generalize (-a) % b = r at *
    have hq : (-q) * b = -(b * q) := by rw [Int.neg_mul, Int.mul_comm]
    by_cases hr : r = 0
    · have he : -q * b = a := by omega
      rw [if_neg (by omega)]
      refine Int.ediv_eq_of_eq_mul_left (by omega) ?_
      omega
    · rw [if_pos ⟨ha, by omega⟩]
      have : a / b = -q - 1 ∧ a % b = b - r := (Int.ediv_emod_unique hb).mpr ⟨by
        have : b * (-q - 1) = -(b * q) - b := by rw [Int.mul_sub, Int.mul_neg, Int.mul_one]
        omega, by omega, by omega⟩
      exact this.1
  · rw [if_neg (by omega), Int.tdiv_eq_ediv_of_nonneg (by omega)]
theorem tdiv_bd {a b : Int} (hb : 0 < b) (ha : -1000000 ≤ a ∧ a ≤ 1000000) : -1000000 ≤ Int.tdiv a b ∧ Int.tdiv a b ≤ 1000000 ∧ -1000000 ≤ Int.tdiv a b * b ∧ Int.tdiv a b * b ≤ 1000000 := by
  have h := Int.mul_tdiv_add_tmod a b
  rw [Int.mul_comm]
  rcases Int.le_total 0 a with h0 | h0
  · have e : Int.tdiv a b = a / b := Int.tdiv_eq_ediv_of_nonneg h0
    have h1 := Int.ediv_nonneg h0 (by omega : 0 ≤ b)
    have h2 := Int.ediv_le_self b h0
    have h3 := Int.mul_ediv_add_emod a b
    have h4 := Int.emod_nonneg a (by omega : b ≠ 0)
    have h5 : 0 ≤ b * (a / b) := Int.mul_nonneg (by omega) h1
    rw [e]
    omega
  · have e : Int.tdiv a b = -((-a) / b) := by
      rw [← Int.neg_neg a, Int.neg_tdiv, Int.tdiv_eq_ediv_of_nonneg (by omega)]
      simp
    have h1 := Int.ediv_nonneg (by omega : 0 ≤ -a) (by omega : 0 ≤ b)
    have h2 := Int.ediv_le_self b (by omega : 0 ≤ -a)
    have h3 := Int.mul_ediv_add_emod (-a) b
    have h4 := Int.emod_nonneg (-a) (by omega : b ≠ 0)
    have h5 : 0 ≤ b * ((-a) / b) := Int.mul_nonneg (by omega) h1
    have h6 : b * -(-a / b) = -(b * (-a / b)) := Int.mul_neg _ _
    rw [e]
    omega

set_option maxHeartbeats 4000000 in
theorem j_floorDiv  (m : Mem) (a : Int) (b : Int)   (hab : -1000000 ≤ a ∧ a ≤ 1000000 ∧ 0 < b ∧ b ≤ 1000000) : Ct μJ9_floorDiv_f86c9 0 [vl a, vl b] m (rl fun x_ m' => (x_ = a / b) ∧ m = m') := by
  refine Ct_of_VF rfl (by decide +kernel) rfl (Nat.le_of_ble_eq_true rfl) ?_
  show V μJ9_floorDiv_f86c9 0 m _ 0 [(0, vl a), (2, vl b)] [] m
  refine V_rgl (k := 0) (x := a) rfl fun r_a => ?_
  refine V_rgl (k := 2) (x := b) rfl fun r_b => ?_
  have ht := tdiv_fl (a := a) (b := b) (by omega)
  have hd := tdiv_bd (a := a) (b := b) (by omega) (by omega)
  have hx := xor64_neg (x := a) (y := b) r_a (by omega) r_b
  refine V_ld (pc := 0) dJ9_floorDiv_f86c9_0 (v := vl a) rfl rfl ?_
  refine V_ld (pc := 1) dJ9_floorDiv_f86c9_1 (v := vl b) rfl rfl ?_
  refine V_ldiv (pc := 2) dJ9_floorDiv_f86c9_2 (by omega) (by unfold I64; omega) ?_
  refine V_st (pc := 3) dJ9_floorDiv_f86c9_3 (ls' := [(4, vl (Int.tdiv a b)), (0, vl a), (2, vl b)]) rfl (Nat.le_of_ble_eq_true rfl) rfl ?_
  refine V_ld (pc := 5) dJ9_floorDiv_f86c9_5 (v := vl a) rfl rfl ?_
  refine V_ld (pc := 6) dJ9_floorDiv_f86c9_6 (v := vl b) rfl rfl ?_
  refine V_lxor (pc := 7) dJ9_floorDiv_f86c9_7 ?_
  refine V_lconst (pc := 8) dJ9_floorDiv_f86c9_8 (x := 0) (by unfold I64; omega) (by decide) ?_
  refine V_lcmp (pc := 9) dJ9_floorDiv_f86c9_9 ?_
  refine V_if_ge (pc := 10) dJ9_floorDiv_f86c9_10 (tgt := 27) rfl (fun h10 => ?_) (fun h10 => ?_)
  · skip
    refine V_ld (pc := 27) dJ9_floorDiv_f86c9_27 (v := vl (Int.tdiv a b)) rfl rfl ?_
    refine V_retl (pc := 29) dJ9_floorDiv_f86c9_29 trivial ?_
    exact ⟨by unfold cmpI at *; omega, rfl⟩
  · skip
    refine V_ld (pc := 13) dJ9_floorDiv_f86c9_13 (v := vl (Int.tdiv a b)) rfl rfl ?_
    refine V_ld (pc := 15) dJ9_floorDiv_f86c9_15 (v := vl b) rfl rfl ?_
    refine V_lmul (pc := 16) dJ9_floorDiv_f86c9_16 (by unfold I64; omega) ?_
    refine V_ld (pc := 17) dJ9_floorDiv_f86c9_17 (v := vl a) rfl rfl ?_
    refine V_lcmp (pc := 18) dJ9_floorDiv_f86c9_18 ?_
    refine V_if_eq (pc := 19) dJ9_floorDiv_f86c9_19 (tgt := 27) rfl (fun h19 => ?_) (fun h19 => ?_)
    · skip
      refine V_ld (pc := 27) dJ9_floorDiv_f86c9_27 (v := vl (Int.tdiv a b)) rfl rfl ?_
      refine V_retl (pc := 29) dJ9_floorDiv_f86c9_29 trivial ?_
      exact ⟨by unfold cmpI at *; omega, rfl⟩
    · skip
      refine V_ld (pc := 22) dJ9_floorDiv_f86c9_22 (v := vl (Int.tdiv a b)) rfl rfl ?_
      refine V_lconst (pc := 24) dJ9_floorDiv_f86c9_24 (x := 1) (by unfold I64; omega) (by decide) ?_
      refine V_lsub (pc := 25) dJ9_floorDiv_f86c9_25 (by unfold I64; omega) ?_
      refine V_retl (pc := 26) dJ9_floorDiv_f86c9_26 trivial ?_
      exact ⟨by unfold cmpI at *; omega, rfl⟩

set_option maxHeartbeats 4000000 in
theorem L_measured {F : Nat} {m0 m : Mem} {post : Option AV → Mem → Prop} {t c q d : Nat} {j e col w : Int} (T_t : mT m t = (3, 4)) (R_t_2 : mR m t 2 = some c) (T_c : mT m c = (20, 1056)) (T_q : mT m q = (8, 2)) (R_q_0 : mR m q 0 = some d) (T_d : mT m d = (20, 64)) (hj : 0 ≤ j ∧ j < mI m t 3 ∧ j < 33) (hz : mI m q 1 ≤ 32) (hcol : 0 ≤ col ∧ col < 2) (hnum : ∀ r, -999 ≤ numC m q d col r ∧ numC m q d col r ≤ 1000) (kx : V μX3_measured (F + 2) m0 post 160 [(18, vi ((32 : Nat) : Int)), (16, vl ((foldM (labC m c j) (numC m q d col) e 32).2.2.2.2.2.2)), (14, vl ((foldM (labC m c j) (numC m q d col) e 32).2.2.2.2.2.1)), (12, vl ((foldM (labC m c j) (numC m q d col) e 32).2.2.2.2.1)), (10, vl ((foldM (labC m c j) (numC m q d col) e 32).2.2.2.1)), (8, vl ((foldM (labC m c j) (numC m q d col) e 32).2.2.1)), (7, vi ((foldM (labC m c j) (numC m q d col) e 32).2.1)), (6, vi ((foldM (labC m c j) (numC m q d col) e 32).1)), (0, vr t), (1, vi j), (2, vi e), (3, vi col), (4, vi w), (5, vr q)] [] m) : ∀ (dd i : Nat), dd + i = 32 → V μX3_measured (F + 2) m0 post 32 [(18, vi ((i : Nat) : Int)), (16, vl ((foldM (labC m c j) (numC m q d col) e i).2.2.2.2.2.2)), (14, vl ((foldM (labC m c j) (numC m q d col) e i).2.2.2.2.2.1)), (12, vl ((foldM (labC m c j) (numC m q d col) e i).2.2.2.2.1)), (10, vl ((foldM (labC m c j) (numC m q d col) e i).2.2.2.1)), (8, vl ((foldM (labC m c j) (numC m q d col) e i).2.2.1)), (7, vi ((foldM (labC m c j) (numC m q d col) e i).2.1)), (6, vi ((foldM (labC m c j) (numC m q d col) e i).1)), (0, vr t), (1, vi j), (2, vi e), (3, vi col), (4, vi w), (5, vr q)] [] m := by
  intro dd
  induction dd with
  | zero =>
    intro i hi
    obtain rfl : i = 32 := by omega
    have hn_ := hnum 32
    simp only [numC] at hn_
    refine V_ld (pc := 32) dX3_measured_32 (v := vi ((32 : Nat) : Int)) rfl rfl ?_
    refine V_bipush (pc := 34) dX3_measured_34 (by unfold I32; omega) (by decide) ?_
    refine V_icmp_ge (pc := 36) dX3_measured_36 (tgt := 160) rfl (fun h36 => ?_) (fun h36 => ?_)
    · skip
      first | exact kx | (skip; exact kx) | (exfalso; omega)
    · skip
      exfalso; omega
  | succ dd ih =>
    intro i hi
    have hn_ := hnum i
    simp only [numC] at hn_
    refine V_ld (pc := 32) dX3_measured_32 (v := vi ((i : Nat) : Int)) rfl rfl ?_
    refine V_bipush (pc := 34) dX3_measured_34 (by unfold I32; omega) (by decide) ?_
    refine V_icmp_ge (pc := 36) dX3_measured_36 (tgt := 160) rfl (fun h36 => ?_) (fun h36 => ?_)
    · skip
      exfalso; omega
    · skip
      refine V_ld (pc := 39) dX3_measured_39 (v := vr t) rfl rfl ?_
      refine V_ld (pc := 40) dX3_measured_40 (v := vi j) rfl rfl ?_
      refine V_ld (pc := 41) dX3_measured_41 (v := vi ((i : Nat) : Int)) rfl rfl ?_
      refine V_callV (pc := 43) dX3_measured_43 (F' := 1) (As := [vi j, vi ((i : Nat) : Int)]) (st := []) cw_RX3_41 rfl rfl T_t (by decide) (Nat.le_of_ble_eq_true rfl) (by omega) (c_letterOf  m t j ((i : Nat) : Int) c  T_t R_t_2 T_c) ?_
      rintro _ _ ⟨x43, rfl, hx43, rfl⟩ ok43 le43
      refine V_st (pc := 46) dX3_measured_46 (ls' := [(19, vi x43), (18, vi ((i : Nat) : Int)), (16, vl ((foldM (labC m c j) (numC m q d col) e i).2.2.2.2.2.2)), (14, vl ((foldM (labC m c j) (numC m q d col) e i).2.2.2.2.2.1)), (12, vl ((foldM (labC m c j) (numC m q d col) e i).2.2.2.2.1)), (10, vl ((foldM (labC m c j) (numC m q d col) e i).2.2.2.1)), (8, vl ((foldM (labC m c j) (numC m q d col) e i).2.2.1)), (7, vi ((foldM (labC m c j) (numC m q d col) e i).2.1)), (6, vi ((foldM (labC m c j) (numC m q d col) e i).1)), (0, vr t), (1, vi j), (2, vi e), (3, vi col), (4, vi w), (5, vr q)]) rfl (Nat.le_of_ble_eq_true rfl) rfl ?_
      refine V_ld (pc := 48) dX3_measured_48 (v := vi x43) rfl rfl ?_
      refine V_if_lt (pc := 50) dX3_measured_50 (tgt := 154) rfl (fun h50 => ?_) (fun h50 => ?_)
      · skip
        refine V_iinc (pc := 154) dX3_measured_154 (x := ((i : Nat) : Int)) (ls' := [(18, vi (((i : Nat) : Int) + 1)), (19, vi x43), (16, vl ((foldM (labC m c j) (numC m q d col) e i).2.2.2.2.2.2)), (14, vl ((foldM (labC m c j) (numC m q d col) e i).2.2.2.2.2.1)), (12, vl ((foldM (labC m c j) (numC m q d col) e i).2.2.2.2.1)), (10, vl ((foldM (labC m c j) (numC m q d col) e i).2.2.2.1)), (8, vl ((foldM (labC m c j) (numC m q d col) e i).2.2.1)), (7, vi ((foldM (labC m c j) (numC m q d col) e i).2.1)), (6, vi ((foldM (labC m c j) (numC m q d col) e i).1)), (0, vr t), (1, vi j), (2, vi e), (3, vi col), (4, vi w), (5, vr q)]) rfl (by unfold I32 at *; omega) (Nat.le_of_ble_eq_true rfl) rfl ?_
        refine V_goto (pc := 157) dX3_measured_157 (tgt := 32) rfl ?_
        have ela : (mI m c (j * 32 + (i : Int)).toNat) = x43 := by omega
        have e_ : foldM (labC m c j) (numC m q d col) e (i + 1) = ((foldM (labC m c j) (numC m q d col) e i).1, (foldM (labC m c j) (numC m q d col) e i).2.1, (foldM (labC m c j) (numC m q d col) e i).2.2.1, (foldM (labC m c j) (numC m q d col) e i).2.2.2.1, (foldM (labC m c j) (numC m q d col) e i).2.2.2.2.1, (foldM (labC m c j) (numC m q d col) e i).2.2.2.2.2.1, (foldM (labC m c j) (numC m q d col) e i).2.2.2.2.2.2) := by
          show stepM (mI m c (j * 32 + (i : Int)).toNat) (if (i : Int) < mI m q 1 then mI m d ((i : Int) * 2 + col).toNat else 1000) e (foldM (labC m c j) (numC m q d col) e i) = _
          rw [ela]
          unfold stepM
          first
            | (exfalso; omega)
            | (rw [if_neg (by omega)])
            | (rw [if_pos (by omega), if_pos (by omega)])
            | (rw [if_pos (by omega), if_neg (by omega)]; simp only [Prod.mk.injEq]; repeat' apply And.intro
               all_goals (first | trivial | omega))
        have h_ := ih (i + 1) (by omega)
        rw [e_] at h_
        refine V_ls (ls' := [(18, vi (((i : Nat) : Int) + 1)), (16, vl ((foldM (labC m c j) (numC m q d col) e i).2.2.2.2.2.2)), (14, vl ((foldM (labC m c j) (numC m q d col) e i).2.2.2.2.2.1)), (12, vl ((foldM (labC m c j) (numC m q d col) e i).2.2.2.2.1)), (10, vl ((foldM (labC m c j) (numC m q d col) e i).2.2.2.1)), (8, vl ((foldM (labC m c j) (numC m q d col) e i).2.2.1)), (7, vi ((foldM (labC m c j) (numC m q d col) e i).2.1)), (6, vi ((foldM (labC m c j) (numC m q d col) e i).1)), (0, vr t), (1, vi j), (2, vi e), (3, vi col), (4, vi w), (5, vr q)]) (by intro q_ h_; simp only [List.mem_cons, List.not_mem_nil, or_false] at h_ ⊢; rcases h_ with rfl | rfl | rfl | rfl | rfl | rfl | rfl | rfl | rfl | rfl | rfl | rfl | rfl | rfl <;> simp) ?_
        exact h_
      · skip
        refine V_ld (pc := 53) dX3_measured_53 (v := vi e) rfl rfl ?_
        refine V_bipush (pc := 54) dX3_measured_54 (by unfold I32; omega) (by decide) ?_
        refine V_icmp_eq (pc := 56) dX3_measured_56 (tgt := 68) rfl (fun h56 => ?_) (fun h56 => ?_)
        · skip
          refine V_iinc (pc := 68) dX3_measured_68 (x := ((foldM (labC m c j) (numC m q d col) e i).1)) (ls' := [(6, vi (((foldM (labC m c j) (numC m q d col) e i).1) + 1)), (19, vi x43), (18, vi ((i : Nat) : Int)), (16, vl ((foldM (labC m c j) (numC m q d col) e i).2.2.2.2.2.2)), (14, vl ((foldM (labC m c j) (numC m q d col) e i).2.2.2.2.2.1)), (12, vl ((foldM (labC m c j) (numC m q d col) e i).2.2.2.2.1)), (10, vl ((foldM (labC m c j) (numC m q d col) e i).2.2.2.1)), (8, vl ((foldM (labC m c j) (numC m q d col) e i).2.2.1)), (7, vi ((foldM (labC m c j) (numC m q d col) e i).2.1)), (0, vr t), (1, vi j), (2, vi e), (3, vi col), (4, vi w), (5, vr q)]) rfl (by have hb := foldM_bd (L := e) (lab := labC m c j) hnum i; unfold I32; (try unfold I32 at *); omega) (Nat.le_of_ble_eq_true rfl) rfl ?_
          refine V_ld (pc := 71) dX3_measured_71 (v := vr q) rfl rfl ?_
          refine V_ld (pc := 73) dX3_measured_73 (v := vi ((i : Nat) : Int)) rfl rfl ?_
          refine V_ld (pc := 75) dX3_measured_75 (v := vi col) rfl rfl ?_
          refine V_callV (pc := 76) dX3_measured_76 (F' := 0) (As := [vi ((i : Nat) : Int), vi col]) (st := []) cw_RX3_47 rfl rfl T_q (by decide) (Nat.le_of_ble_eq_true rfl) (by omega) (c_number  m q ((i : Nat) : Int) col d  T_q R_q_0 T_d) ?_
          rintro _ _ ⟨x76, rfl, hx76, rfl⟩ ok76 le76
          refine V_st (pc := 79) dX3_measured_79 (ls' := [(20, vi x76), (6, vi (((foldM (labC m c j) (numC m q d col) e i).1) + 1)), (19, vi x43), (18, vi ((i : Nat) : Int)), (16, vl ((foldM (labC m c j) (numC m q d col) e i).2.2.2.2.2.2)), (14, vl ((foldM (labC m c j) (numC m q d col) e i).2.2.2.2.2.1)), (12, vl ((foldM (labC m c j) (numC m q d col) e i).2.2.2.2.1)), (10, vl ((foldM (labC m c j) (numC m q d col) e i).2.2.2.1)), (8, vl ((foldM (labC m c j) (numC m q d col) e i).2.2.1)), (7, vi ((foldM (labC m c j) (numC m q d col) e i).2.1)), (0, vr t), (1, vi j), (2, vi e), (3, vi col), (4, vi w), (5, vr q)]) rfl (Nat.le_of_ble_eq_true rfl) rfl ?_
          refine V_ld (pc := 81) dX3_measured_81 (v := vi x76) rfl rfl ?_
          refine V_sipush (pc := 83) dX3_measured_83 (by unfold I32; omega) (by decide) ?_
          refine V_icmp_ne (pc := 86) dX3_measured_86 (tgt := 92) rfl (fun h86 => ?_) (fun h86 => ?_)
          · skip
            refine V_ld (pc := 92) dX3_measured_92 (v := vl ((foldM (labC m c j) (numC m q d col) e i).2.2.1)) rfl rfl ?_
            refine V_ld (pc := 94) dX3_measured_94 (v := vi x76) rfl rfl ?_
            refine V_i2l (pc := 96) dX3_measured_96 ?_
            refine V_ladd (pc := 97) dX3_measured_97 (by have hb := foldM_bd (L := e) (lab := labC m c j) hnum i; unfold I64; (try unfold I32 at *); omega) ?_
            refine V_st (pc := 98) dX3_measured_98 (ls' := [(8, vl (((foldM (labC m c j) (numC m q d col) e i).2.2.1) + x76)), (20, vi x76), (6, vi (((foldM (labC m c j) (numC m q d col) e i).1) + 1)), (19, vi x43), (18, vi ((i : Nat) : Int)), (16, vl ((foldM (labC m c j) (numC m q d col) e i).2.2.2.2.2.2)), (14, vl ((foldM (labC m c j) (numC m q d col) e i).2.2.2.2.2.1)), (12, vl ((foldM (labC m c j) (numC m q d col) e i).2.2.2.2.1)), (10, vl ((foldM (labC m c j) (numC m q d col) e i).2.2.2.1)), (7, vi ((foldM (labC m c j) (numC m q d col) e i).2.1)), (0, vr t), (1, vi j), (2, vi e), (3, vi col), (4, vi w), (5, vr q)]) rfl (Nat.le_of_ble_eq_true rfl) rfl ?_
            refine V_ld (pc := 100) dX3_measured_100 (v := vi ((foldM (labC m c j) (numC m q d col) e i).2.1)) rfl rfl ?_
            refine V_if_ne (pc := 102) dX3_measured_102 (tgt := 111) rfl (fun h102 => ?_) (fun h102 => ?_)
            · skip
              refine V_ld (pc := 111) dX3_measured_111 (v := vl ((foldM (labC m c j) (numC m q d col) e i).2.2.2.1)) rfl rfl ?_
              refine V_ld (pc := 113) dX3_measured_113 (v := vi x76) rfl rfl ?_
              refine V_i2l (pc := 115) dX3_measured_115 ?_
              refine V_callS (pc := 116) dX3_measured_116 (F' := 0) (As := [vl ((foldM (labC m c j) (numC m q d col) e i).2.2.2.1), vl x76]) (st := []) cw_RX3_52 rfl rfl (Nat.le_of_ble_eq_true rfl) (by omega) (j_min_l  m ((foldM (labC m c j) (numC m q d col) e i).2.2.2.1) x76   ) ?_
              rintro _ _ ⟨x116, rfl, hx116, rfl⟩ ok116 le116
              refine V_st (pc := 119) dX3_measured_119 (ls' := [(10, vl x116), (8, vl (((foldM (labC m c j) (numC m q d col) e i).2.2.1) + x76)), (20, vi x76), (6, vi (((foldM (labC m c j) (numC m q d col) e i).1) + 1)), (19, vi x43), (18, vi ((i : Nat) : Int)), (16, vl ((foldM (labC m c j) (numC m q d col) e i).2.2.2.2.2.2)), (14, vl ((foldM (labC m c j) (numC m q d col) e i).2.2.2.2.2.1)), (12, vl ((foldM (labC m c j) (numC m q d col) e i).2.2.2.2.1)), (7, vi ((foldM (labC m c j) (numC m q d col) e i).2.1)), (0, vr t), (1, vi j), (2, vi e), (3, vi col), (4, vi w), (5, vr q)]) rfl (Nat.le_of_ble_eq_true rfl) rfl ?_
              refine V_ld (pc := 121) dX3_measured_121 (v := vl ((foldM (labC m c j) (numC m q d col) e i).2.2.2.2.1)) rfl rfl ?_
              refine V_ld (pc := 123) dX3_measured_123 (v := vi x76) rfl rfl ?_
              refine V_i2l (pc := 125) dX3_measured_125 ?_
              refine V_callS (pc := 126) dX3_measured_126 (F' := 0) (As := [vl ((foldM (labC m c j) (numC m q d col) e i).2.2.2.2.1), vl x76]) (st := []) cw_RX3_58 rfl rfl (Nat.le_of_ble_eq_true rfl) (by omega) (j_max_l  m ((foldM (labC m c j) (numC m q d col) e i).2.2.2.2.1) x76   ) ?_
              rintro _ _ ⟨x126, rfl, hx126, rfl⟩ ok126 le126
              refine V_st (pc := 129) dX3_measured_129 (ls' := [(12, vl x126), (10, vl x116), (8, vl (((foldM (labC m c j) (numC m q d col) e i).2.2.1) + x76)), (20, vi x76), (6, vi (((foldM (labC m c j) (numC m q d col) e i).1) + 1)), (19, vi x43), (18, vi ((i : Nat) : Int)), (16, vl ((foldM (labC m c j) (numC m q d col) e i).2.2.2.2.2.2)), (14, vl ((foldM (labC m c j) (numC m q d col) e i).2.2.2.2.2.1)), (7, vi ((foldM (labC m c j) (numC m q d col) e i).2.1)), (0, vr t), (1, vi j), (2, vi e), (3, vi col), (4, vi w), (5, vr q)]) rfl (Nat.le_of_ble_eq_true rfl) rfl ?_
              refine V_ld (pc := 131) dX3_measured_131 (v := vi ((foldM (labC m c j) (numC m q d col) e i).2.1)) rfl rfl ?_
              refine V_if_ne (pc := 133) dX3_measured_133 (tgt := 142) rfl (fun h133 => ?_) (fun h133 => ?_)
              · skip
                refine V_ld (pc := 142) dX3_measured_142 (v := vl ((foldM (labC m c j) (numC m q d col) e i).2.2.2.2.2.1)) rfl rfl ?_
                refine V_st (pc := 144) dX3_measured_144 (ls' := [(14, vl ((foldM (labC m c j) (numC m q d col) e i).2.2.2.2.2.1)), (12, vl x126), (10, vl x116), (8, vl (((foldM (labC m c j) (numC m q d col) e i).2.2.1) + x76)), (20, vi x76), (6, vi (((foldM (labC m c j) (numC m q d col) e i).1) + 1)), (19, vi x43), (18, vi ((i : Nat) : Int)), (16, vl ((foldM (labC m c j) (numC m q d col) e i).2.2.2.2.2.2)), (7, vi ((foldM (labC m c j) (numC m q d col) e i).2.1)), (0, vr t), (1, vi j), (2, vi e), (3, vi col), (4, vi w), (5, vr q)]) rfl (Nat.le_of_ble_eq_true rfl) rfl ?_
                refine V_ld (pc := 146) dX3_measured_146 (v := vi x76) rfl rfl ?_
                refine V_i2l (pc := 148) dX3_measured_148 ?_
                refine V_st (pc := 149) dX3_measured_149 (ls' := [(16, vl x76), (14, vl ((foldM (labC m c j) (numC m q d col) e i).2.2.2.2.2.1)), (12, vl x126), (10, vl x116), (8, vl (((foldM (labC m c j) (numC m q d col) e i).2.2.1) + x76)), (20, vi x76), (6, vi (((foldM (labC m c j) (numC m q d col) e i).1) + 1)), (19, vi x43), (18, vi ((i : Nat) : Int)), (7, vi ((foldM (labC m c j) (numC m q d col) e i).2.1)), (0, vr t), (1, vi j), (2, vi e), (3, vi col), (4, vi w), (5, vr q)]) rfl (Nat.le_of_ble_eq_true rfl) rfl ?_
                refine V_iinc (pc := 151) dX3_measured_151 (x := ((foldM (labC m c j) (numC m q d col) e i).2.1)) (ls' := [(7, vi (((foldM (labC m c j) (numC m q d col) e i).2.1) + 1)), (16, vl x76), (14, vl ((foldM (labC m c j) (numC m q d col) e i).2.2.2.2.2.1)), (12, vl x126), (10, vl x116), (8, vl (((foldM (labC m c j) (numC m q d col) e i).2.2.1) + x76)), (20, vi x76), (6, vi (((foldM (labC m c j) (numC m q d col) e i).1) + 1)), (19, vi x43), (18, vi ((i : Nat) : Int)), (0, vr t), (1, vi j), (2, vi e), (3, vi col), (4, vi w), (5, vr q)]) rfl (by have hb := foldM_bd (L := e) (lab := labC m c j) hnum i; unfold I32; (try unfold I32 at *); omega) (Nat.le_of_ble_eq_true rfl) rfl ?_
                refine V_iinc (pc := 154) dX3_measured_154 (x := ((i : Nat) : Int)) (ls' := [(18, vi (((i : Nat) : Int) + 1)), (7, vi (((foldM (labC m c j) (numC m q d col) e i).2.1) + 1)), (16, vl x76), (14, vl ((foldM (labC m c j) (numC m q d col) e i).2.2.2.2.2.1)), (12, vl x126), (10, vl x116), (8, vl (((foldM (labC m c j) (numC m q d col) e i).2.2.1) + x76)), (20, vi x76), (6, vi (((foldM (labC m c j) (numC m q d col) e i).1) + 1)), (19, vi x43), (0, vr t), (1, vi j), (2, vi e), (3, vi col), (4, vi w), (5, vr q)]) rfl (by unfold I32 at *; omega) (Nat.le_of_ble_eq_true rfl) rfl ?_
                refine V_goto (pc := 157) dX3_measured_157 (tgt := 32) rfl ?_
                have ela : (mI m c (j * 32 + (i : Int)).toNat) = x43 := by omega
                have enu : (if (i : Int) < mI m q 1 then mI m d ((i : Int) * 2 + col).toNat else 1000) = x76 := by omega
                have e_ : foldM (labC m c j) (numC m q d col) e (i + 1) = (((foldM (labC m c j) (numC m q d col) e i).1) + 1, ((foldM (labC m c j) (numC m q d col) e i).2.1) + 1, ((foldM (labC m c j) (numC m q d col) e i).2.2.1) + x76, x116, x126, (foldM (labC m c j) (numC m q d col) e i).2.2.2.2.2.1, x76) := by
                  show stepM (mI m c (j * 32 + (i : Int)).toNat) (if (i : Int) < mI m q 1 then mI m d ((i : Int) * 2 + col).toNat else 1000) e (foldM (labC m c j) (numC m q d col) e i) = _
                  rw [ela, enu]
                  unfold stepM
                  first
                    | (exfalso; omega)
                    | (rw [if_neg (by omega)])
                    | (rw [if_pos (by omega), if_pos (by omega)])
                    | (rw [if_pos (by omega), if_neg (by omega)]; simp only [Prod.mk.injEq]; repeat' apply And.intro
                       all_goals (first | trivial | omega))
                have h_ := ih (i + 1) (by omega)
                rw [e_] at h_
                refine V_ls (ls' := [(18, vi (((i : Nat) : Int) + 1)), (16, vl x76), (14, vl ((foldM (labC m c j) (numC m q d col) e i).2.2.2.2.2.1)), (12, vl x126), (10, vl x116), (8, vl (((foldM (labC m c j) (numC m q d col) e i).2.2.1) + x76)), (7, vi (((foldM (labC m c j) (numC m q d col) e i).2.1) + 1)), (6, vi (((foldM (labC m c j) (numC m q d col) e i).1) + 1)), (0, vr t), (1, vi j), (2, vi e), (3, vi col), (4, vi w), (5, vr q)]) (by intro q_ h_; simp only [List.mem_cons, List.not_mem_nil, or_false] at h_ ⊢; rcases h_ with rfl | rfl | rfl | rfl | rfl | rfl | rfl | rfl | rfl | rfl | rfl | rfl | rfl | rfl <;> simp) ?_
                exact h_
              · skip
                refine V_ld (pc := 136) dX3_measured_136 (v := vi x76) rfl rfl ?_
                refine V_i2l (pc := 138) dX3_measured_138 ?_
                refine V_goto (pc := 139) dX3_measured_139 (tgt := 144) rfl ?_
                refine V_st (pc := 144) dX3_measured_144 (ls' := [(14, vl x76), (12, vl x126), (10, vl x116), (8, vl (((foldM (labC m c j) (numC m q d col) e i).2.2.1) + x76)), (20, vi x76), (6, vi (((foldM (labC m c j) (numC m q d col) e i).1) + 1)), (19, vi x43), (18, vi ((i : Nat) : Int)), (16, vl ((foldM (labC m c j) (numC m q d col) e i).2.2.2.2.2.2)), (7, vi ((foldM (labC m c j) (numC m q d col) e i).2.1)), (0, vr t), (1, vi j), (2, vi e), (3, vi col), (4, vi w), (5, vr q)]) rfl (Nat.le_of_ble_eq_true rfl) rfl ?_
                refine V_ld (pc := 146) dX3_measured_146 (v := vi x76) rfl rfl ?_
                refine V_i2l (pc := 148) dX3_measured_148 ?_
                refine V_st (pc := 149) dX3_measured_149 (ls' := [(16, vl x76), (14, vl x76), (12, vl x126), (10, vl x116), (8, vl (((foldM (labC m c j) (numC m q d col) e i).2.2.1) + x76)), (20, vi x76), (6, vi (((foldM (labC m c j) (numC m q d col) e i).1) + 1)), (19, vi x43), (18, vi ((i : Nat) : Int)), (7, vi ((foldM (labC m c j) (numC m q d col) e i).2.1)), (0, vr t), (1, vi j), (2, vi e), (3, vi col), (4, vi w), (5, vr q)]) rfl (Nat.le_of_ble_eq_true rfl) rfl ?_
                refine V_iinc (pc := 151) dX3_measured_151 (x := ((foldM (labC m c j) (numC m q d col) e i).2.1)) (ls' := [(7, vi (((foldM (labC m c j) (numC m q d col) e i).2.1) + 1)), (16, vl x76), (14, vl x76), (12, vl x126), (10, vl x116), (8, vl (((foldM (labC m c j) (numC m q d col) e i).2.2.1) + x76)), (20, vi x76), (6, vi (((foldM (labC m c j) (numC m q d col) e i).1) + 1)), (19, vi x43), (18, vi ((i : Nat) : Int)), (0, vr t), (1, vi j), (2, vi e), (3, vi col), (4, vi w), (5, vr q)]) rfl (by have hb := foldM_bd (L := e) (lab := labC m c j) hnum i; unfold I32; (try unfold I32 at *); omega) (Nat.le_of_ble_eq_true rfl) rfl ?_
                refine V_iinc (pc := 154) dX3_measured_154 (x := ((i : Nat) : Int)) (ls' := [(18, vi (((i : Nat) : Int) + 1)), (7, vi (((foldM (labC m c j) (numC m q d col) e i).2.1) + 1)), (16, vl x76), (14, vl x76), (12, vl x126), (10, vl x116), (8, vl (((foldM (labC m c j) (numC m q d col) e i).2.2.1) + x76)), (20, vi x76), (6, vi (((foldM (labC m c j) (numC m q d col) e i).1) + 1)), (19, vi x43), (0, vr t), (1, vi j), (2, vi e), (3, vi col), (4, vi w), (5, vr q)]) rfl (by unfold I32 at *; omega) (Nat.le_of_ble_eq_true rfl) rfl ?_
                refine V_goto (pc := 157) dX3_measured_157 (tgt := 32) rfl ?_
                have ela : (mI m c (j * 32 + (i : Int)).toNat) = x43 := by omega
                have enu : (if (i : Int) < mI m q 1 then mI m d ((i : Int) * 2 + col).toNat else 1000) = x76 := by omega
                have e_ : foldM (labC m c j) (numC m q d col) e (i + 1) = (((foldM (labC m c j) (numC m q d col) e i).1) + 1, ((foldM (labC m c j) (numC m q d col) e i).2.1) + 1, ((foldM (labC m c j) (numC m q d col) e i).2.2.1) + x76, x116, x126, x76, x76) := by
                  show stepM (mI m c (j * 32 + (i : Int)).toNat) (if (i : Int) < mI m q 1 then mI m d ((i : Int) * 2 + col).toNat else 1000) e (foldM (labC m c j) (numC m q d col) e i) = _
                  rw [ela, enu]
                  unfold stepM
                  first
                    | (exfalso; omega)
                    | (rw [if_neg (by omega)])
                    | (rw [if_pos (by omega), if_pos (by omega)])
                    | (rw [if_pos (by omega), if_neg (by omega)]; simp only [Prod.mk.injEq]; repeat' apply And.intro
                       all_goals (first | trivial | omega))
                have h_ := ih (i + 1) (by omega)
                rw [e_] at h_
                refine V_ls (ls' := [(18, vi (((i : Nat) : Int) + 1)), (16, vl x76), (14, vl x76), (12, vl x126), (10, vl x116), (8, vl (((foldM (labC m c j) (numC m q d col) e i).2.2.1) + x76)), (7, vi (((foldM (labC m c j) (numC m q d col) e i).2.1) + 1)), (6, vi (((foldM (labC m c j) (numC m q d col) e i).1) + 1)), (0, vr t), (1, vi j), (2, vi e), (3, vi col), (4, vi w), (5, vr q)]) (by intro q_ h_; simp only [List.mem_cons, List.not_mem_nil, or_false] at h_ ⊢; rcases h_ with rfl | rfl | rfl | rfl | rfl | rfl | rfl | rfl | rfl | rfl | rfl | rfl | rfl | rfl <;> simp) ?_
                exact h_
            · skip
              refine V_ld (pc := 105) dX3_measured_105 (v := vi x76) rfl rfl ?_
              refine V_i2l (pc := 107) dX3_measured_107 ?_
              refine V_goto (pc := 108) dX3_measured_108 (tgt := 119) rfl ?_
              refine V_st (pc := 119) dX3_measured_119 (ls' := [(10, vl x76), (8, vl (((foldM (labC m c j) (numC m q d col) e i).2.2.1) + x76)), (20, vi x76), (6, vi (((foldM (labC m c j) (numC m q d col) e i).1) + 1)), (19, vi x43), (18, vi ((i : Nat) : Int)), (16, vl ((foldM (labC m c j) (numC m q d col) e i).2.2.2.2.2.2)), (14, vl ((foldM (labC m c j) (numC m q d col) e i).2.2.2.2.2.1)), (12, vl ((foldM (labC m c j) (numC m q d col) e i).2.2.2.2.1)), (7, vi ((foldM (labC m c j) (numC m q d col) e i).2.1)), (0, vr t), (1, vi j), (2, vi e), (3, vi col), (4, vi w), (5, vr q)]) rfl (Nat.le_of_ble_eq_true rfl) rfl ?_
              refine V_ld (pc := 121) dX3_measured_121 (v := vl ((foldM (labC m c j) (numC m q d col) e i).2.2.2.2.1)) rfl rfl ?_
              refine V_ld (pc := 123) dX3_measured_123 (v := vi x76) rfl rfl ?_
              refine V_i2l (pc := 125) dX3_measured_125 ?_
              refine V_callS (pc := 126) dX3_measured_126 (F' := 0) (As := [vl ((foldM (labC m c j) (numC m q d col) e i).2.2.2.2.1), vl x76]) (st := []) cw_RX3_58 rfl rfl (Nat.le_of_ble_eq_true rfl) (by omega) (j_max_l  m ((foldM (labC m c j) (numC m q d col) e i).2.2.2.2.1) x76   ) ?_
              rintro _ _ ⟨x126, rfl, hx126, rfl⟩ ok126 le126
              refine V_st (pc := 129) dX3_measured_129 (ls' := [(12, vl x126), (10, vl x76), (8, vl (((foldM (labC m c j) (numC m q d col) e i).2.2.1) + x76)), (20, vi x76), (6, vi (((foldM (labC m c j) (numC m q d col) e i).1) + 1)), (19, vi x43), (18, vi ((i : Nat) : Int)), (16, vl ((foldM (labC m c j) (numC m q d col) e i).2.2.2.2.2.2)), (14, vl ((foldM (labC m c j) (numC m q d col) e i).2.2.2.2.2.1)), (7, vi ((foldM (labC m c j) (numC m q d col) e i).2.1)), (0, vr t), (1, vi j), (2, vi e), (3, vi col), (4, vi w), (5, vr q)]) rfl (Nat.le_of_ble_eq_true rfl) rfl ?_
              refine V_ld (pc := 131) dX3_measured_131 (v := vi ((foldM (labC m c j) (numC m q d col) e i).2.1)) rfl rfl ?_
              refine V_if_ne (pc := 133) dX3_measured_133 (tgt := 142) rfl (fun h133 => ?_) (fun h133 => ?_)
              · skip
                refine V_ld (pc := 142) dX3_measured_142 (v := vl ((foldM (labC m c j) (numC m q d col) e i).2.2.2.2.2.1)) rfl rfl ?_
                refine V_st (pc := 144) dX3_measured_144 (ls' := [(14, vl ((foldM (labC m c j) (numC m q d col) e i).2.2.2.2.2.1)), (12, vl x126), (10, vl x76), (8, vl (((foldM (labC m c j) (numC m q d col) e i).2.2.1) + x76)), (20, vi x76), (6, vi (((foldM (labC m c j) (numC m q d col) e i).1) + 1)), (19, vi x43), (18, vi ((i : Nat) : Int)), (16, vl ((foldM (labC m c j) (numC m q d col) e i).2.2.2.2.2.2)), (7, vi ((foldM (labC m c j) (numC m q d col) e i).2.1)), (0, vr t), (1, vi j), (2, vi e), (3, vi col), (4, vi w), (5, vr q)]) rfl (Nat.le_of_ble_eq_true rfl) rfl ?_
                refine V_ld (pc := 146) dX3_measured_146 (v := vi x76) rfl rfl ?_
                refine V_i2l (pc := 148) dX3_measured_148 ?_
                refine V_st (pc := 149) dX3_measured_149 (ls' := [(16, vl x76), (14, vl ((foldM (labC m c j) (numC m q d col) e i).2.2.2.2.2.1)), (12, vl x126), (10, vl x76), (8, vl (((foldM (labC m c j) (numC m q d col) e i).2.2.1) + x76)), (20, vi x76), (6, vi (((foldM (labC m c j) (numC m q d col) e i).1) + 1)), (19, vi x43), (18, vi ((i : Nat) : Int)), (7, vi ((foldM (labC m c j) (numC m q d col) e i).2.1)), (0, vr t), (1, vi j), (2, vi e), (3, vi col), (4, vi w), (5, vr q)]) rfl (Nat.le_of_ble_eq_true rfl) rfl ?_
                refine V_iinc (pc := 151) dX3_measured_151 (x := ((foldM (labC m c j) (numC m q d col) e i).2.1)) (ls' := [(7, vi (((foldM (labC m c j) (numC m q d col) e i).2.1) + 1)), (16, vl x76), (14, vl ((foldM (labC m c j) (numC m q d col) e i).2.2.2.2.2.1)), (12, vl x126), (10, vl x76), (8, vl (((foldM (labC m c j) (numC m q d col) e i).2.2.1) + x76)), (20, vi x76), (6, vi (((foldM (labC m c j) (numC m q d col) e i).1) + 1)), (19, vi x43), (18, vi ((i : Nat) : Int)), (0, vr t), (1, vi j), (2, vi e), (3, vi col), (4, vi w), (5, vr q)]) rfl (by have hb := foldM_bd (L := e) (lab := labC m c j) hnum i; unfold I32; (try unfold I32 at *); omega) (Nat.le_of_ble_eq_true rfl) rfl ?_
                refine V_iinc (pc := 154) dX3_measured_154 (x := ((i : Nat) : Int)) (ls' := [(18, vi (((i : Nat) : Int) + 1)), (7, vi (((foldM (labC m c j) (numC m q d col) e i).2.1) + 1)), (16, vl x76), (14, vl ((foldM (labC m c j) (numC m q d col) e i).2.2.2.2.2.1)), (12, vl x126), (10, vl x76), (8, vl (((foldM (labC m c j) (numC m q d col) e i).2.2.1) + x76)), (20, vi x76), (6, vi (((foldM (labC m c j) (numC m q d col) e i).1) + 1)), (19, vi x43), (0, vr t), (1, vi j), (2, vi e), (3, vi col), (4, vi w), (5, vr q)]) rfl (by unfold I32 at *; omega) (Nat.le_of_ble_eq_true rfl) rfl ?_
                refine V_goto (pc := 157) dX3_measured_157 (tgt := 32) rfl ?_
                have ela : (mI m c (j * 32 + (i : Int)).toNat) = x43 := by omega
                have enu : (if (i : Int) < mI m q 1 then mI m d ((i : Int) * 2 + col).toNat else 1000) = x76 := by omega
                have e_ : foldM (labC m c j) (numC m q d col) e (i + 1) = (((foldM (labC m c j) (numC m q d col) e i).1) + 1, ((foldM (labC m c j) (numC m q d col) e i).2.1) + 1, ((foldM (labC m c j) (numC m q d col) e i).2.2.1) + x76, x76, x126, (foldM (labC m c j) (numC m q d col) e i).2.2.2.2.2.1, x76) := by
                  show stepM (mI m c (j * 32 + (i : Int)).toNat) (if (i : Int) < mI m q 1 then mI m d ((i : Int) * 2 + col).toNat else 1000) e (foldM (labC m c j) (numC m q d col) e i) = _
                  rw [ela, enu]
                  unfold stepM
                  first
                    | (exfalso; omega)
                    | (rw [if_neg (by omega)])
                    | (rw [if_pos (by omega), if_pos (by omega)])
                    | (rw [if_pos (by omega), if_neg (by omega)]; simp only [Prod.mk.injEq]; repeat' apply And.intro
                       all_goals (first | trivial | omega))
                have h_ := ih (i + 1) (by omega)
                rw [e_] at h_
                refine V_ls (ls' := [(18, vi (((i : Nat) : Int) + 1)), (16, vl x76), (14, vl ((foldM (labC m c j) (numC m q d col) e i).2.2.2.2.2.1)), (12, vl x126), (10, vl x76), (8, vl (((foldM (labC m c j) (numC m q d col) e i).2.2.1) + x76)), (7, vi (((foldM (labC m c j) (numC m q d col) e i).2.1) + 1)), (6, vi (((foldM (labC m c j) (numC m q d col) e i).1) + 1)), (0, vr t), (1, vi j), (2, vi e), (3, vi col), (4, vi w), (5, vr q)]) (by intro q_ h_; simp only [List.mem_cons, List.not_mem_nil, or_false] at h_ ⊢; rcases h_ with rfl | rfl | rfl | rfl | rfl | rfl | rfl | rfl | rfl | rfl | rfl | rfl | rfl | rfl <;> simp) ?_
                exact h_
              · skip
                refine V_ld (pc := 136) dX3_measured_136 (v := vi x76) rfl rfl ?_
                refine V_i2l (pc := 138) dX3_measured_138 ?_
                refine V_goto (pc := 139) dX3_measured_139 (tgt := 144) rfl ?_
                refine V_st (pc := 144) dX3_measured_144 (ls' := [(14, vl x76), (12, vl x126), (10, vl x76), (8, vl (((foldM (labC m c j) (numC m q d col) e i).2.2.1) + x76)), (20, vi x76), (6, vi (((foldM (labC m c j) (numC m q d col) e i).1) + 1)), (19, vi x43), (18, vi ((i : Nat) : Int)), (16, vl ((foldM (labC m c j) (numC m q d col) e i).2.2.2.2.2.2)), (7, vi ((foldM (labC m c j) (numC m q d col) e i).2.1)), (0, vr t), (1, vi j), (2, vi e), (3, vi col), (4, vi w), (5, vr q)]) rfl (Nat.le_of_ble_eq_true rfl) rfl ?_
                refine V_ld (pc := 146) dX3_measured_146 (v := vi x76) rfl rfl ?_
                refine V_i2l (pc := 148) dX3_measured_148 ?_
                refine V_st (pc := 149) dX3_measured_149 (ls' := [(16, vl x76), (14, vl x76), (12, vl x126), (10, vl x76), (8, vl (((foldM (labC m c j) (numC m q d col) e i).2.2.1) + x76)), (20, vi x76), (6, vi (((foldM (labC m c j) (numC m q d col) e i).1) + 1)), (19, vi x43), (18, vi ((i : Nat) : Int)), (7, vi ((foldM (labC m c j) (numC m q d col) e i).2.1)), (0, vr t), (1, vi j), (2, vi e), (3, vi col), (4, vi w), (5, vr q)]) rfl (Nat.le_of_ble_eq_true rfl) rfl ?_
                refine V_iinc (pc := 151) dX3_measured_151 (x := ((foldM (labC m c j) (numC m q d col) e i).2.1)) (ls' := [(7, vi (((foldM (labC m c j) (numC m q d col) e i).2.1) + 1)), (16, vl x76), (14, vl x76), (12, vl x126), (10, vl x76), (8, vl (((foldM (labC m c j) (numC m q d col) e i).2.2.1) + x76)), (20, vi x76), (6, vi (((foldM (labC m c j) (numC m q d col) e i).1) + 1)), (19, vi x43), (18, vi ((i : Nat) : Int)), (0, vr t), (1, vi j), (2, vi e), (3, vi col), (4, vi w), (5, vr q)]) rfl (by have hb := foldM_bd (L := e) (lab := labC m c j) hnum i; unfold I32; (try unfold I32 at *); omega) (Nat.le_of_ble_eq_true rfl) rfl ?_
                refine V_iinc (pc := 154) dX3_measured_154 (x := ((i : Nat) : Int)) (ls' := [(18, vi (((i : Nat) : Int) + 1)), (7, vi (((foldM (labC m c j) (numC m q d col) e i).2.1) + 1)), (16, vl x76), (14, vl x76), (12, vl x126), (10, vl x76), (8, vl (((foldM (labC m c j) (numC m q d col) e i).2.2.1) + x76)), (20, vi x76), (6, vi (((foldM (labC m c j) (numC m q d col) e i).1) + 1)), (19, vi x43), (0, vr t), (1, vi j), (2, vi e), (3, vi col), (4, vi w), (5, vr q)]) rfl (by unfold I32 at *; omega) (Nat.le_of_ble_eq_true rfl) rfl ?_
                refine V_goto (pc := 157) dX3_measured_157 (tgt := 32) rfl ?_
                have ela : (mI m c (j * 32 + (i : Int)).toNat) = x43 := by omega
                have enu : (if (i : Int) < mI m q 1 then mI m d ((i : Int) * 2 + col).toNat else 1000) = x76 := by omega
                have e_ : foldM (labC m c j) (numC m q d col) e (i + 1) = (((foldM (labC m c j) (numC m q d col) e i).1) + 1, ((foldM (labC m c j) (numC m q d col) e i).2.1) + 1, ((foldM (labC m c j) (numC m q d col) e i).2.2.1) + x76, x76, x126, x76, x76) := by
                  show stepM (mI m c (j * 32 + (i : Int)).toNat) (if (i : Int) < mI m q 1 then mI m d ((i : Int) * 2 + col).toNat else 1000) e (foldM (labC m c j) (numC m q d col) e i) = _
                  rw [ela, enu]
                  unfold stepM
                  first
                    | (exfalso; omega)
                    | (rw [if_neg (by omega)])
                    | (rw [if_pos (by omega), if_pos (by omega)])
                    | (rw [if_pos (by omega), if_neg (by omega)]; simp only [Prod.mk.injEq]; repeat' apply And.intro
                       all_goals (first | trivial | omega))
                have h_ := ih (i + 1) (by omega)
                rw [e_] at h_
                refine V_ls (ls' := [(18, vi (((i : Nat) : Int) + 1)), (16, vl x76), (14, vl x76), (12, vl x126), (10, vl x76), (8, vl (((foldM (labC m c j) (numC m q d col) e i).2.2.1) + x76)), (7, vi (((foldM (labC m c j) (numC m q d col) e i).2.1) + 1)), (6, vi (((foldM (labC m c j) (numC m q d col) e i).1) + 1)), (0, vr t), (1, vi j), (2, vi e), (3, vi col), (4, vi w), (5, vr q)]) (by intro q_ h_; simp only [List.mem_cons, List.not_mem_nil, or_false] at h_ ⊢; rcases h_ with rfl | rfl | rfl | rfl | rfl | rfl | rfl | rfl | rfl | rfl | rfl | rfl | rfl | rfl <;> simp) ?_
                exact h_
          · skip
            refine V_goto (pc := 89) dX3_measured_89 (tgt := 154) rfl ?_
            refine V_iinc (pc := 154) dX3_measured_154 (x := ((i : Nat) : Int)) (ls' := [(18, vi (((i : Nat) : Int) + 1)), (20, vi x76), (6, vi (((foldM (labC m c j) (numC m q d col) e i).1) + 1)), (19, vi x43), (16, vl ((foldM (labC m c j) (numC m q d col) e i).2.2.2.2.2.2)), (14, vl ((foldM (labC m c j) (numC m q d col) e i).2.2.2.2.2.1)), (12, vl ((foldM (labC m c j) (numC m q d col) e i).2.2.2.2.1)), (10, vl ((foldM (labC m c j) (numC m q d col) e i).2.2.2.1)), (8, vl ((foldM (labC m c j) (numC m q d col) e i).2.2.1)), (7, vi ((foldM (labC m c j) (numC m q d col) e i).2.1)), (0, vr t), (1, vi j), (2, vi e), (3, vi col), (4, vi w), (5, vr q)]) rfl (by unfold I32 at *; omega) (Nat.le_of_ble_eq_true rfl) rfl ?_
            refine V_goto (pc := 157) dX3_measured_157 (tgt := 32) rfl ?_
            have ela : (mI m c (j * 32 + (i : Int)).toNat) = x43 := by omega
            have enu : (if (i : Int) < mI m q 1 then mI m d ((i : Int) * 2 + col).toNat else 1000) = x76 := by omega
            have e_ : foldM (labC m c j) (numC m q d col) e (i + 1) = (((foldM (labC m c j) (numC m q d col) e i).1) + 1, (foldM (labC m c j) (numC m q d col) e i).2.1, (foldM (labC m c j) (numC m q d col) e i).2.2.1, (foldM (labC m c j) (numC m q d col) e i).2.2.2.1, (foldM (labC m c j) (numC m q d col) e i).2.2.2.2.1, (foldM (labC m c j) (numC m q d col) e i).2.2.2.2.2.1, (foldM (labC m c j) (numC m q d col) e i).2.2.2.2.2.2) := by
              show stepM (mI m c (j * 32 + (i : Int)).toNat) (if (i : Int) < mI m q 1 then mI m d ((i : Int) * 2 + col).toNat else 1000) e (foldM (labC m c j) (numC m q d col) e i) = _
              rw [ela, enu]
              unfold stepM
              first
                | (exfalso; omega)
                | (rw [if_neg (by omega)])
                | (rw [if_pos (by omega), if_pos (by omega)])
                | (rw [if_pos (by omega), if_neg (by omega)]; simp only [Prod.mk.injEq]; repeat' apply And.intro
                   all_goals (first | trivial | omega))
            have h_ := ih (i + 1) (by omega)
            rw [e_] at h_
            refine V_ls (ls' := [(18, vi (((i : Nat) : Int) + 1)), (16, vl ((foldM (labC m c j) (numC m q d col) e i).2.2.2.2.2.2)), (14, vl ((foldM (labC m c j) (numC m q d col) e i).2.2.2.2.2.1)), (12, vl ((foldM (labC m c j) (numC m q d col) e i).2.2.2.2.1)), (10, vl ((foldM (labC m c j) (numC m q d col) e i).2.2.2.1)), (8, vl ((foldM (labC m c j) (numC m q d col) e i).2.2.1)), (7, vi ((foldM (labC m c j) (numC m q d col) e i).2.1)), (6, vi (((foldM (labC m c j) (numC m q d col) e i).1) + 1)), (0, vr t), (1, vi j), (2, vi e), (3, vi col), (4, vi w), (5, vr q)]) (by intro q_ h_; simp only [List.mem_cons, List.not_mem_nil, or_false] at h_ ⊢; rcases h_ with rfl | rfl | rfl | rfl | rfl | rfl | rfl | rfl | rfl | rfl | rfl | rfl | rfl | rfl <;> simp) ?_
            exact h_
        · skip
          refine V_ld (pc := 59) dX3_measured_59 (v := vi x43) rfl rfl ?_
          refine V_ld (pc := 61) dX3_measured_61 (v := vi e) rfl rfl ?_
          refine V_icmp_eq (pc := 62) dX3_measured_62 (tgt := 68) rfl (fun h62 => ?_) (fun h62 => ?_)
          · skip
            refine V_iinc (pc := 68) dX3_measured_68 (x := ((foldM (labC m c j) (numC m q d col) e i).1)) (ls' := [(6, vi (((foldM (labC m c j) (numC m q d col) e i).1) + 1)), (19, vi x43), (18, vi ((i : Nat) : Int)), (16, vl ((foldM (labC m c j) (numC m q d col) e i).2.2.2.2.2.2)), (14, vl ((foldM (labC m c j) (numC m q d col) e i).2.2.2.2.2.1)), (12, vl ((foldM (labC m c j) (numC m q d col) e i).2.2.2.2.1)), (10, vl ((foldM (labC m c j) (numC m q d col) e i).2.2.2.1)), (8, vl ((foldM (labC m c j) (numC m q d col) e i).2.2.1)), (7, vi ((foldM (labC m c j) (numC m q d col) e i).2.1)), (0, vr t), (1, vi j), (2, vi e), (3, vi col), (4, vi w), (5, vr q)]) rfl (by have hb := foldM_bd (L := e) (lab := labC m c j) hnum i; unfold I32; (try unfold I32 at *); omega) (Nat.le_of_ble_eq_true rfl) rfl ?_
            refine V_ld (pc := 71) dX3_measured_71 (v := vr q) rfl rfl ?_
            refine V_ld (pc := 73) dX3_measured_73 (v := vi ((i : Nat) : Int)) rfl rfl ?_
            refine V_ld (pc := 75) dX3_measured_75 (v := vi col) rfl rfl ?_
            refine V_callV (pc := 76) dX3_measured_76 (F' := 0) (As := [vi ((i : Nat) : Int), vi col]) (st := []) cw_RX3_47 rfl rfl T_q (by decide) (Nat.le_of_ble_eq_true rfl) (by omega) (c_number  m q ((i : Nat) : Int) col d  T_q R_q_0 T_d) ?_
            rintro _ _ ⟨x76, rfl, hx76, rfl⟩ ok76 le76
            refine V_st (pc := 79) dX3_measured_79 (ls' := [(20, vi x76), (6, vi (((foldM (labC m c j) (numC m q d col) e i).1) + 1)), (19, vi x43), (18, vi ((i : Nat) : Int)), (16, vl ((foldM (labC m c j) (numC m q d col) e i).2.2.2.2.2.2)), (14, vl ((foldM (labC m c j) (numC m q d col) e i).2.2.2.2.2.1)), (12, vl ((foldM (labC m c j) (numC m q d col) e i).2.2.2.2.1)), (10, vl ((foldM (labC m c j) (numC m q d col) e i).2.2.2.1)), (8, vl ((foldM (labC m c j) (numC m q d col) e i).2.2.1)), (7, vi ((foldM (labC m c j) (numC m q d col) e i).2.1)), (0, vr t), (1, vi j), (2, vi e), (3, vi col), (4, vi w), (5, vr q)]) rfl (Nat.le_of_ble_eq_true rfl) rfl ?_
            refine V_ld (pc := 81) dX3_measured_81 (v := vi x76) rfl rfl ?_
            refine V_sipush (pc := 83) dX3_measured_83 (by unfold I32; omega) (by decide) ?_
            refine V_icmp_ne (pc := 86) dX3_measured_86 (tgt := 92) rfl (fun h86 => ?_) (fun h86 => ?_)
            · skip
              refine V_ld (pc := 92) dX3_measured_92 (v := vl ((foldM (labC m c j) (numC m q d col) e i).2.2.1)) rfl rfl ?_
              refine V_ld (pc := 94) dX3_measured_94 (v := vi x76) rfl rfl ?_
              refine V_i2l (pc := 96) dX3_measured_96 ?_
              refine V_ladd (pc := 97) dX3_measured_97 (by have hb := foldM_bd (L := e) (lab := labC m c j) hnum i; unfold I64; (try unfold I32 at *); omega) ?_
              refine V_st (pc := 98) dX3_measured_98 (ls' := [(8, vl (((foldM (labC m c j) (numC m q d col) e i).2.2.1) + x76)), (20, vi x76), (6, vi (((foldM (labC m c j) (numC m q d col) e i).1) + 1)), (19, vi x43), (18, vi ((i : Nat) : Int)), (16, vl ((foldM (labC m c j) (numC m q d col) e i).2.2.2.2.2.2)), (14, vl ((foldM (labC m c j) (numC m q d col) e i).2.2.2.2.2.1)), (12, vl ((foldM (labC m c j) (numC m q d col) e i).2.2.2.2.1)), (10, vl ((foldM (labC m c j) (numC m q d col) e i).2.2.2.1)), (7, vi ((foldM (labC m c j) (numC m q d col) e i).2.1)), (0, vr t), (1, vi j), (2, vi e), (3, vi col), (4, vi w), (5, vr q)]) rfl (Nat.le_of_ble_eq_true rfl) rfl ?_
              refine V_ld (pc := 100) dX3_measured_100 (v := vi ((foldM (labC m c j) (numC m q d col) e i).2.1)) rfl rfl ?_
              refine V_if_ne (pc := 102) dX3_measured_102 (tgt := 111) rfl (fun h102 => ?_) (fun h102 => ?_)
              · skip
                refine V_ld (pc := 111) dX3_measured_111 (v := vl ((foldM (labC m c j) (numC m q d col) e i).2.2.2.1)) rfl rfl ?_
                refine V_ld (pc := 113) dX3_measured_113 (v := vi x76) rfl rfl ?_
                refine V_i2l (pc := 115) dX3_measured_115 ?_
                refine V_callS (pc := 116) dX3_measured_116 (F' := 0) (As := [vl ((foldM (labC m c j) (numC m q d col) e i).2.2.2.1), vl x76]) (st := []) cw_RX3_52 rfl rfl (Nat.le_of_ble_eq_true rfl) (by omega) (j_min_l  m ((foldM (labC m c j) (numC m q d col) e i).2.2.2.1) x76   ) ?_
                rintro _ _ ⟨x116, rfl, hx116, rfl⟩ ok116 le116
                refine V_st (pc := 119) dX3_measured_119 (ls' := [(10, vl x116), (8, vl (((foldM (labC m c j) (numC m q d col) e i).2.2.1) + x76)), (20, vi x76), (6, vi (((foldM (labC m c j) (numC m q d col) e i).1) + 1)), (19, vi x43), (18, vi ((i : Nat) : Int)), (16, vl ((foldM (labC m c j) (numC m q d col) e i).2.2.2.2.2.2)), (14, vl ((foldM (labC m c j) (numC m q d col) e i).2.2.2.2.2.1)), (12, vl ((foldM (labC m c j) (numC m q d col) e i).2.2.2.2.1)), (7, vi ((foldM (labC m c j) (numC m q d col) e i).2.1)), (0, vr t), (1, vi j), (2, vi e), (3, vi col), (4, vi w), (5, vr q)]) rfl (Nat.le_of_ble_eq_true rfl) rfl ?_
                refine V_ld (pc := 121) dX3_measured_121 (v := vl ((foldM (labC m c j) (numC m q d col) e i).2.2.2.2.1)) rfl rfl ?_
                refine V_ld (pc := 123) dX3_measured_123 (v := vi x76) rfl rfl ?_
                refine V_i2l (pc := 125) dX3_measured_125 ?_
                refine V_callS (pc := 126) dX3_measured_126 (F' := 0) (As := [vl ((foldM (labC m c j) (numC m q d col) e i).2.2.2.2.1), vl x76]) (st := []) cw_RX3_58 rfl rfl (Nat.le_of_ble_eq_true rfl) (by omega) (j_max_l  m ((foldM (labC m c j) (numC m q d col) e i).2.2.2.2.1) x76   ) ?_
                rintro _ _ ⟨x126, rfl, hx126, rfl⟩ ok126 le126
                refine V_st (pc := 129) dX3_measured_129 (ls' := [(12, vl x126), (10, vl x116), (8, vl (((foldM (labC m c j) (numC m q d col) e i).2.2.1) + x76)), (20, vi x76), (6, vi (((foldM (labC m c j) (numC m q d col) e i).1) + 1)), (19, vi x43), (18, vi ((i : Nat) : Int)), (16, vl ((foldM (labC m c j) (numC m q d col) e i).2.2.2.2.2.2)), (14, vl ((foldM (labC m c j) (numC m q d col) e i).2.2.2.2.2.1)), (7, vi ((foldM (labC m c j) (numC m q d col) e i).2.1)), (0, vr t), (1, vi j), (2, vi e), (3, vi col), (4, vi w), (5, vr q)]) rfl (Nat.le_of_ble_eq_true rfl) rfl ?_
                refine V_ld (pc := 131) dX3_measured_131 (v := vi ((foldM (labC m c j) (numC m q d col) e i).2.1)) rfl rfl ?_
                refine V_if_ne (pc := 133) dX3_measured_133 (tgt := 142) rfl (fun h133 => ?_) (fun h133 => ?_)
                · skip
                  refine V_ld (pc := 142) dX3_measured_142 (v := vl ((foldM (labC m c j) (numC m q d col) e i).2.2.2.2.2.1)) rfl rfl ?_
                  refine V_st (pc := 144) dX3_measured_144 (ls' := [(14, vl ((foldM (labC m c j) (numC m q d col) e i).2.2.2.2.2.1)), (12, vl x126), (10, vl x116), (8, vl (((foldM (labC m c j) (numC m q d col) e i).2.2.1) + x76)), (20, vi x76), (6, vi (((foldM (labC m c j) (numC m q d col) e i).1) + 1)), (19, vi x43), (18, vi ((i : Nat) : Int)), (16, vl ((foldM (labC m c j) (numC m q d col) e i).2.2.2.2.2.2)), (7, vi ((foldM (labC m c j) (numC m q d col) e i).2.1)), (0, vr t), (1, vi j), (2, vi e), (3, vi col), (4, vi w), (5, vr q)]) rfl (Nat.le_of_ble_eq_true rfl) rfl ?_
                  refine V_ld (pc := 146) dX3_measured_146 (v := vi x76) rfl rfl ?_
                  refine V_i2l (pc := 148) dX3_measured_148 ?_
                  refine V_st (pc := 149) dX3_measured_149 (ls' := [(16, vl x76), (14, vl ((foldM (labC m c j) (numC m q d col) e i).2.2.2.2.2.1)), (12, vl x126), (10, vl x116), (8, vl (((foldM (labC m c j) (numC m q d col) e i).2.2.1) + x76)), (20, vi x76), (6, vi (((foldM (labC m c j) (numC m q d col) e i).1) + 1)), (19, vi x43), (18, vi ((i : Nat) : Int)), (7, vi ((foldM (labC m c j) (numC m q d col) e i).2.1)), (0, vr t), (1, vi j), (2, vi e), (3, vi col), (4, vi w), (5, vr q)]) rfl (Nat.le_of_ble_eq_true rfl) rfl ?_
                  refine V_iinc (pc := 151) dX3_measured_151 (x := ((foldM (labC m c j) (numC m q d col) e i).2.1)) (ls' := [(7, vi (((foldM (labC m c j) (numC m q d col) e i).2.1) + 1)), (16, vl x76), (14, vl ((foldM (labC m c j) (numC m q d col) e i).2.2.2.2.2.1)), (12, vl x126), (10, vl x116), (8, vl (((foldM (labC m c j) (numC m q d col) e i).2.2.1) + x76)), (20, vi x76), (6, vi (((foldM (labC m c j) (numC m q d col) e i).1) + 1)), (19, vi x43), (18, vi ((i : Nat) : Int)), (0, vr t), (1, vi j), (2, vi e), (3, vi col), (4, vi w), (5, vr q)]) rfl (by have hb := foldM_bd (L := e) (lab := labC m c j) hnum i; unfold I32; (try unfold I32 at *); omega) (Nat.le_of_ble_eq_true rfl) rfl ?_
                  refine V_iinc (pc := 154) dX3_measured_154 (x := ((i : Nat) : Int)) (ls' := [(18, vi (((i : Nat) : Int) + 1)), (7, vi (((foldM (labC m c j) (numC m q d col) e i).2.1) + 1)), (16, vl x76), (14, vl ((foldM (labC m c j) (numC m q d col) e i).2.2.2.2.2.1)), (12, vl x126), (10, vl x116), (8, vl (((foldM (labC m c j) (numC m q d col) e i).2.2.1) + x76)), (20, vi x76), (6, vi (((foldM (labC m c j) (numC m q d col) e i).1) + 1)), (19, vi x43), (0, vr t), (1, vi j), (2, vi e), (3, vi col), (4, vi w), (5, vr q)]) rfl (by unfold I32 at *; omega) (Nat.le_of_ble_eq_true rfl) rfl ?_
                  refine V_goto (pc := 157) dX3_measured_157 (tgt := 32) rfl ?_
                  have ela : (mI m c (j * 32 + (i : Int)).toNat) = x43 := by omega
                  have enu : (if (i : Int) < mI m q 1 then mI m d ((i : Int) * 2 + col).toNat else 1000) = x76 := by omega
                  have e_ : foldM (labC m c j) (numC m q d col) e (i + 1) = (((foldM (labC m c j) (numC m q d col) e i).1) + 1, ((foldM (labC m c j) (numC m q d col) e i).2.1) + 1, ((foldM (labC m c j) (numC m q d col) e i).2.2.1) + x76, x116, x126, (foldM (labC m c j) (numC m q d col) e i).2.2.2.2.2.1, x76) := by
                    show stepM (mI m c (j * 32 + (i : Int)).toNat) (if (i : Int) < mI m q 1 then mI m d ((i : Int) * 2 + col).toNat else 1000) e (foldM (labC m c j) (numC m q d col) e i) = _
                    rw [ela, enu]
                    unfold stepM
                    first
                      | (exfalso; omega)
                      | (rw [if_neg (by omega)])
                      | (rw [if_pos (by omega), if_pos (by omega)])
                      | (rw [if_pos (by omega), if_neg (by omega)]; simp only [Prod.mk.injEq]; repeat' apply And.intro
                         all_goals (first | trivial | omega))
                  have h_ := ih (i + 1) (by omega)
                  rw [e_] at h_
                  refine V_ls (ls' := [(18, vi (((i : Nat) : Int) + 1)), (16, vl x76), (14, vl ((foldM (labC m c j) (numC m q d col) e i).2.2.2.2.2.1)), (12, vl x126), (10, vl x116), (8, vl (((foldM (labC m c j) (numC m q d col) e i).2.2.1) + x76)), (7, vi (((foldM (labC m c j) (numC m q d col) e i).2.1) + 1)), (6, vi (((foldM (labC m c j) (numC m q d col) e i).1) + 1)), (0, vr t), (1, vi j), (2, vi e), (3, vi col), (4, vi w), (5, vr q)]) (by intro q_ h_; simp only [List.mem_cons, List.not_mem_nil, or_false] at h_ ⊢; rcases h_ with rfl | rfl | rfl | rfl | rfl | rfl | rfl | rfl | rfl | rfl | rfl | rfl | rfl | rfl <;> simp) ?_
                  exact h_
                · skip
                  refine V_ld (pc := 136) dX3_measured_136 (v := vi x76) rfl rfl ?_
                  refine V_i2l (pc := 138) dX3_measured_138 ?_
                  refine V_goto (pc := 139) dX3_measured_139 (tgt := 144) rfl ?_
                  refine V_st (pc := 144) dX3_measured_144 (ls' := [(14, vl x76), (12, vl x126), (10, vl x116), (8, vl (((foldM (labC m c j) (numC m q d col) e i).2.2.1) + x76)), (20, vi x76), (6, vi (((foldM (labC m c j) (numC m q d col) e i).1) + 1)), (19, vi x43), (18, vi ((i : Nat) : Int)), (16, vl ((foldM (labC m c j) (numC m q d col) e i).2.2.2.2.2.2)), (7, vi ((foldM (labC m c j) (numC m q d col) e i).2.1)), (0, vr t), (1, vi j), (2, vi e), (3, vi col), (4, vi w), (5, vr q)]) rfl (Nat.le_of_ble_eq_true rfl) rfl ?_
                  refine V_ld (pc := 146) dX3_measured_146 (v := vi x76) rfl rfl ?_
                  refine V_i2l (pc := 148) dX3_measured_148 ?_
                  refine V_st (pc := 149) dX3_measured_149 (ls' := [(16, vl x76), (14, vl x76), (12, vl x126), (10, vl x116), (8, vl (((foldM (labC m c j) (numC m q d col) e i).2.2.1) + x76)), (20, vi x76), (6, vi (((foldM (labC m c j) (numC m q d col) e i).1) + 1)), (19, vi x43), (18, vi ((i : Nat) : Int)), (7, vi ((foldM (labC m c j) (numC m q d col) e i).2.1)), (0, vr t), (1, vi j), (2, vi e), (3, vi col), (4, vi w), (5, vr q)]) rfl (Nat.le_of_ble_eq_true rfl) rfl ?_
                  refine V_iinc (pc := 151) dX3_measured_151 (x := ((foldM (labC m c j) (numC m q d col) e i).2.1)) (ls' := [(7, vi (((foldM (labC m c j) (numC m q d col) e i).2.1) + 1)), (16, vl x76), (14, vl x76), (12, vl x126), (10, vl x116), (8, vl (((foldM (labC m c j) (numC m q d col) e i).2.2.1) + x76)), (20, vi x76), (6, vi (((foldM (labC m c j) (numC m q d col) e i).1) + 1)), (19, vi x43), (18, vi ((i : Nat) : Int)), (0, vr t), (1, vi j), (2, vi e), (3, vi col), (4, vi w), (5, vr q)]) rfl (by have hb := foldM_bd (L := e) (lab := labC m c j) hnum i; unfold I32; (try unfold I32 at *); omega) (Nat.le_of_ble_eq_true rfl) rfl ?_
                  refine V_iinc (pc := 154) dX3_measured_154 (x := ((i : Nat) : Int)) (ls' := [(18, vi (((i : Nat) : Int) + 1)), (7, vi (((foldM (labC m c j) (numC m q d col) e i).2.1) + 1)), (16, vl x76), (14, vl x76), (12, vl x126), (10, vl x116), (8, vl (((foldM (labC m c j) (numC m q d col) e i).2.2.1) + x76)), (20, vi x76), (6, vi (((foldM (labC m c j) (numC m q d col) e i).1) + 1)), (19, vi x43), (0, vr t), (1, vi j), (2, vi e), (3, vi col), (4, vi w), (5, vr q)]) rfl (by unfold I32 at *; omega) (Nat.le_of_ble_eq_true rfl) rfl ?_
                  refine V_goto (pc := 157) dX3_measured_157 (tgt := 32) rfl ?_
                  have ela : (mI m c (j * 32 + (i : Int)).toNat) = x43 := by omega
                  have enu : (if (i : Int) < mI m q 1 then mI m d ((i : Int) * 2 + col).toNat else 1000) = x76 := by omega
                  have e_ : foldM (labC m c j) (numC m q d col) e (i + 1) = (((foldM (labC m c j) (numC m q d col) e i).1) + 1, ((foldM (labC m c j) (numC m q d col) e i).2.1) + 1, ((foldM (labC m c j) (numC m q d col) e i).2.2.1) + x76, x116, x126, x76, x76) := by
                    show stepM (mI m c (j * 32 + (i : Int)).toNat) (if (i : Int) < mI m q 1 then mI m d ((i : Int) * 2 + col).toNat else 1000) e (foldM (labC m c j) (numC m q d col) e i) = _
                    rw [ela, enu]
                    unfold stepM
                    first
                      | (exfalso; omega)
                      | (rw [if_neg (by omega)])
                      | (rw [if_pos (by omega), if_pos (by omega)])
                      | (rw [if_pos (by omega), if_neg (by omega)]; simp only [Prod.mk.injEq]; repeat' apply And.intro
                         all_goals (first | trivial | omega))
                  have h_ := ih (i + 1) (by omega)
                  rw [e_] at h_
                  refine V_ls (ls' := [(18, vi (((i : Nat) : Int) + 1)), (16, vl x76), (14, vl x76), (12, vl x126), (10, vl x116), (8, vl (((foldM (labC m c j) (numC m q d col) e i).2.2.1) + x76)), (7, vi (((foldM (labC m c j) (numC m q d col) e i).2.1) + 1)), (6, vi (((foldM (labC m c j) (numC m q d col) e i).1) + 1)), (0, vr t), (1, vi j), (2, vi e), (3, vi col), (4, vi w), (5, vr q)]) (by intro q_ h_; simp only [List.mem_cons, List.not_mem_nil, or_false] at h_ ⊢; rcases h_ with rfl | rfl | rfl | rfl | rfl | rfl | rfl | rfl | rfl | rfl | rfl | rfl | rfl | rfl <;> simp) ?_
                  exact h_
              · skip
                refine V_ld (pc := 105) dX3_measured_105 (v := vi x76) rfl rfl ?_
                refine V_i2l (pc := 107) dX3_measured_107 ?_
                refine V_goto (pc := 108) dX3_measured_108 (tgt := 119) rfl ?_
                refine V_st (pc := 119) dX3_measured_119 (ls' := [(10, vl x76), (8, vl (((foldM (labC m c j) (numC m q d col) e i).2.2.1) + x76)), (20, vi x76), (6, vi (((foldM (labC m c j) (numC m q d col) e i).1) + 1)), (19, vi x43), (18, vi ((i : Nat) : Int)), (16, vl ((foldM (labC m c j) (numC m q d col) e i).2.2.2.2.2.2)), (14, vl ((foldM (labC m c j) (numC m q d col) e i).2.2.2.2.2.1)), (12, vl ((foldM (labC m c j) (numC m q d col) e i).2.2.2.2.1)), (7, vi ((foldM (labC m c j) (numC m q d col) e i).2.1)), (0, vr t), (1, vi j), (2, vi e), (3, vi col), (4, vi w), (5, vr q)]) rfl (Nat.le_of_ble_eq_true rfl) rfl ?_
                refine V_ld (pc := 121) dX3_measured_121 (v := vl ((foldM (labC m c j) (numC m q d col) e i).2.2.2.2.1)) rfl rfl ?_
                refine V_ld (pc := 123) dX3_measured_123 (v := vi x76) rfl rfl ?_
                refine V_i2l (pc := 125) dX3_measured_125 ?_
                refine V_callS (pc := 126) dX3_measured_126 (F' := 0) (As := [vl ((foldM (labC m c j) (numC m q d col) e i).2.2.2.2.1), vl x76]) (st := []) cw_RX3_58 rfl rfl (Nat.le_of_ble_eq_true rfl) (by omega) (j_max_l  m ((foldM (labC m c j) (numC m q d col) e i).2.2.2.2.1) x76   ) ?_
                rintro _ _ ⟨x126, rfl, hx126, rfl⟩ ok126 le126
                refine V_st (pc := 129) dX3_measured_129 (ls' := [(12, vl x126), (10, vl x76), (8, vl (((foldM (labC m c j) (numC m q d col) e i).2.2.1) + x76)), (20, vi x76), (6, vi (((foldM (labC m c j) (numC m q d col) e i).1) + 1)), (19, vi x43), (18, vi ((i : Nat) : Int)), (16, vl ((foldM (labC m c j) (numC m q d col) e i).2.2.2.2.2.2)), (14, vl ((foldM (labC m c j) (numC m q d col) e i).2.2.2.2.2.1)), (7, vi ((foldM (labC m c j) (numC m q d col) e i).2.1)), (0, vr t), (1, vi j), (2, vi e), (3, vi col), (4, vi w), (5, vr q)]) rfl (Nat.le_of_ble_eq_true rfl) rfl ?_
                refine V_ld (pc := 131) dX3_measured_131 (v := vi ((foldM (labC m c j) (numC m q d col) e i).2.1)) rfl rfl ?_
                refine V_if_ne (pc := 133) dX3_measured_133 (tgt := 142) rfl (fun h133 => ?_) (fun h133 => ?_)
                · skip
                  refine V_ld (pc := 142) dX3_measured_142 (v := vl ((foldM (labC m c j) (numC m q d col) e i).2.2.2.2.2.1)) rfl rfl ?_
                  refine V_st (pc := 144) dX3_measured_144 (ls' := [(14, vl ((foldM (labC m c j) (numC m q d col) e i).2.2.2.2.2.1)), (12, vl x126), (10, vl x76), (8, vl (((foldM (labC m c j) (numC m q d col) e i).2.2.1) + x76)), (20, vi x76), (6, vi (((foldM (labC m c j) (numC m q d col) e i).1) + 1)), (19, vi x43), (18, vi ((i : Nat) : Int)), (16, vl ((foldM (labC m c j) (numC m q d col) e i).2.2.2.2.2.2)), (7, vi ((foldM (labC m c j) (numC m q d col) e i).2.1)), (0, vr t), (1, vi j), (2, vi e), (3, vi col), (4, vi w), (5, vr q)]) rfl (Nat.le_of_ble_eq_true rfl) rfl ?_
                  refine V_ld (pc := 146) dX3_measured_146 (v := vi x76) rfl rfl ?_
                  refine V_i2l (pc := 148) dX3_measured_148 ?_
                  refine V_st (pc := 149) dX3_measured_149 (ls' := [(16, vl x76), (14, vl ((foldM (labC m c j) (numC m q d col) e i).2.2.2.2.2.1)), (12, vl x126), (10, vl x76), (8, vl (((foldM (labC m c j) (numC m q d col) e i).2.2.1) + x76)), (20, vi x76), (6, vi (((foldM (labC m c j) (numC m q d col) e i).1) + 1)), (19, vi x43), (18, vi ((i : Nat) : Int)), (7, vi ((foldM (labC m c j) (numC m q d col) e i).2.1)), (0, vr t), (1, vi j), (2, vi e), (3, vi col), (4, vi w), (5, vr q)]) rfl (Nat.le_of_ble_eq_true rfl) rfl ?_
                  refine V_iinc (pc := 151) dX3_measured_151 (x := ((foldM (labC m c j) (numC m q d col) e i).2.1)) (ls' := [(7, vi (((foldM (labC m c j) (numC m q d col) e i).2.1) + 1)), (16, vl x76), (14, vl ((foldM (labC m c j) (numC m q d col) e i).2.2.2.2.2.1)), (12, vl x126), (10, vl x76), (8, vl (((foldM (labC m c j) (numC m q d col) e i).2.2.1) + x76)), (20, vi x76), (6, vi (((foldM (labC m c j) (numC m q d col) e i).1) + 1)), (19, vi x43), (18, vi ((i : Nat) : Int)), (0, vr t), (1, vi j), (2, vi e), (3, vi col), (4, vi w), (5, vr q)]) rfl (by have hb := foldM_bd (L := e) (lab := labC m c j) hnum i; unfold I32; (try unfold I32 at *); omega) (Nat.le_of_ble_eq_true rfl) rfl ?_
                  refine V_iinc (pc := 154) dX3_measured_154 (x := ((i : Nat) : Int)) (ls' := [(18, vi (((i : Nat) : Int) + 1)), (7, vi (((foldM (labC m c j) (numC m q d col) e i).2.1) + 1)), (16, vl x76), (14, vl ((foldM (labC m c j) (numC m q d col) e i).2.2.2.2.2.1)), (12, vl x126), (10, vl x76), (8, vl (((foldM (labC m c j) (numC m q d col) e i).2.2.1) + x76)), (20, vi x76), (6, vi (((foldM (labC m c j) (numC m q d col) e i).1) + 1)), (19, vi x43), (0, vr t), (1, vi j), (2, vi e), (3, vi col), (4, vi w), (5, vr q)]) rfl (by unfold I32 at *; omega) (Nat.le_of_ble_eq_true rfl) rfl ?_
                  refine V_goto (pc := 157) dX3_measured_157 (tgt := 32) rfl ?_
                  have ela : (mI m c (j * 32 + (i : Int)).toNat) = x43 := by omega
                  have enu : (if (i : Int) < mI m q 1 then mI m d ((i : Int) * 2 + col).toNat else 1000) = x76 := by omega
                  have e_ : foldM (labC m c j) (numC m q d col) e (i + 1) = (((foldM (labC m c j) (numC m q d col) e i).1) + 1, ((foldM (labC m c j) (numC m q d col) e i).2.1) + 1, ((foldM (labC m c j) (numC m q d col) e i).2.2.1) + x76, x76, x126, (foldM (labC m c j) (numC m q d col) e i).2.2.2.2.2.1, x76) := by
                    show stepM (mI m c (j * 32 + (i : Int)).toNat) (if (i : Int) < mI m q 1 then mI m d ((i : Int) * 2 + col).toNat else 1000) e (foldM (labC m c j) (numC m q d col) e i) = _
                    rw [ela, enu]
                    unfold stepM
                    first
                      | (exfalso; omega)
                      | (rw [if_neg (by omega)])
                      | (rw [if_pos (by omega), if_pos (by omega)])
                      | (rw [if_pos (by omega), if_neg (by omega)]; simp only [Prod.mk.injEq]; repeat' apply And.intro
                         all_goals (first | trivial | omega))
                  have h_ := ih (i + 1) (by omega)
                  rw [e_] at h_
                  refine V_ls (ls' := [(18, vi (((i : Nat) : Int) + 1)), (16, vl x76), (14, vl ((foldM (labC m c j) (numC m q d col) e i).2.2.2.2.2.1)), (12, vl x126), (10, vl x76), (8, vl (((foldM (labC m c j) (numC m q d col) e i).2.2.1) + x76)), (7, vi (((foldM (labC m c j) (numC m q d col) e i).2.1) + 1)), (6, vi (((foldM (labC m c j) (numC m q d col) e i).1) + 1)), (0, vr t), (1, vi j), (2, vi e), (3, vi col), (4, vi w), (5, vr q)]) (by intro q_ h_; simp only [List.mem_cons, List.not_mem_nil, or_false] at h_ ⊢; rcases h_ with rfl | rfl | rfl | rfl | rfl | rfl | rfl | rfl | rfl | rfl | rfl | rfl | rfl | rfl <;> simp) ?_
                  exact h_
                · skip
                  refine V_ld (pc := 136) dX3_measured_136 (v := vi x76) rfl rfl ?_
                  refine V_i2l (pc := 138) dX3_measured_138 ?_
                  refine V_goto (pc := 139) dX3_measured_139 (tgt := 144) rfl ?_
                  refine V_st (pc := 144) dX3_measured_144 (ls' := [(14, vl x76), (12, vl x126), (10, vl x76), (8, vl (((foldM (labC m c j) (numC m q d col) e i).2.2.1) + x76)), (20, vi x76), (6, vi (((foldM (labC m c j) (numC m q d col) e i).1) + 1)), (19, vi x43), (18, vi ((i : Nat) : Int)), (16, vl ((foldM (labC m c j) (numC m q d col) e i).2.2.2.2.2.2)), (7, vi ((foldM (labC m c j) (numC m q d col) e i).2.1)), (0, vr t), (1, vi j), (2, vi e), (3, vi col), (4, vi w), (5, vr q)]) rfl (Nat.le_of_ble_eq_true rfl) rfl ?_
                  refine V_ld (pc := 146) dX3_measured_146 (v := vi x76) rfl rfl ?_
                  refine V_i2l (pc := 148) dX3_measured_148 ?_
                  refine V_st (pc := 149) dX3_measured_149 (ls' := [(16, vl x76), (14, vl x76), (12, vl x126), (10, vl x76), (8, vl (((foldM (labC m c j) (numC m q d col) e i).2.2.1) + x76)), (20, vi x76), (6, vi (((foldM (labC m c j) (numC m q d col) e i).1) + 1)), (19, vi x43), (18, vi ((i : Nat) : Int)), (7, vi ((foldM (labC m c j) (numC m q d col) e i).2.1)), (0, vr t), (1, vi j), (2, vi e), (3, vi col), (4, vi w), (5, vr q)]) rfl (Nat.le_of_ble_eq_true rfl) rfl ?_
                  refine V_iinc (pc := 151) dX3_measured_151 (x := ((foldM (labC m c j) (numC m q d col) e i).2.1)) (ls' := [(7, vi (((foldM (labC m c j) (numC m q d col) e i).2.1) + 1)), (16, vl x76), (14, vl x76), (12, vl x126), (10, vl x76), (8, vl (((foldM (labC m c j) (numC m q d col) e i).2.2.1) + x76)), (20, vi x76), (6, vi (((foldM (labC m c j) (numC m q d col) e i).1) + 1)), (19, vi x43), (18, vi ((i : Nat) : Int)), (0, vr t), (1, vi j), (2, vi e), (3, vi col), (4, vi w), (5, vr q)]) rfl (by have hb := foldM_bd (L := e) (lab := labC m c j) hnum i; unfold I32; (try unfold I32 at *); omega) (Nat.le_of_ble_eq_true rfl) rfl ?_
                  refine V_iinc (pc := 154) dX3_measured_154 (x := ((i : Nat) : Int)) (ls' := [(18, vi (((i : Nat) : Int) + 1)), (7, vi (((foldM (labC m c j) (numC m q d col) e i).2.1) + 1)), (16, vl x76), (14, vl x76), (12, vl x126), (10, vl x76), (8, vl (((foldM (labC m c j) (numC m q d col) e i).2.2.1) + x76)), (20, vi x76), (6, vi (((foldM (labC m c j) (numC m q d col) e i).1) + 1)), (19, vi x43), (0, vr t), (1, vi j), (2, vi e), (3, vi col), (4, vi w), (5, vr q)]) rfl (by unfold I32 at *; omega) (Nat.le_of_ble_eq_true rfl) rfl ?_
                  refine V_goto (pc := 157) dX3_measured_157 (tgt := 32) rfl ?_
                  have ela : (mI m c (j * 32 + (i : Int)).toNat) = x43 := by omega
                  have enu : (if (i : Int) < mI m q 1 then mI m d ((i : Int) * 2 + col).toNat else 1000) = x76 := by omega
                  have e_ : foldM (labC m c j) (numC m q d col) e (i + 1) = (((foldM (labC m c j) (numC m q d col) e i).1) + 1, ((foldM (labC m c j) (numC m q d col) e i).2.1) + 1, ((foldM (labC m c j) (numC m q d col) e i).2.2.1) + x76, x76, x126, x76, x76) := by
                    show stepM (mI m c (j * 32 + (i : Int)).toNat) (if (i : Int) < mI m q 1 then mI m d ((i : Int) * 2 + col).toNat else 1000) e (foldM (labC m c j) (numC m q d col) e i) = _
                    rw [ela, enu]
                    unfold stepM
                    first
                      | (exfalso; omega)
                      | (rw [if_neg (by omega)])
                      | (rw [if_pos (by omega), if_pos (by omega)])
                      | (rw [if_pos (by omega), if_neg (by omega)]; simp only [Prod.mk.injEq]; repeat' apply And.intro
                         all_goals (first | trivial | omega))
                  have h_ := ih (i + 1) (by omega)
                  rw [e_] at h_
                  refine V_ls (ls' := [(18, vi (((i : Nat) : Int) + 1)), (16, vl x76), (14, vl x76), (12, vl x126), (10, vl x76), (8, vl (((foldM (labC m c j) (numC m q d col) e i).2.2.1) + x76)), (7, vi (((foldM (labC m c j) (numC m q d col) e i).2.1) + 1)), (6, vi (((foldM (labC m c j) (numC m q d col) e i).1) + 1)), (0, vr t), (1, vi j), (2, vi e), (3, vi col), (4, vi w), (5, vr q)]) (by intro q_ h_; simp only [List.mem_cons, List.not_mem_nil, or_false] at h_ ⊢; rcases h_ with rfl | rfl | rfl | rfl | rfl | rfl | rfl | rfl | rfl | rfl | rfl | rfl | rfl | rfl <;> simp) ?_
                  exact h_
            · skip
              refine V_goto (pc := 89) dX3_measured_89 (tgt := 154) rfl ?_
              refine V_iinc (pc := 154) dX3_measured_154 (x := ((i : Nat) : Int)) (ls' := [(18, vi (((i : Nat) : Int) + 1)), (20, vi x76), (6, vi (((foldM (labC m c j) (numC m q d col) e i).1) + 1)), (19, vi x43), (16, vl ((foldM (labC m c j) (numC m q d col) e i).2.2.2.2.2.2)), (14, vl ((foldM (labC m c j) (numC m q d col) e i).2.2.2.2.2.1)), (12, vl ((foldM (labC m c j) (numC m q d col) e i).2.2.2.2.1)), (10, vl ((foldM (labC m c j) (numC m q d col) e i).2.2.2.1)), (8, vl ((foldM (labC m c j) (numC m q d col) e i).2.2.1)), (7, vi ((foldM (labC m c j) (numC m q d col) e i).2.1)), (0, vr t), (1, vi j), (2, vi e), (3, vi col), (4, vi w), (5, vr q)]) rfl (by unfold I32 at *; omega) (Nat.le_of_ble_eq_true rfl) rfl ?_
              refine V_goto (pc := 157) dX3_measured_157 (tgt := 32) rfl ?_
              have ela : (mI m c (j * 32 + (i : Int)).toNat) = x43 := by omega
              have enu : (if (i : Int) < mI m q 1 then mI m d ((i : Int) * 2 + col).toNat else 1000) = x76 := by omega
              have e_ : foldM (labC m c j) (numC m q d col) e (i + 1) = (((foldM (labC m c j) (numC m q d col) e i).1) + 1, (foldM (labC m c j) (numC m q d col) e i).2.1, (foldM (labC m c j) (numC m q d col) e i).2.2.1, (foldM (labC m c j) (numC m q d col) e i).2.2.2.1, (foldM (labC m c j) (numC m q d col) e i).2.2.2.2.1, (foldM (labC m c j) (numC m q d col) e i).2.2.2.2.2.1, (foldM (labC m c j) (numC m q d col) e i).2.2.2.2.2.2) := by
                show stepM (mI m c (j * 32 + (i : Int)).toNat) (if (i : Int) < mI m q 1 then mI m d ((i : Int) * 2 + col).toNat else 1000) e (foldM (labC m c j) (numC m q d col) e i) = _
                rw [ela, enu]
                unfold stepM
                first
                  | (exfalso; omega)
                  | (rw [if_neg (by omega)])
                  | (rw [if_pos (by omega), if_pos (by omega)])
                  | (rw [if_pos (by omega), if_neg (by omega)]; simp only [Prod.mk.injEq]; repeat' apply And.intro
                     all_goals (first | trivial | omega))
              have h_ := ih (i + 1) (by omega)
              rw [e_] at h_
              refine V_ls (ls' := [(18, vi (((i : Nat) : Int) + 1)), (16, vl ((foldM (labC m c j) (numC m q d col) e i).2.2.2.2.2.2)), (14, vl ((foldM (labC m c j) (numC m q d col) e i).2.2.2.2.2.1)), (12, vl ((foldM (labC m c j) (numC m q d col) e i).2.2.2.2.1)), (10, vl ((foldM (labC m c j) (numC m q d col) e i).2.2.2.1)), (8, vl ((foldM (labC m c j) (numC m q d col) e i).2.2.1)), (7, vi ((foldM (labC m c j) (numC m q d col) e i).2.1)), (6, vi (((foldM (labC m c j) (numC m q d col) e i).1) + 1)), (0, vr t), (1, vi j), (2, vi e), (3, vi col), (4, vi w), (5, vr q)]) (by intro q_ h_; simp only [List.mem_cons, List.not_mem_nil, or_false] at h_ ⊢; rcases h_ with rfl | rfl | rfl | rfl | rfl | rfl | rfl | rfl | rfl | rfl | rfl | rfl | rfl | rfl <;> simp) ?_
              exact h_
          · skip
            refine V_goto (pc := 65) dX3_measured_65 (tgt := 154) rfl ?_
            refine V_iinc (pc := 154) dX3_measured_154 (x := ((i : Nat) : Int)) (ls' := [(18, vi (((i : Nat) : Int) + 1)), (19, vi x43), (16, vl ((foldM (labC m c j) (numC m q d col) e i).2.2.2.2.2.2)), (14, vl ((foldM (labC m c j) (numC m q d col) e i).2.2.2.2.2.1)), (12, vl ((foldM (labC m c j) (numC m q d col) e i).2.2.2.2.1)), (10, vl ((foldM (labC m c j) (numC m q d col) e i).2.2.2.1)), (8, vl ((foldM (labC m c j) (numC m q d col) e i).2.2.1)), (7, vi ((foldM (labC m c j) (numC m q d col) e i).2.1)), (6, vi ((foldM (labC m c j) (numC m q d col) e i).1)), (0, vr t), (1, vi j), (2, vi e), (3, vi col), (4, vi w), (5, vr q)]) rfl (by unfold I32 at *; omega) (Nat.le_of_ble_eq_true rfl) rfl ?_
            refine V_goto (pc := 157) dX3_measured_157 (tgt := 32) rfl ?_
            have ela : (mI m c (j * 32 + (i : Int)).toNat) = x43 := by omega
            have e_ : foldM (labC m c j) (numC m q d col) e (i + 1) = ((foldM (labC m c j) (numC m q d col) e i).1, (foldM (labC m c j) (numC m q d col) e i).2.1, (foldM (labC m c j) (numC m q d col) e i).2.2.1, (foldM (labC m c j) (numC m q d col) e i).2.2.2.1, (foldM (labC m c j) (numC m q d col) e i).2.2.2.2.1, (foldM (labC m c j) (numC m q d col) e i).2.2.2.2.2.1, (foldM (labC m c j) (numC m q d col) e i).2.2.2.2.2.2) := by
              show stepM (mI m c (j * 32 + (i : Int)).toNat) (if (i : Int) < mI m q 1 then mI m d ((i : Int) * 2 + col).toNat else 1000) e (foldM (labC m c j) (numC m q d col) e i) = _
              rw [ela]
              unfold stepM
              first
                | (exfalso; omega)
                | (rw [if_neg (by omega)])
                | (rw [if_pos (by omega), if_pos (by omega)])
                | (rw [if_pos (by omega), if_neg (by omega)]; simp only [Prod.mk.injEq]; repeat' apply And.intro
                   all_goals (first | trivial | omega))
            have h_ := ih (i + 1) (by omega)
            rw [e_] at h_
            refine V_ls (ls' := [(18, vi (((i : Nat) : Int) + 1)), (16, vl ((foldM (labC m c j) (numC m q d col) e i).2.2.2.2.2.2)), (14, vl ((foldM (labC m c j) (numC m q d col) e i).2.2.2.2.2.1)), (12, vl ((foldM (labC m c j) (numC m q d col) e i).2.2.2.2.1)), (10, vl ((foldM (labC m c j) (numC m q d col) e i).2.2.2.1)), (8, vl ((foldM (labC m c j) (numC m q d col) e i).2.2.1)), (7, vi ((foldM (labC m c j) (numC m q d col) e i).2.1)), (6, vi ((foldM (labC m c j) (numC m q d col) e i).1)), (0, vr t), (1, vi j), (2, vi e), (3, vi col), (4, vi w), (5, vr q)]) (by intro q_ h_; simp only [List.mem_cons, List.not_mem_nil, or_false] at h_ ⊢; rcases h_ with rfl | rfl | rfl | rfl | rfl | rfl | rfl | rfl | rfl | rfl | rfl | rfl | rfl | rfl <;> simp) ?_
            exact h_
